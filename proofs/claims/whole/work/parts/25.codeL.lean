theorem d_Law_law_0 : decode b_Law_law 0 = .ok (.new 7, 3) := by decide +kernel
theorem d_Law_law_3 : decode b_Law_law 3 = .ok (.dup, 1) := by decide +kernel
theorem d_Law_law_4 : decode b_Law_law 4 = .ok (.invokespecial 9, 3) := by decide +kernel
theorem d_Law_law_7 : decode b_Law_law 7 = .ok (.astore_n 1, 1) := by decide +kernel
theorem d_Law_law_8 : decode b_Law_law 8 = .ok (.new 10, 3) := by decide +kernel
theorem d_Law_law_11 : decode b_Law_law 11 = .ok (.dup, 1) := by decide +kernel
theorem d_Law_law_12 : decode b_Law_law 12 = .ok (.invokespecial 12, 3) := by decide +kernel
theorem d_Law_law_15 : decode b_Law_law 15 = .ok (.astore_n 2, 1) := by decide +kernel
theorem d_Law_law_16 : decode b_Law_law 16 = .ok (.iconst 0, 1) := by decide +kernel
theorem d_Law_law_17 : decode b_Law_law 17 = .ok (.istore_n 3, 1) := by decide +kernel
theorem d_Law_law_18 : decode b_Law_law 18 = .ok (.iload_n 3, 1) := by decide +kernel
theorem d_Law_law_19 : decode b_Law_law 19 = .ok (.aload_n 0, 1) := by decide +kernel
theorem d_Law_law_20 : decode b_Law_law 20 = .ok (.arraylength, 1) := by decide +kernel
theorem d_Law_law_21 : decode b_Law_law 21 = .ok (.bipush 6, 2) := by decide +kernel
theorem d_Law_law_23 : decode b_Law_law 23 = .ok (.isub, 1) := by decide +kernel
theorem d_Law_law_24 : decode b_Law_law 24 = .ok (.if_icmp .gt 1813, 3) := by decide +kernel
theorem d_Law_law_27 : decode b_Law_law 27 = .ok (.aload_n 0, 1) := by decide +kernel
theorem d_Law_law_28 : decode b_Law_law 28 = .ok (.iload_n 3, 1) := by decide +kernel
theorem d_Law_law_29 : decode b_Law_law 29 = .ok (.iaload, 1) := by decide +kernel
theorem d_Law_law_30 : decode b_Law_law 30 = .ok (.bipush 63, 2) := by decide +kernel
theorem d_Law_law_32 : decode b_Law_law 32 = .ok (.iand, 1) := by decide +kernel
theorem d_Law_law_33 : decode b_Law_law 33 = .ok (.tableswitch 1798 0 51 #[223, 236, 250, 264, 307, 380, 414, 477, 540, 563, 586, 609, 632, 665, 698, 731, 754, 777, 800, 823, 836, 869, 902, 961, 984, 997, 1020, 1053, 1096, 1129, 1152, 1175, 1208, 1231, 1264, 1307, 1340, 1373, 1416, 1459, 1502, 1535, 1578, 1601, 1624, 1647, 1670, 1693, 1716, 1739, 1772, 1785], 223) := by decide +kernel
theorem d_Law_law_256 : decode b_Law_law 256 = .ok (.aload_n 1, 1) := by decide +kernel
theorem d_Law_law_257 : decode b_Law_law 257 = .ok (.invokevirtual 13, 3) := by decide +kernel
theorem d_Law_law_260 : decode b_Law_law 260 = .ok (.aload_n 2, 1) := by decide +kernel
theorem d_Law_law_261 : decode b_Law_law 261 = .ok (.invokevirtual 17, 3) := by decide +kernel
theorem d_Law_law_264 : decode b_Law_law 264 = .ok (.if_icmp .eq 1567, 3) := by decide +kernel
theorem d_Law_law_267 : decode b_Law_law 267 = .ok (.iconst 0, 1) := by decide +kernel
theorem d_Law_law_268 : decode b_Law_law 268 = .ok (.ireturn, 1) := by decide +kernel
theorem d_Law_law_269 : decode b_Law_law 269 = .ok (.aload_n 1, 1) := by decide +kernel
theorem d_Law_law_270 : decode b_Law_law 270 = .ok (.invokevirtual 18, 3) := by decide +kernel
theorem d_Law_law_273 : decode b_Law_law 273 = .ok (.aload_n 2, 1) := by decide +kernel
theorem d_Law_law_274 : decode b_Law_law 274 = .ok (.invokevirtual 22, 3) := by decide +kernel
theorem d_Law_law_277 : decode b_Law_law 277 = .ok (.lcmp, 1) := by decide +kernel
theorem d_Law_law_278 : decode b_Law_law 278 = .ok (.ifCond .eq 1553, 3) := by decide +kernel
theorem d_Law_law_281 : decode b_Law_law 281 = .ok (.iconst 0, 1) := by decide +kernel
theorem d_Law_law_282 : decode b_Law_law 282 = .ok (.ireturn, 1) := by decide +kernel
theorem d_Law_law_283 : decode b_Law_law 283 = .ok (.aload_n 1, 1) := by decide +kernel
theorem d_Law_law_284 : decode b_Law_law 284 = .ok (.invokevirtual 23, 3) := by decide +kernel
theorem d_Law_law_287 : decode b_Law_law 287 = .ok (.aload_n 2, 1) := by decide +kernel
theorem d_Law_law_288 : decode b_Law_law 288 = .ok (.invokevirtual 26, 3) := by decide +kernel
theorem d_Law_law_291 : decode b_Law_law 291 = .ok (.lcmp, 1) := by decide +kernel
theorem d_Law_law_292 : decode b_Law_law 292 = .ok (.ifCond .eq 1539, 3) := by decide +kernel
theorem d_Law_law_295 : decode b_Law_law 295 = .ok (.iconst 0, 1) := by decide +kernel
theorem d_Law_law_296 : decode b_Law_law 296 = .ok (.ireturn, 1) := by decide +kernel
theorem d_Law_law_297 : decode b_Law_law 297 = .ok (.aload_n 1, 1) := by decide +kernel
theorem d_Law_law_298 : decode b_Law_law 298 = .ok (.aload_n 0, 1) := by decide +kernel
theorem d_Law_law_299 : decode b_Law_law 299 = .ok (.iload_n 3, 1) := by decide +kernel
theorem d_Law_law_300 : decode b_Law_law 300 = .ok (.iconst 1, 1) := by decide +kernel
theorem d_Law_law_301 : decode b_Law_law 301 = .ok (.iadd, 1) := by decide +kernel
theorem d_Law_law_302 : decode b_Law_law 302 = .ok (.iaload, 1) := by decide +kernel
theorem d_Law_law_303 : decode b_Law_law 303 = .ok (.aload_n 0, 1) := by decide +kernel
theorem d_Law_law_304 : decode b_Law_law 304 = .ok (.iload_n 3, 1) := by decide +kernel
theorem d_Law_law_305 : decode b_Law_law 305 = .ok (.iconst 2, 1) := by decide +kernel
theorem d_Law_law_306 : decode b_Law_law 306 = .ok (.iadd, 1) := by decide +kernel
theorem d_Law_law_307 : decode b_Law_law 307 = .ok (.iaload, 1) := by decide +kernel
theorem d_Law_law_308 : decode b_Law_law 308 = .ok (.aload_n 0, 1) := by decide +kernel
theorem d_Law_law_309 : decode b_Law_law 309 = .ok (.iload_n 3, 1) := by decide +kernel
theorem d_Law_law_310 : decode b_Law_law 310 = .ok (.iconst 3, 1) := by decide +kernel
theorem d_Law_law_311 : decode b_Law_law 311 = .ok (.iadd, 1) := by decide +kernel
theorem d_Law_law_312 : decode b_Law_law 312 = .ok (.iaload, 1) := by decide +kernel
theorem d_Law_law_313 : decode b_Law_law 313 = .ok (.invokevirtual 27, 3) := by decide +kernel
theorem d_Law_law_316 : decode b_Law_law 316 = .ok (.aload_n 2, 1) := by decide +kernel
theorem d_Law_law_317 : decode b_Law_law 317 = .ok (.aload_n 0, 1) := by decide +kernel
theorem d_Law_law_318 : decode b_Law_law 318 = .ok (.iload_n 3, 1) := by decide +kernel
theorem d_Law_law_319 : decode b_Law_law 319 = .ok (.iconst 1, 1) := by decide +kernel
theorem d_Law_law_320 : decode b_Law_law 320 = .ok (.iadd, 1) := by decide +kernel
theorem d_Law_law_321 : decode b_Law_law 321 = .ok (.iaload, 1) := by decide +kernel
theorem d_Law_law_322 : decode b_Law_law 322 = .ok (.aload_n 0, 1) := by decide +kernel
theorem d_Law_law_323 : decode b_Law_law 323 = .ok (.iload_n 3, 1) := by decide +kernel
theorem d_Law_law_324 : decode b_Law_law 324 = .ok (.iconst 2, 1) := by decide +kernel
theorem d_Law_law_325 : decode b_Law_law 325 = .ok (.iadd, 1) := by decide +kernel
theorem d_Law_law_326 : decode b_Law_law 326 = .ok (.iaload, 1) := by decide +kernel
theorem d_Law_law_327 : decode b_Law_law 327 = .ok (.aload_n 0, 1) := by decide +kernel
theorem d_Law_law_328 : decode b_Law_law 328 = .ok (.iload_n 3, 1) := by decide +kernel
theorem d_Law_law_329 : decode b_Law_law 329 = .ok (.iconst 3, 1) := by decide +kernel
theorem d_Law_law_330 : decode b_Law_law 330 = .ok (.iadd, 1) := by decide +kernel
theorem d_Law_law_331 : decode b_Law_law 331 = .ok (.iaload, 1) := by decide +kernel
theorem d_Law_law_332 : decode b_Law_law 332 = .ok (.invokevirtual 31, 3) := by decide +kernel
theorem d_Law_law_335 : decode b_Law_law 335 = .ok (.if_icmp .eq 1496, 3) := by decide +kernel
theorem d_Law_law_338 : decode b_Law_law 338 = .ok (.iconst 0, 1) := by decide +kernel
theorem d_Law_law_339 : decode b_Law_law 339 = .ok (.ireturn, 1) := by decide +kernel
theorem d_Law_law_340 : decode b_Law_law 340 = .ok (.aload_n 1, 1) := by decide +kernel
theorem d_Law_law_341 : decode b_Law_law 341 = .ok (.aload_n 0, 1) := by decide +kernel
theorem d_Law_law_342 : decode b_Law_law 342 = .ok (.iload_n 3, 1) := by decide +kernel
theorem d_Law_law_343 : decode b_Law_law 343 = .ok (.iconst 1, 1) := by decide +kernel
theorem d_Law_law_344 : decode b_Law_law 344 = .ok (.iadd, 1) := by decide +kernel
theorem d_Law_law_345 : decode b_Law_law 345 = .ok (.iaload, 1) := by decide +kernel
theorem d_Law_law_346 : decode b_Law_law 346 = .ok (.aload_n 0, 1) := by decide +kernel
theorem d_Law_law_347 : decode b_Law_law 347 = .ok (.iload_n 3, 1) := by decide +kernel
theorem d_Law_law_348 : decode b_Law_law 348 = .ok (.iconst 2, 1) := by decide +kernel
theorem d_Law_law_349 : decode b_Law_law 349 = .ok (.iadd, 1) := by decide +kernel
theorem d_Law_law_350 : decode b_Law_law 350 = .ok (.iaload, 1) := by decide +kernel
theorem d_Law_law_351 : decode b_Law_law 351 = .ok (.aload_n 0, 1) := by decide +kernel
theorem d_Law_law_352 : decode b_Law_law 352 = .ok (.iload_n 3, 1) := by decide +kernel
theorem d_Law_law_353 : decode b_Law_law 353 = .ok (.iconst 3, 1) := by decide +kernel
theorem d_Law_law_354 : decode b_Law_law 354 = .ok (.iadd, 1) := by decide +kernel
theorem d_Law_law_355 : decode b_Law_law 355 = .ok (.iaload, 1) := by decide +kernel
theorem d_Law_law_356 : decode b_Law_law 356 = .ok (.i2l, 1) := by decide +kernel
theorem d_Law_law_357 : decode b_Law_law 357 = .ok (.bipush 32, 2) := by decide +kernel
theorem d_Law_law_359 : decode b_Law_law 359 = .ok (.lshl, 1) := by decide +kernel
theorem d_Law_law_360 : decode b_Law_law 360 = .ok (.aload_n 0, 1) := by decide +kernel
theorem d_Law_law_361 : decode b_Law_law 361 = .ok (.iload_n 3, 1) := by decide +kernel
theorem d_Law_law_362 : decode b_Law_law 362 = .ok (.iconst 4, 1) := by decide +kernel
theorem d_Law_law_363 : decode b_Law_law 363 = .ok (.iadd, 1) := by decide +kernel
theorem d_Law_law_364 : decode b_Law_law 364 = .ok (.iaload, 1) := by decide +kernel
theorem d_Law_law_365 : decode b_Law_law 365 = .ok (.i2l, 1) := by decide +kernel
theorem d_Law_law_366 : decode b_Law_law 366 = .ok (.ldc2_w 32, 3) := by decide +kernel
theorem d_Law_law_369 : decode b_Law_law 369 = .ok (.land, 1) := by decide +kernel
theorem d_Law_law_370 : decode b_Law_law 370 = .ok (.lor, 1) := by decide +kernel
theorem d_Law_law_371 : decode b_Law_law 371 = .ok (.invokevirtual 34, 3) := by decide +kernel
theorem d_Law_law_374 : decode b_Law_law 374 = .ok (.aload_n 2, 1) := by decide +kernel
theorem d_Law_law_375 : decode b_Law_law 375 = .ok (.aload_n 0, 1) := by decide +kernel
theorem d_Law_law_376 : decode b_Law_law 376 = .ok (.iload_n 3, 1) := by decide +kernel
theorem d_Law_law_377 : decode b_Law_law 377 = .ok (.iconst 1, 1) := by decide +kernel
theorem d_Law_law_378 : decode b_Law_law 378 = .ok (.iadd, 1) := by decide +kernel
theorem d_Law_law_379 : decode b_Law_law 379 = .ok (.iaload, 1) := by decide +kernel
theorem d_Law_law_380 : decode b_Law_law 380 = .ok (.aload_n 0, 1) := by decide +kernel
theorem d_Law_law_381 : decode b_Law_law 381 = .ok (.iload_n 3, 1) := by decide +kernel
theorem d_Law_law_382 : decode b_Law_law 382 = .ok (.iconst 2, 1) := by decide +kernel
theorem d_Law_law_383 : decode b_Law_law 383 = .ok (.iadd, 1) := by decide +kernel
theorem d_Law_law_384 : decode b_Law_law 384 = .ok (.iaload, 1) := by decide +kernel
theorem d_Law_law_385 : decode b_Law_law 385 = .ok (.aload_n 0, 1) := by decide +kernel
theorem d_Law_law_386 : decode b_Law_law 386 = .ok (.iload_n 3, 1) := by decide +kernel
theorem d_Law_law_387 : decode b_Law_law 387 = .ok (.iconst 3, 1) := by decide +kernel
theorem d_Law_law_388 : decode b_Law_law 388 = .ok (.iadd, 1) := by decide +kernel
theorem d_Law_law_389 : decode b_Law_law 389 = .ok (.iaload, 1) := by decide +kernel
theorem d_Law_law_390 : decode b_Law_law 390 = .ok (.i2l, 1) := by decide +kernel
theorem d_Law_law_391 : decode b_Law_law 391 = .ok (.bipush 32, 2) := by decide +kernel
theorem d_Law_law_393 : decode b_Law_law 393 = .ok (.lshl, 1) := by decide +kernel
theorem d_Law_law_394 : decode b_Law_law 394 = .ok (.aload_n 0, 1) := by decide +kernel
theorem d_Law_law_395 : decode b_Law_law 395 = .ok (.iload_n 3, 1) := by decide +kernel
theorem d_Law_law_396 : decode b_Law_law 396 = .ok (.iconst 4, 1) := by decide +kernel
theorem d_Law_law_397 : decode b_Law_law 397 = .ok (.iadd, 1) := by decide +kernel
theorem d_Law_law_398 : decode b_Law_law 398 = .ok (.iaload, 1) := by decide +kernel
theorem d_Law_law_399 : decode b_Law_law 399 = .ok (.i2l, 1) := by decide +kernel
theorem d_Law_law_400 : decode b_Law_law 400 = .ok (.ldc2_w 32, 3) := by decide +kernel
theorem d_Law_law_403 : decode b_Law_law 403 = .ok (.land, 1) := by decide +kernel
theorem d_Law_law_404 : decode b_Law_law 404 = .ok (.lor, 1) := by decide +kernel
theorem d_Law_law_405 : decode b_Law_law 405 = .ok (.invokevirtual 38, 3) := by decide +kernel
theorem d_Law_law_408 : decode b_Law_law 408 = .ok (.if_icmp .eq 1423, 3) := by decide +kernel
theorem d_Law_law_411 : decode b_Law_law 411 = .ok (.iconst 0, 1) := by decide +kernel
theorem d_Law_law_412 : decode b_Law_law 412 = .ok (.ireturn, 1) := by decide +kernel
theorem d_Law_law_413 : decode b_Law_law 413 = .ok (.aload_n 1, 1) := by decide +kernel
theorem d_Law_law_414 : decode b_Law_law 414 = .ok (.aload_n 0, 1) := by decide +kernel
theorem d_Law_law_415 : decode b_Law_law 415 = .ok (.iload_n 3, 1) := by decide +kernel
theorem d_Law_law_416 : decode b_Law_law 416 = .ok (.iconst 1, 1) := by decide +kernel
theorem d_Law_law_417 : decode b_Law_law 417 = .ok (.iadd, 1) := by decide +kernel
theorem d_Law_law_418 : decode b_Law_law 418 = .ok (.iaload, 1) := by decide +kernel
theorem d_Law_law_419 : decode b_Law_law 419 = .ok (.aload_n 0, 1) := by decide +kernel
theorem d_Law_law_420 : decode b_Law_law 420 = .ok (.iload_n 3, 1) := by decide +kernel
theorem d_Law_law_421 : decode b_Law_law 421 = .ok (.iconst 2, 1) := by decide +kernel
theorem d_Law_law_422 : decode b_Law_law 422 = .ok (.iadd, 1) := by decide +kernel
theorem d_Law_law_423 : decode b_Law_law 423 = .ok (.iaload, 1) := by decide +kernel
theorem d_Law_law_424 : decode b_Law_law 424 = .ok (.invokevirtual 39, 3) := by decide +kernel
theorem d_Law_law_427 : decode b_Law_law 427 = .ok (.aload_n 2, 1) := by decide +kernel
theorem d_Law_law_428 : decode b_Law_law 428 = .ok (.aload_n 0, 1) := by decide +kernel
theorem d_Law_law_429 : decode b_Law_law 429 = .ok (.iload_n 3, 1) := by decide +kernel
theorem d_Law_law_430 : decode b_Law_law 430 = .ok (.iconst 1, 1) := by decide +kernel
theorem d_Law_law_431 : decode b_Law_law 431 = .ok (.iadd, 1) := by decide +kernel
theorem d_Law_law_432 : decode b_Law_law 432 = .ok (.iaload, 1) := by decide +kernel
theorem d_Law_law_433 : decode b_Law_law 433 = .ok (.aload_n 0, 1) := by decide +kernel
theorem d_Law_law_434 : decode b_Law_law 434 = .ok (.iload_n 3, 1) := by decide +kernel
theorem d_Law_law_435 : decode b_Law_law 435 = .ok (.iconst 2, 1) := by decide +kernel
theorem d_Law_law_436 : decode b_Law_law 436 = .ok (.iadd, 1) := by decide +kernel
theorem d_Law_law_437 : decode b_Law_law 437 = .ok (.iaload, 1) := by decide +kernel
theorem d_Law_law_438 : decode b_Law_law 438 = .ok (.invokevirtual 43, 3) := by decide +kernel
theorem d_Law_law_441 : decode b_Law_law 441 = .ok (.lcmp, 1) := by decide +kernel
theorem d_Law_law_442 : decode b_Law_law 442 = .ok (.ifCond .eq 1389, 3) := by decide +kernel
theorem d_Law_law_445 : decode b_Law_law 445 = .ok (.iconst 0, 1) := by decide +kernel
theorem d_Law_law_446 : decode b_Law_law 446 = .ok (.ireturn, 1) := by decide +kernel
theorem d_Law_law_447 : decode b_Law_law 447 = .ok (.aload_n 1, 1) := by decide +kernel
theorem d_Law_law_448 : decode b_Law_law 448 = .ok (.aload_n 0, 1) := by decide +kernel
theorem d_Law_law_449 : decode b_Law_law 449 = .ok (.iload_n 3, 1) := by decide +kernel
theorem d_Law_law_450 : decode b_Law_law 450 = .ok (.iconst 1, 1) := by decide +kernel
theorem d_Law_law_451 : decode b_Law_law 451 = .ok (.iadd, 1) := by decide +kernel
theorem d_Law_law_452 : decode b_Law_law 452 = .ok (.iaload, 1) := by decide +kernel
theorem d_Law_law_453 : decode b_Law_law 453 = .ok (.aload_n 0, 1) := by decide +kernel
theorem d_Law_law_454 : decode b_Law_law 454 = .ok (.iload_n 3, 1) := by decide +kernel
theorem d_Law_law_455 : decode b_Law_law 455 = .ok (.iconst 2, 1) := by decide +kernel
theorem d_Law_law_456 : decode b_Law_law 456 = .ok (.iadd, 1) := by decide +kernel
theorem d_Law_law_457 : decode b_Law_law 457 = .ok (.iaload, 1) := by decide +kernel
theorem d_Law_law_458 : decode b_Law_law 458 = .ok (.aload_n 0, 1) := by decide +kernel
theorem d_Law_law_459 : decode b_Law_law 459 = .ok (.iload_n 3, 1) := by decide +kernel
theorem d_Law_law_460 : decode b_Law_law 460 = .ok (.iconst 3, 1) := by decide +kernel
theorem d_Law_law_461 : decode b_Law_law 461 = .ok (.iadd, 1) := by decide +kernel
theorem d_Law_law_462 : decode b_Law_law 462 = .ok (.iaload, 1) := by decide +kernel
theorem d_Law_law_463 : decode b_Law_law 463 = .ok (.aload_n 0, 1) := by decide +kernel
theorem d_Law_law_464 : decode b_Law_law 464 = .ok (.iload_n 3, 1) := by decide +kernel
theorem d_Law_law_465 : decode b_Law_law 465 = .ok (.iconst 4, 1) := by decide +kernel
theorem d_Law_law_466 : decode b_Law_law 466 = .ok (.iadd, 1) := by decide +kernel
theorem d_Law_law_467 : decode b_Law_law 467 = .ok (.iaload, 1) := by decide +kernel
theorem d_Law_law_468 : decode b_Law_law 468 = .ok (.aload_n 0, 1) := by decide +kernel
theorem d_Law_law_469 : decode b_Law_law 469 = .ok (.iload_n 3, 1) := by decide +kernel
theorem d_Law_law_470 : decode b_Law_law 470 = .ok (.iconst 5, 1) := by decide +kernel
theorem d_Law_law_471 : decode b_Law_law 471 = .ok (.iadd, 1) := by decide +kernel
theorem d_Law_law_472 : decode b_Law_law 472 = .ok (.iaload, 1) := by decide +kernel
theorem d_Law_law_473 : decode b_Law_law 473 = .ok (.invokevirtual 44, 3) := by decide +kernel
theorem d_Law_law_476 : decode b_Law_law 476 = .ok (.aload_n 2, 1) := by decide +kernel
theorem d_Law_law_477 : decode b_Law_law 477 = .ok (.aload_n 0, 1) := by decide +kernel
theorem d_Law_law_478 : decode b_Law_law 478 = .ok (.iload_n 3, 1) := by decide +kernel
theorem d_Law_law_479 : decode b_Law_law 479 = .ok (.iconst 1, 1) := by decide +kernel
theorem d_Law_law_480 : decode b_Law_law 480 = .ok (.iadd, 1) := by decide +kernel
theorem d_Law_law_481 : decode b_Law_law 481 = .ok (.iaload, 1) := by decide +kernel
theorem d_Law_law_482 : decode b_Law_law 482 = .ok (.aload_n 0, 1) := by decide +kernel
theorem d_Law_law_483 : decode b_Law_law 483 = .ok (.iload_n 3, 1) := by decide +kernel
theorem d_Law_law_484 : decode b_Law_law 484 = .ok (.iconst 2, 1) := by decide +kernel
theorem d_Law_law_485 : decode b_Law_law 485 = .ok (.iadd, 1) := by decide +kernel
theorem d_Law_law_486 : decode b_Law_law 486 = .ok (.iaload, 1) := by decide +kernel
theorem d_Law_law_487 : decode b_Law_law 487 = .ok (.aload_n 0, 1) := by decide +kernel
theorem d_Law_law_488 : decode b_Law_law 488 = .ok (.iload_n 3, 1) := by decide +kernel
theorem d_Law_law_489 : decode b_Law_law 489 = .ok (.iconst 3, 1) := by decide +kernel
theorem d_Law_law_490 : decode b_Law_law 490 = .ok (.iadd, 1) := by decide +kernel
theorem d_Law_law_491 : decode b_Law_law 491 = .ok (.iaload, 1) := by decide +kernel
theorem d_Law_law_492 : decode b_Law_law 492 = .ok (.aload_n 0, 1) := by decide +kernel
theorem d_Law_law_493 : decode b_Law_law 493 = .ok (.iload_n 3, 1) := by decide +kernel
theorem d_Law_law_494 : decode b_Law_law 494 = .ok (.iconst 4, 1) := by decide +kernel
theorem d_Law_law_495 : decode b_Law_law 495 = .ok (.iadd, 1) := by decide +kernel
theorem d_Law_law_496 : decode b_Law_law 496 = .ok (.iaload, 1) := by decide +kernel
theorem d_Law_law_497 : decode b_Law_law 497 = .ok (.aload_n 0, 1) := by decide +kernel
theorem d_Law_law_498 : decode b_Law_law 498 = .ok (.iload_n 3, 1) := by decide +kernel
theorem d_Law_law_499 : decode b_Law_law 499 = .ok (.iconst 5, 1) := by decide +kernel
theorem d_Law_law_500 : decode b_Law_law 500 = .ok (.iadd, 1) := by decide +kernel
theorem d_Law_law_501 : decode b_Law_law 501 = .ok (.iaload, 1) := by decide +kernel
theorem d_Law_law_502 : decode b_Law_law 502 = .ok (.invokevirtual 48, 3) := by decide +kernel
theorem d_Law_law_505 : decode b_Law_law 505 = .ok (.if_icmp .eq 1326, 3) := by decide +kernel
theorem d_Law_law_508 : decode b_Law_law 508 = .ok (.iconst 0, 1) := by decide +kernel
theorem d_Law_law_509 : decode b_Law_law 509 = .ok (.ireturn, 1) := by decide +kernel
theorem d_Law_law_510 : decode b_Law_law 510 = .ok (.aload_n 1, 1) := by decide +kernel
theorem d_Law_law_511 : decode b_Law_law 511 = .ok (.aload_n 0, 1) := by decide +kernel
theorem d_Law_law_512 : decode b_Law_law 512 = .ok (.iload_n 3, 1) := by decide +kernel
theorem d_Law_law_513 : decode b_Law_law 513 = .ok (.iconst 1, 1) := by decide +kernel
theorem d_Law_law_514 : decode b_Law_law 514 = .ok (.iadd, 1) := by decide +kernel
theorem d_Law_law_515 : decode b_Law_law 515 = .ok (.iaload, 1) := by decide +kernel
theorem d_Law_law_516 : decode b_Law_law 516 = .ok (.aload_n 0, 1) := by decide +kernel
theorem d_Law_law_517 : decode b_Law_law 517 = .ok (.iload_n 3, 1) := by decide +kernel
theorem d_Law_law_518 : decode b_Law_law 518 = .ok (.iconst 2, 1) := by decide +kernel
theorem d_Law_law_519 : decode b_Law_law 519 = .ok (.iadd, 1) := by decide +kernel
theorem d_Law_law_520 : decode b_Law_law 520 = .ok (.iaload, 1) := by decide +kernel
theorem d_Law_law_521 : decode b_Law_law 521 = .ok (.aload_n 0, 1) := by decide +kernel
theorem d_Law_law_522 : decode b_Law_law 522 = .ok (.iload_n 3, 1) := by decide +kernel
theorem d_Law_law_523 : decode b_Law_law 523 = .ok (.iconst 3, 1) := by decide +kernel
theorem d_Law_law_524 : decode b_Law_law 524 = .ok (.iadd, 1) := by decide +kernel
theorem d_Law_law_525 : decode b_Law_law 525 = .ok (.iaload, 1) := by decide +kernel
theorem d_Law_law_526 : decode b_Law_law 526 = .ok (.aload_n 0, 1) := by decide +kernel
theorem d_Law_law_527 : decode b_Law_law 527 = .ok (.iload_n 3, 1) := by decide +kernel
theorem d_Law_law_528 : decode b_Law_law 528 = .ok (.iconst 4, 1) := by decide +kernel
theorem d_Law_law_529 : decode b_Law_law 529 = .ok (.iadd, 1) := by decide +kernel
theorem d_Law_law_530 : decode b_Law_law 530 = .ok (.iaload, 1) := by decide +kernel
theorem d_Law_law_531 : decode b_Law_law 531 = .ok (.aload_n 0, 1) := by decide +kernel
theorem d_Law_law_532 : decode b_Law_law 532 = .ok (.iload_n 3, 1) := by decide +kernel
theorem d_Law_law_533 : decode b_Law_law 533 = .ok (.iconst 5, 1) := by decide +kernel
theorem d_Law_law_534 : decode b_Law_law 534 = .ok (.iadd, 1) := by decide +kernel
theorem d_Law_law_535 : decode b_Law_law 535 = .ok (.iaload, 1) := by decide +kernel
theorem d_Law_law_536 : decode b_Law_law 536 = .ok (.invokevirtual 49, 3) := by decide +kernel
theorem d_Law_law_539 : decode b_Law_law 539 = .ok (.aload_n 2, 1) := by decide +kernel
theorem d_Law_law_540 : decode b_Law_law 540 = .ok (.aload_n 0, 1) := by decide +kernel
theorem d_Law_law_541 : decode b_Law_law 541 = .ok (.iload_n 3, 1) := by decide +kernel
theorem d_Law_law_542 : decode b_Law_law 542 = .ok (.iconst 1, 1) := by decide +kernel
theorem d_Law_law_543 : decode b_Law_law 543 = .ok (.iadd, 1) := by decide +kernel
theorem d_Law_law_544 : decode b_Law_law 544 = .ok (.iaload, 1) := by decide +kernel
theorem d_Law_law_545 : decode b_Law_law 545 = .ok (.aload_n 0, 1) := by decide +kernel
theorem d_Law_law_546 : decode b_Law_law 546 = .ok (.iload_n 3, 1) := by decide +kernel
theorem d_Law_law_547 : decode b_Law_law 547 = .ok (.iconst 2, 1) := by decide +kernel
theorem d_Law_law_548 : decode b_Law_law 548 = .ok (.iadd, 1) := by decide +kernel
theorem d_Law_law_549 : decode b_Law_law 549 = .ok (.iaload, 1) := by decide +kernel
theorem d_Law_law_550 : decode b_Law_law 550 = .ok (.aload_n 0, 1) := by decide +kernel
theorem d_Law_law_551 : decode b_Law_law 551 = .ok (.iload_n 3, 1) := by decide +kernel
theorem d_Law_law_552 : decode b_Law_law 552 = .ok (.iconst 3, 1) := by decide +kernel
theorem d_Law_law_553 : decode b_Law_law 553 = .ok (.iadd, 1) := by decide +kernel
theorem d_Law_law_554 : decode b_Law_law 554 = .ok (.iaload, 1) := by decide +kernel
theorem d_Law_law_555 : decode b_Law_law 555 = .ok (.aload_n 0, 1) := by decide +kernel
theorem d_Law_law_556 : decode b_Law_law 556 = .ok (.iload_n 3, 1) := by decide +kernel
theorem d_Law_law_557 : decode b_Law_law 557 = .ok (.iconst 4, 1) := by decide +kernel
theorem d_Law_law_558 : decode b_Law_law 558 = .ok (.iadd, 1) := by decide +kernel
theorem d_Law_law_559 : decode b_Law_law 559 = .ok (.iaload, 1) := by decide +kernel
theorem d_Law_law_560 : decode b_Law_law 560 = .ok (.aload_n 0, 1) := by decide +kernel
theorem d_Law_law_561 : decode b_Law_law 561 = .ok (.iload_n 3, 1) := by decide +kernel
theorem d_Law_law_562 : decode b_Law_law 562 = .ok (.iconst 5, 1) := by decide +kernel
theorem d_Law_law_563 : decode b_Law_law 563 = .ok (.iadd, 1) := by decide +kernel
theorem d_Law_law_564 : decode b_Law_law 564 = .ok (.iaload, 1) := by decide +kernel
theorem d_Law_law_565 : decode b_Law_law 565 = .ok (.invokevirtual 53, 3) := by decide +kernel
theorem d_Law_law_568 : decode b_Law_law 568 = .ok (.if_icmp .eq 1263, 3) := by decide +kernel
theorem d_Law_law_571 : decode b_Law_law 571 = .ok (.iconst 0, 1) := by decide +kernel
theorem d_Law_law_572 : decode b_Law_law 572 = .ok (.ireturn, 1) := by decide +kernel
theorem d_Law_law_573 : decode b_Law_law 573 = .ok (.aload_n 1, 1) := by decide +kernel
theorem d_Law_law_574 : decode b_Law_law 574 = .ok (.aload_n 0, 1) := by decide +kernel
theorem d_Law_law_575 : decode b_Law_law 575 = .ok (.iload_n 3, 1) := by decide +kernel
theorem d_Law_law_576 : decode b_Law_law 576 = .ok (.iconst 1, 1) := by decide +kernel
theorem d_Law_law_577 : decode b_Law_law 577 = .ok (.iadd, 1) := by decide +kernel
theorem d_Law_law_578 : decode b_Law_law 578 = .ok (.iaload, 1) := by decide +kernel
theorem d_Law_law_579 : decode b_Law_law 579 = .ok (.invokevirtual 54, 3) := by decide +kernel
theorem d_Law_law_582 : decode b_Law_law 582 = .ok (.aload_n 2, 1) := by decide +kernel
theorem d_Law_law_583 : decode b_Law_law 583 = .ok (.aload_n 0, 1) := by decide +kernel
theorem d_Law_law_584 : decode b_Law_law 584 = .ok (.iload_n 3, 1) := by decide +kernel
theorem d_Law_law_585 : decode b_Law_law 585 = .ok (.iconst 1, 1) := by decide +kernel
theorem d_Law_law_586 : decode b_Law_law 586 = .ok (.iadd, 1) := by decide +kernel
theorem d_Law_law_587 : decode b_Law_law 587 = .ok (.iaload, 1) := by decide +kernel
theorem d_Law_law_588 : decode b_Law_law 588 = .ok (.invokevirtual 58, 3) := by decide +kernel
theorem d_Law_law_591 : decode b_Law_law 591 = .ok (.if_icmp .eq 1240, 3) := by decide +kernel
theorem d_Law_law_594 : decode b_Law_law 594 = .ok (.iconst 0, 1) := by decide +kernel
theorem d_Law_law_595 : decode b_Law_law 595 = .ok (.ireturn, 1) := by decide +kernel
theorem d_Law_law_596 : decode b_Law_law 596 = .ok (.aload_n 1, 1) := by decide +kernel
theorem d_Law_law_597 : decode b_Law_law 597 = .ok (.aload_n 0, 1) := by decide +kernel
theorem d_Law_law_598 : decode b_Law_law 598 = .ok (.iload_n 3, 1) := by decide +kernel
theorem d_Law_law_599 : decode b_Law_law 599 = .ok (.iconst 1, 1) := by decide +kernel
theorem d_Law_law_600 : decode b_Law_law 600 = .ok (.iadd, 1) := by decide +kernel
theorem d_Law_law_601 : decode b_Law_law 601 = .ok (.iaload, 1) := by decide +kernel
theorem d_Law_law_602 : decode b_Law_law 602 = .ok (.invokevirtual 59, 3) := by decide +kernel
theorem d_Law_law_605 : decode b_Law_law 605 = .ok (.aload_n 2, 1) := by decide +kernel
theorem d_Law_law_606 : decode b_Law_law 606 = .ok (.aload_n 0, 1) := by decide +kernel
theorem d_Law_law_607 : decode b_Law_law 607 = .ok (.iload_n 3, 1) := by decide +kernel
theorem d_Law_law_608 : decode b_Law_law 608 = .ok (.iconst 1, 1) := by decide +kernel
theorem d_Law_law_609 : decode b_Law_law 609 = .ok (.iadd, 1) := by decide +kernel
theorem d_Law_law_610 : decode b_Law_law 610 = .ok (.iaload, 1) := by decide +kernel
theorem d_Law_law_611 : decode b_Law_law 611 = .ok (.invokevirtual 62, 3) := by decide +kernel
theorem d_Law_law_614 : decode b_Law_law 614 = .ok (.if_icmp .eq 1217, 3) := by decide +kernel
theorem d_Law_law_617 : decode b_Law_law 617 = .ok (.iconst 0, 1) := by decide +kernel
theorem d_Law_law_618 : decode b_Law_law 618 = .ok (.ireturn, 1) := by decide +kernel
theorem d_Law_law_619 : decode b_Law_law 619 = .ok (.aload_n 1, 1) := by decide +kernel
theorem d_Law_law_620 : decode b_Law_law 620 = .ok (.aload_n 0, 1) := by decide +kernel
theorem d_Law_law_621 : decode b_Law_law 621 = .ok (.iload_n 3, 1) := by decide +kernel
theorem d_Law_law_622 : decode b_Law_law 622 = .ok (.iconst 1, 1) := by decide +kernel
theorem d_Law_law_623 : decode b_Law_law 623 = .ok (.iadd, 1) := by decide +kernel
theorem d_Law_law_624 : decode b_Law_law 624 = .ok (.iaload, 1) := by decide +kernel
theorem d_Law_law_625 : decode b_Law_law 625 = .ok (.invokevirtual 63, 3) := by decide +kernel
theorem d_Law_law_628 : decode b_Law_law 628 = .ok (.aload_n 2, 1) := by decide +kernel
theorem d_Law_law_629 : decode b_Law_law 629 = .ok (.aload_n 0, 1) := by decide +kernel
theorem d_Law_law_630 : decode b_Law_law 630 = .ok (.iload_n 3, 1) := by decide +kernel
theorem d_Law_law_631 : decode b_Law_law 631 = .ok (.iconst 1, 1) := by decide +kernel
theorem d_Law_law_632 : decode b_Law_law 632 = .ok (.iadd, 1) := by decide +kernel
theorem d_Law_law_633 : decode b_Law_law 633 = .ok (.iaload, 1) := by decide +kernel
theorem d_Law_law_634 : decode b_Law_law 634 = .ok (.invokevirtual 66, 3) := by decide +kernel
theorem d_Law_law_637 : decode b_Law_law 637 = .ok (.if_icmp .eq 1194, 3) := by decide +kernel
theorem d_Law_law_640 : decode b_Law_law 640 = .ok (.iconst 0, 1) := by decide +kernel
theorem d_Law_law_641 : decode b_Law_law 641 = .ok (.ireturn, 1) := by decide +kernel
theorem d_Law_law_642 : decode b_Law_law 642 = .ok (.aload_n 1, 1) := by decide +kernel
theorem d_Law_law_643 : decode b_Law_law 643 = .ok (.aload_n 0, 1) := by decide +kernel
theorem d_Law_law_644 : decode b_Law_law 644 = .ok (.iload_n 3, 1) := by decide +kernel
theorem d_Law_law_645 : decode b_Law_law 645 = .ok (.iconst 1, 1) := by decide +kernel
theorem d_Law_law_646 : decode b_Law_law 646 = .ok (.iadd, 1) := by decide +kernel
theorem d_Law_law_647 : decode b_Law_law 647 = .ok (.iaload, 1) := by decide +kernel
theorem d_Law_law_648 : decode b_Law_law 648 = .ok (.invokevirtual 67, 3) := by decide +kernel
theorem d_Law_law_651 : decode b_Law_law 651 = .ok (.aload_n 2, 1) := by decide +kernel
theorem d_Law_law_652 : decode b_Law_law 652 = .ok (.aload_n 0, 1) := by decide +kernel
theorem d_Law_law_653 : decode b_Law_law 653 = .ok (.iload_n 3, 1) := by decide +kernel
theorem d_Law_law_654 : decode b_Law_law 654 = .ok (.iconst 1, 1) := by decide +kernel
theorem d_Law_law_655 : decode b_Law_law 655 = .ok (.iadd, 1) := by decide +kernel
theorem d_Law_law_656 : decode b_Law_law 656 = .ok (.iaload, 1) := by decide +kernel
theorem d_Law_law_657 : decode b_Law_law 657 = .ok (.invokevirtual 70, 3) := by decide +kernel
theorem d_Law_law_660 : decode b_Law_law 660 = .ok (.if_icmp .eq 1171, 3) := by decide +kernel
theorem d_Law_law_663 : decode b_Law_law 663 = .ok (.iconst 0, 1) := by decide +kernel
theorem d_Law_law_664 : decode b_Law_law 664 = .ok (.ireturn, 1) := by decide +kernel
theorem d_Law_law_665 : decode b_Law_law 665 = .ok (.aload_n 1, 1) := by decide +kernel
theorem d_Law_law_666 : decode b_Law_law 666 = .ok (.aload_n 0, 1) := by decide +kernel
theorem d_Law_law_667 : decode b_Law_law 667 = .ok (.iload_n 3, 1) := by decide +kernel
theorem d_Law_law_668 : decode b_Law_law 668 = .ok (.iconst 1, 1) := by decide +kernel
theorem d_Law_law_669 : decode b_Law_law 669 = .ok (.iadd, 1) := by decide +kernel
theorem d_Law_law_670 : decode b_Law_law 670 = .ok (.iaload, 1) := by decide +kernel
theorem d_Law_law_671 : decode b_Law_law 671 = .ok (.aload_n 0, 1) := by decide +kernel
theorem d_Law_law_672 : decode b_Law_law 672 = .ok (.iload_n 3, 1) := by decide +kernel
theorem d_Law_law_673 : decode b_Law_law 673 = .ok (.iconst 2, 1) := by decide +kernel
theorem d_Law_law_674 : decode b_Law_law 674 = .ok (.iadd, 1) := by decide +kernel
theorem d_Law_law_675 : decode b_Law_law 675 = .ok (.iaload, 1) := by decide +kernel
theorem d_Law_law_676 : decode b_Law_law 676 = .ok (.invokevirtual 71, 3) := by decide +kernel
theorem d_Law_law_679 : decode b_Law_law 679 = .ok (.aload_n 2, 1) := by decide +kernel
theorem d_Law_law_680 : decode b_Law_law 680 = .ok (.aload_n 0, 1) := by decide +kernel
theorem d_Law_law_681 : decode b_Law_law 681 = .ok (.iload_n 3, 1) := by decide +kernel
theorem d_Law_law_682 : decode b_Law_law 682 = .ok (.iconst 1, 1) := by decide +kernel
theorem d_Law_law_683 : decode b_Law_law 683 = .ok (.iadd, 1) := by decide +kernel
theorem d_Law_law_684 : decode b_Law_law 684 = .ok (.iaload, 1) := by decide +kernel
theorem d_Law_law_685 : decode b_Law_law 685 = .ok (.aload_n 0, 1) := by decide +kernel
theorem d_Law_law_686 : decode b_Law_law 686 = .ok (.iload_n 3, 1) := by decide +kernel
theorem d_Law_law_687 : decode b_Law_law 687 = .ok (.iconst 2, 1) := by decide +kernel
theorem d_Law_law_688 : decode b_Law_law 688 = .ok (.iadd, 1) := by decide +kernel
theorem d_Law_law_689 : decode b_Law_law 689 = .ok (.iaload, 1) := by decide +kernel
theorem d_Law_law_690 : decode b_Law_law 690 = .ok (.invokevirtual 75, 3) := by decide +kernel
theorem d_Law_law_693 : decode b_Law_law 693 = .ok (.if_icmp .eq 1138, 3) := by decide +kernel
theorem d_Law_law_696 : decode b_Law_law 696 = .ok (.iconst 0, 1) := by decide +kernel
theorem d_Law_law_697 : decode b_Law_law 697 = .ok (.ireturn, 1) := by decide +kernel
theorem d_Law_law_698 : decode b_Law_law 698 = .ok (.aload_n 1, 1) := by decide +kernel
theorem d_Law_law_699 : decode b_Law_law 699 = .ok (.aload_n 0, 1) := by decide +kernel
theorem d_Law_law_700 : decode b_Law_law 700 = .ok (.iload_n 3, 1) := by decide +kernel
theorem d_Law_law_701 : decode b_Law_law 701 = .ok (.iconst 1, 1) := by decide +kernel
theorem d_Law_law_702 : decode b_Law_law 702 = .ok (.iadd, 1) := by decide +kernel
theorem d_Law_law_703 : decode b_Law_law 703 = .ok (.iaload, 1) := by decide +kernel
theorem d_Law_law_704 : decode b_Law_law 704 = .ok (.aload_n 0, 1) := by decide +kernel
theorem d_Law_law_705 : decode b_Law_law 705 = .ok (.iload_n 3, 1) := by decide +kernel
theorem d_Law_law_706 : decode b_Law_law 706 = .ok (.iconst 2, 1) := by decide +kernel
theorem d_Law_law_707 : decode b_Law_law 707 = .ok (.iadd, 1) := by decide +kernel
theorem d_Law_law_708 : decode b_Law_law 708 = .ok (.iaload, 1) := by decide +kernel
theorem d_Law_law_709 : decode b_Law_law 709 = .ok (.invokevirtual 76, 3) := by decide +kernel
theorem d_Law_law_712 : decode b_Law_law 712 = .ok (.aload_n 2, 1) := by decide +kernel
theorem d_Law_law_713 : decode b_Law_law 713 = .ok (.aload_n 0, 1) := by decide +kernel
theorem d_Law_law_714 : decode b_Law_law 714 = .ok (.iload_n 3, 1) := by decide +kernel
theorem d_Law_law_715 : decode b_Law_law 715 = .ok (.iconst 1, 1) := by decide +kernel
theorem d_Law_law_716 : decode b_Law_law 716 = .ok (.iadd, 1) := by decide +kernel
theorem d_Law_law_717 : decode b_Law_law 717 = .ok (.iaload, 1) := by decide +kernel
theorem d_Law_law_718 : decode b_Law_law 718 = .ok (.aload_n 0, 1) := by decide +kernel
theorem d_Law_law_719 : decode b_Law_law 719 = .ok (.iload_n 3, 1) := by decide +kernel
theorem d_Law_law_720 : decode b_Law_law 720 = .ok (.iconst 2, 1) := by decide +kernel
theorem d_Law_law_721 : decode b_Law_law 721 = .ok (.iadd, 1) := by decide +kernel
theorem d_Law_law_722 : decode b_Law_law 722 = .ok (.iaload, 1) := by decide +kernel
theorem d_Law_law_723 : decode b_Law_law 723 = .ok (.invokevirtual 79, 3) := by decide +kernel
theorem d_Law_law_726 : decode b_Law_law 726 = .ok (.if_icmp .eq 1105, 3) := by decide +kernel
theorem d_Law_law_729 : decode b_Law_law 729 = .ok (.iconst 0, 1) := by decide +kernel
theorem d_Law_law_730 : decode b_Law_law 730 = .ok (.ireturn, 1) := by decide +kernel
theorem d_Law_law_731 : decode b_Law_law 731 = .ok (.aload_n 1, 1) := by decide +kernel
theorem d_Law_law_732 : decode b_Law_law 732 = .ok (.aload_n 0, 1) := by decide +kernel
theorem d_Law_law_733 : decode b_Law_law 733 = .ok (.iload_n 3, 1) := by decide +kernel
theorem d_Law_law_734 : decode b_Law_law 734 = .ok (.iconst 1, 1) := by decide +kernel
theorem d_Law_law_735 : decode b_Law_law 735 = .ok (.iadd, 1) := by decide +kernel
theorem d_Law_law_736 : decode b_Law_law 736 = .ok (.iaload, 1) := by decide +kernel
theorem d_Law_law_737 : decode b_Law_law 737 = .ok (.aload_n 0, 1) := by decide +kernel
theorem d_Law_law_738 : decode b_Law_law 738 = .ok (.iload_n 3, 1) := by decide +kernel
theorem d_Law_law_739 : decode b_Law_law 739 = .ok (.iconst 2, 1) := by decide +kernel
theorem d_Law_law_740 : decode b_Law_law 740 = .ok (.iadd, 1) := by decide +kernel
theorem d_Law_law_741 : decode b_Law_law 741 = .ok (.iaload, 1) := by decide +kernel
theorem d_Law_law_742 : decode b_Law_law 742 = .ok (.invokevirtual 80, 3) := by decide +kernel
theorem d_Law_law_745 : decode b_Law_law 745 = .ok (.aload_n 2, 1) := by decide +kernel
theorem d_Law_law_746 : decode b_Law_law 746 = .ok (.aload_n 0, 1) := by decide +kernel
theorem d_Law_law_747 : decode b_Law_law 747 = .ok (.iload_n 3, 1) := by decide +kernel
theorem d_Law_law_748 : decode b_Law_law 748 = .ok (.iconst 1, 1) := by decide +kernel
theorem d_Law_law_749 : decode b_Law_law 749 = .ok (.iadd, 1) := by decide +kernel
theorem d_Law_law_750 : decode b_Law_law 750 = .ok (.iaload, 1) := by decide +kernel
theorem d_Law_law_751 : decode b_Law_law 751 = .ok (.aload_n 0, 1) := by decide +kernel
theorem d_Law_law_752 : decode b_Law_law 752 = .ok (.iload_n 3, 1) := by decide +kernel
theorem d_Law_law_753 : decode b_Law_law 753 = .ok (.iconst 2, 1) := by decide +kernel
theorem d_Law_law_754 : decode b_Law_law 754 = .ok (.iadd, 1) := by decide +kernel
theorem d_Law_law_755 : decode b_Law_law 755 = .ok (.iaload, 1) := by decide +kernel
theorem d_Law_law_756 : decode b_Law_law 756 = .ok (.invokevirtual 83, 3) := by decide +kernel
theorem d_Law_law_759 : decode b_Law_law 759 = .ok (.if_icmp .eq 1072, 3) := by decide +kernel
theorem d_Law_law_762 : decode b_Law_law 762 = .ok (.iconst 0, 1) := by decide +kernel
theorem d_Law_law_763 : decode b_Law_law 763 = .ok (.ireturn, 1) := by decide +kernel
theorem d_Law_law_764 : decode b_Law_law 764 = .ok (.aload_n 1, 1) := by decide +kernel
theorem d_Law_law_765 : decode b_Law_law 765 = .ok (.aload_n 0, 1) := by decide +kernel
theorem d_Law_law_766 : decode b_Law_law 766 = .ok (.iload_n 3, 1) := by decide +kernel
theorem d_Law_law_767 : decode b_Law_law 767 = .ok (.iconst 1, 1) := by decide +kernel
theorem d_Law_law_768 : decode b_Law_law 768 = .ok (.iadd, 1) := by decide +kernel
theorem d_Law_law_769 : decode b_Law_law 769 = .ok (.iaload, 1) := by decide +kernel
theorem d_Law_law_770 : decode b_Law_law 770 = .ok (.invokevirtual 84, 3) := by decide +kernel
theorem d_Law_law_773 : decode b_Law_law 773 = .ok (.aload_n 2, 1) := by decide +kernel
theorem d_Law_law_774 : decode b_Law_law 774 = .ok (.aload_n 0, 1) := by decide +kernel
theorem d_Law_law_775 : decode b_Law_law 775 = .ok (.iload_n 3, 1) := by decide +kernel
theorem d_Law_law_776 : decode b_Law_law 776 = .ok (.iconst 1, 1) := by decide +kernel
theorem d_Law_law_777 : decode b_Law_law 777 = .ok (.iadd, 1) := by decide +kernel
theorem d_Law_law_778 : decode b_Law_law 778 = .ok (.iaload, 1) := by decide +kernel
theorem d_Law_law_779 : decode b_Law_law 779 = .ok (.invokevirtual 87, 3) := by decide +kernel
theorem d_Law_law_782 : decode b_Law_law 782 = .ok (.if_icmp .eq 1049, 3) := by decide +kernel
theorem d_Law_law_785 : decode b_Law_law 785 = .ok (.iconst 0, 1) := by decide +kernel
theorem d_Law_law_786 : decode b_Law_law 786 = .ok (.ireturn, 1) := by decide +kernel
theorem d_Law_law_787 : decode b_Law_law 787 = .ok (.aload_n 1, 1) := by decide +kernel
theorem d_Law_law_788 : decode b_Law_law 788 = .ok (.aload_n 0, 1) := by decide +kernel
theorem d_Law_law_789 : decode b_Law_law 789 = .ok (.iload_n 3, 1) := by decide +kernel
theorem d_Law_law_790 : decode b_Law_law 790 = .ok (.iconst 1, 1) := by decide +kernel
theorem d_Law_law_791 : decode b_Law_law 791 = .ok (.iadd, 1) := by decide +kernel
theorem d_Law_law_792 : decode b_Law_law 792 = .ok (.iaload, 1) := by decide +kernel
theorem d_Law_law_793 : decode b_Law_law 793 = .ok (.invokevirtual 88, 3) := by decide +kernel
theorem d_Law_law_796 : decode b_Law_law 796 = .ok (.aload_n 2, 1) := by decide +kernel
theorem d_Law_law_797 : decode b_Law_law 797 = .ok (.aload_n 0, 1) := by decide +kernel
theorem d_Law_law_798 : decode b_Law_law 798 = .ok (.iload_n 3, 1) := by decide +kernel
theorem d_Law_law_799 : decode b_Law_law 799 = .ok (.iconst 1, 1) := by decide +kernel
theorem d_Law_law_800 : decode b_Law_law 800 = .ok (.iadd, 1) := by decide +kernel
theorem d_Law_law_801 : decode b_Law_law 801 = .ok (.iaload, 1) := by decide +kernel
theorem d_Law_law_802 : decode b_Law_law 802 = .ok (.invokevirtual 91, 3) := by decide +kernel
theorem d_Law_law_805 : decode b_Law_law 805 = .ok (.if_icmp .eq 1026, 3) := by decide +kernel
theorem d_Law_law_808 : decode b_Law_law 808 = .ok (.iconst 0, 1) := by decide +kernel
theorem d_Law_law_809 : decode b_Law_law 809 = .ok (.ireturn, 1) := by decide +kernel
theorem d_Law_law_810 : decode b_Law_law 810 = .ok (.aload_n 1, 1) := by decide +kernel
theorem d_Law_law_811 : decode b_Law_law 811 = .ok (.aload_n 0, 1) := by decide +kernel
theorem d_Law_law_812 : decode b_Law_law 812 = .ok (.iload_n 3, 1) := by decide +kernel
theorem d_Law_law_813 : decode b_Law_law 813 = .ok (.iconst 1, 1) := by decide +kernel
theorem d_Law_law_814 : decode b_Law_law 814 = .ok (.iadd, 1) := by decide +kernel
theorem d_Law_law_815 : decode b_Law_law 815 = .ok (.iaload, 1) := by decide +kernel
theorem d_Law_law_816 : decode b_Law_law 816 = .ok (.invokevirtual 92, 3) := by decide +kernel
theorem d_Law_law_819 : decode b_Law_law 819 = .ok (.aload_n 2, 1) := by decide +kernel
theorem d_Law_law_820 : decode b_Law_law 820 = .ok (.aload_n 0, 1) := by decide +kernel
theorem d_Law_law_821 : decode b_Law_law 821 = .ok (.iload_n 3, 1) := by decide +kernel
theorem d_Law_law_822 : decode b_Law_law 822 = .ok (.iconst 1, 1) := by decide +kernel
theorem d_Law_law_823 : decode b_Law_law 823 = .ok (.iadd, 1) := by decide +kernel
theorem d_Law_law_824 : decode b_Law_law 824 = .ok (.iaload, 1) := by decide +kernel
theorem d_Law_law_825 : decode b_Law_law 825 = .ok (.invokevirtual 95, 3) := by decide +kernel
theorem d_Law_law_828 : decode b_Law_law 828 = .ok (.if_icmp .eq 1003, 3) := by decide +kernel
theorem d_Law_law_831 : decode b_Law_law 831 = .ok (.iconst 0, 1) := by decide +kernel
theorem d_Law_law_832 : decode b_Law_law 832 = .ok (.ireturn, 1) := by decide +kernel
theorem d_Law_law_833 : decode b_Law_law 833 = .ok (.aload_n 1, 1) := by decide +kernel
theorem d_Law_law_834 : decode b_Law_law 834 = .ok (.aload_n 0, 1) := by decide +kernel
theorem d_Law_law_835 : decode b_Law_law 835 = .ok (.iload_n 3, 1) := by decide +kernel
theorem d_Law_law_836 : decode b_Law_law 836 = .ok (.iconst 1, 1) := by decide +kernel
theorem d_Law_law_837 : decode b_Law_law 837 = .ok (.iadd, 1) := by decide +kernel
theorem d_Law_law_838 : decode b_Law_law 838 = .ok (.iaload, 1) := by decide +kernel
theorem d_Law_law_839 : decode b_Law_law 839 = .ok (.invokevirtual 96, 3) := by decide +kernel
theorem d_Law_law_842 : decode b_Law_law 842 = .ok (.aload_n 2, 1) := by decide +kernel
theorem d_Law_law_843 : decode b_Law_law 843 = .ok (.aload_n 0, 1) := by decide +kernel
theorem d_Law_law_844 : decode b_Law_law 844 = .ok (.iload_n 3, 1) := by decide +kernel
theorem d_Law_law_845 : decode b_Law_law 845 = .ok (.iconst 1, 1) := by decide +kernel
theorem d_Law_law_846 : decode b_Law_law 846 = .ok (.iadd, 1) := by decide +kernel
theorem d_Law_law_847 : decode b_Law_law 847 = .ok (.iaload, 1) := by decide +kernel
theorem d_Law_law_848 : decode b_Law_law 848 = .ok (.invokevirtual 99, 3) := by decide +kernel
theorem d_Law_law_851 : decode b_Law_law 851 = .ok (.if_icmp .eq 980, 3) := by decide +kernel
theorem d_Law_law_854 : decode b_Law_law 854 = .ok (.iconst 0, 1) := by decide +kernel
theorem d_Law_law_855 : decode b_Law_law 855 = .ok (.ireturn, 1) := by decide +kernel
theorem d_Law_law_856 : decode b_Law_law 856 = .ok (.aload_n 1, 1) := by decide +kernel
theorem d_Law_law_857 : decode b_Law_law 857 = .ok (.invokevirtual 100, 3) := by decide +kernel
theorem d_Law_law_860 : decode b_Law_law 860 = .ok (.aload_n 2, 1) := by decide +kernel
theorem d_Law_law_861 : decode b_Law_law 861 = .ok (.invokevirtual 103, 3) := by decide +kernel
theorem d_Law_law_864 : decode b_Law_law 864 = .ok (.if_icmp .eq 967, 3) := by decide +kernel
theorem d_Law_law_867 : decode b_Law_law 867 = .ok (.iconst 0, 1) := by decide +kernel
theorem d_Law_law_868 : decode b_Law_law 868 = .ok (.ireturn, 1) := by decide +kernel
theorem d_Law_law_869 : decode b_Law_law 869 = .ok (.aload_n 1, 1) := by decide +kernel
theorem d_Law_law_870 : decode b_Law_law 870 = .ok (.aload_n 0, 1) := by decide +kernel
theorem d_Law_law_871 : decode b_Law_law 871 = .ok (.iload_n 3, 1) := by decide +kernel
theorem d_Law_law_872 : decode b_Law_law 872 = .ok (.iconst 1, 1) := by decide +kernel
theorem d_Law_law_873 : decode b_Law_law 873 = .ok (.iadd, 1) := by decide +kernel
theorem d_Law_law_874 : decode b_Law_law 874 = .ok (.iaload, 1) := by decide +kernel
theorem d_Law_law_875 : decode b_Law_law 875 = .ok (.aload_n 0, 1) := by decide +kernel
theorem d_Law_law_876 : decode b_Law_law 876 = .ok (.iload_n 3, 1) := by decide +kernel
theorem d_Law_law_877 : decode b_Law_law 877 = .ok (.iconst 2, 1) := by decide +kernel
theorem d_Law_law_878 : decode b_Law_law 878 = .ok (.iadd, 1) := by decide +kernel
theorem d_Law_law_879 : decode b_Law_law 879 = .ok (.iaload, 1) := by decide +kernel
theorem d_Law_law_880 : decode b_Law_law 880 = .ok (.invokevirtual 104, 3) := by decide +kernel
theorem d_Law_law_883 : decode b_Law_law 883 = .ok (.aload_n 2, 1) := by decide +kernel
theorem d_Law_law_884 : decode b_Law_law 884 = .ok (.aload_n 0, 1) := by decide +kernel
theorem d_Law_law_885 : decode b_Law_law 885 = .ok (.iload_n 3, 1) := by decide +kernel
theorem d_Law_law_886 : decode b_Law_law 886 = .ok (.iconst 1, 1) := by decide +kernel
theorem d_Law_law_887 : decode b_Law_law 887 = .ok (.iadd, 1) := by decide +kernel
theorem d_Law_law_888 : decode b_Law_law 888 = .ok (.iaload, 1) := by decide +kernel
theorem d_Law_law_889 : decode b_Law_law 889 = .ok (.aload_n 0, 1) := by decide +kernel
theorem d_Law_law_890 : decode b_Law_law 890 = .ok (.iload_n 3, 1) := by decide +kernel
theorem d_Law_law_891 : decode b_Law_law 891 = .ok (.iconst 2, 1) := by decide +kernel
theorem d_Law_law_892 : decode b_Law_law 892 = .ok (.iadd, 1) := by decide +kernel
theorem d_Law_law_893 : decode b_Law_law 893 = .ok (.iaload, 1) := by decide +kernel
theorem d_Law_law_894 : decode b_Law_law 894 = .ok (.invokevirtual 107, 3) := by decide +kernel
theorem d_Law_law_897 : decode b_Law_law 897 = .ok (.if_icmp .eq 934, 3) := by decide +kernel
theorem d_Law_law_900 : decode b_Law_law 900 = .ok (.iconst 0, 1) := by decide +kernel
theorem d_Law_law_901 : decode b_Law_law 901 = .ok (.ireturn, 1) := by decide +kernel
theorem d_Law_law_902 : decode b_Law_law 902 = .ok (.aload_n 1, 1) := by decide +kernel
theorem d_Law_law_903 : decode b_Law_law 903 = .ok (.aload_n 0, 1) := by decide +kernel
theorem d_Law_law_904 : decode b_Law_law 904 = .ok (.iload_n 3, 1) := by decide +kernel
theorem d_Law_law_905 : decode b_Law_law 905 = .ok (.iconst 1, 1) := by decide +kernel
theorem d_Law_law_906 : decode b_Law_law 906 = .ok (.iadd, 1) := by decide +kernel
theorem d_Law_law_907 : decode b_Law_law 907 = .ok (.iaload, 1) := by decide +kernel
theorem d_Law_law_908 : decode b_Law_law 908 = .ok (.aload_n 0, 1) := by decide +kernel
theorem d_Law_law_909 : decode b_Law_law 909 = .ok (.iload_n 3, 1) := by decide +kernel
theorem d_Law_law_910 : decode b_Law_law 910 = .ok (.iconst 2, 1) := by decide +kernel
theorem d_Law_law_911 : decode b_Law_law 911 = .ok (.iadd, 1) := by decide +kernel
theorem d_Law_law_912 : decode b_Law_law 912 = .ok (.iaload, 1) := by decide +kernel
theorem d_Law_law_913 : decode b_Law_law 913 = .ok (.invokevirtual 108, 3) := by decide +kernel
theorem d_Law_law_916 : decode b_Law_law 916 = .ok (.aload_n 2, 1) := by decide +kernel
theorem d_Law_law_917 : decode b_Law_law 917 = .ok (.aload_n 0, 1) := by decide +kernel
theorem d_Law_law_918 : decode b_Law_law 918 = .ok (.iload_n 3, 1) := by decide +kernel
theorem d_Law_law_919 : decode b_Law_law 919 = .ok (.iconst 1, 1) := by decide +kernel
theorem d_Law_law_920 : decode b_Law_law 920 = .ok (.iadd, 1) := by decide +kernel
theorem d_Law_law_921 : decode b_Law_law 921 = .ok (.iaload, 1) := by decide +kernel
theorem d_Law_law_922 : decode b_Law_law 922 = .ok (.aload_n 0, 1) := by decide +kernel
theorem d_Law_law_923 : decode b_Law_law 923 = .ok (.iload_n 3, 1) := by decide +kernel
theorem d_Law_law_924 : decode b_Law_law 924 = .ok (.iconst 2, 1) := by decide +kernel
theorem d_Law_law_925 : decode b_Law_law 925 = .ok (.iadd, 1) := by decide +kernel
theorem d_Law_law_926 : decode b_Law_law 926 = .ok (.iaload, 1) := by decide +kernel
theorem d_Law_law_927 : decode b_Law_law 927 = .ok (.invokevirtual 111, 3) := by decide +kernel
theorem d_Law_law_930 : decode b_Law_law 930 = .ok (.if_icmp .eq 901, 3) := by decide +kernel
theorem d_Law_law_933 : decode b_Law_law 933 = .ok (.iconst 0, 1) := by decide +kernel
theorem d_Law_law_934 : decode b_Law_law 934 = .ok (.ireturn, 1) := by decide +kernel
theorem d_Law_law_935 : decode b_Law_law 935 = .ok (.aload_n 1, 1) := by decide +kernel
theorem d_Law_law_936 : decode b_Law_law 936 = .ok (.aload_n 0, 1) := by decide +kernel
theorem d_Law_law_937 : decode b_Law_law 937 = .ok (.iload_n 3, 1) := by decide +kernel
theorem d_Law_law_938 : decode b_Law_law 938 = .ok (.iconst 1, 1) := by decide +kernel
theorem d_Law_law_939 : decode b_Law_law 939 = .ok (.iadd, 1) := by decide +kernel
theorem d_Law_law_940 : decode b_Law_law 940 = .ok (.iaload, 1) := by decide +kernel
theorem d_Law_law_941 : decode b_Law_law 941 = .ok (.aload_n 0, 1) := by decide +kernel
theorem d_Law_law_942 : decode b_Law_law 942 = .ok (.iload_n 3, 1) := by decide +kernel
theorem d_Law_law_943 : decode b_Law_law 943 = .ok (.iconst 2, 1) := by decide +kernel
theorem d_Law_law_944 : decode b_Law_law 944 = .ok (.iadd, 1) := by decide +kernel
theorem d_Law_law_945 : decode b_Law_law 945 = .ok (.iaload, 1) := by decide +kernel
theorem d_Law_law_946 : decode b_Law_law 946 = .ok (.aload_n 0, 1) := by decide +kernel
theorem d_Law_law_947 : decode b_Law_law 947 = .ok (.iload_n 3, 1) := by decide +kernel
theorem d_Law_law_948 : decode b_Law_law 948 = .ok (.iconst 3, 1) := by decide +kernel
theorem d_Law_law_949 : decode b_Law_law 949 = .ok (.iadd, 1) := by decide +kernel
theorem d_Law_law_950 : decode b_Law_law 950 = .ok (.iaload, 1) := by decide +kernel
theorem d_Law_law_951 : decode b_Law_law 951 = .ok (.ifCond .eq 7, 3) := by decide +kernel
theorem d_Law_law_954 : decode b_Law_law 954 = .ok (.iconst 1, 1) := by decide +kernel
theorem d_Law_law_955 : decode b_Law_law 955 = .ok (.goto 4, 3) := by decide +kernel
theorem d_Law_law_958 : decode b_Law_law 958 = .ok (.iconst 0, 1) := by decide +kernel
theorem d_Law_law_959 : decode b_Law_law 959 = .ok (.invokevirtual 112, 3) := by decide +kernel
theorem d_Law_law_962 : decode b_Law_law 962 = .ok (.aload_n 2, 1) := by decide +kernel
theorem d_Law_law_963 : decode b_Law_law 963 = .ok (.aload_n 0, 1) := by decide +kernel
theorem d_Law_law_964 : decode b_Law_law 964 = .ok (.iload_n 3, 1) := by decide +kernel
theorem d_Law_law_965 : decode b_Law_law 965 = .ok (.iconst 1, 1) := by decide +kernel
theorem d_Law_law_966 : decode b_Law_law 966 = .ok (.iadd, 1) := by decide +kernel
theorem d_Law_law_967 : decode b_Law_law 967 = .ok (.iaload, 1) := by decide +kernel
theorem d_Law_law_968 : decode b_Law_law 968 = .ok (.aload_n 0, 1) := by decide +kernel
theorem d_Law_law_969 : decode b_Law_law 969 = .ok (.iload_n 3, 1) := by decide +kernel
theorem d_Law_law_970 : decode b_Law_law 970 = .ok (.iconst 2, 1) := by decide +kernel
theorem d_Law_law_971 : decode b_Law_law 971 = .ok (.iadd, 1) := by decide +kernel
theorem d_Law_law_972 : decode b_Law_law 972 = .ok (.iaload, 1) := by decide +kernel
theorem d_Law_law_973 : decode b_Law_law 973 = .ok (.aload_n 0, 1) := by decide +kernel
theorem d_Law_law_974 : decode b_Law_law 974 = .ok (.iload_n 3, 1) := by decide +kernel
theorem d_Law_law_975 : decode b_Law_law 975 = .ok (.iconst 3, 1) := by decide +kernel
theorem d_Law_law_976 : decode b_Law_law 976 = .ok (.iadd, 1) := by decide +kernel
theorem d_Law_law_977 : decode b_Law_law 977 = .ok (.iaload, 1) := by decide +kernel
theorem d_Law_law_978 : decode b_Law_law 978 = .ok (.ifCond .eq 7, 3) := by decide +kernel
theorem d_Law_law_981 : decode b_Law_law 981 = .ok (.iconst 1, 1) := by decide +kernel
theorem d_Law_law_982 : decode b_Law_law 982 = .ok (.goto 4, 3) := by decide +kernel
theorem d_Law_law_985 : decode b_Law_law 985 = .ok (.iconst 0, 1) := by decide +kernel
theorem d_Law_law_986 : decode b_Law_law 986 = .ok (.invokevirtual 116, 3) := by decide +kernel
theorem d_Law_law_989 : decode b_Law_law 989 = .ok (.if_icmp .eq 842, 3) := by decide +kernel
theorem d_Law_law_992 : decode b_Law_law 992 = .ok (.iconst 0, 1) := by decide +kernel
theorem d_Law_law_993 : decode b_Law_law 993 = .ok (.ireturn, 1) := by decide +kernel
theorem d_Law_law_994 : decode b_Law_law 994 = .ok (.aload_n 1, 1) := by decide +kernel
theorem d_Law_law_995 : decode b_Law_law 995 = .ok (.aload_n 0, 1) := by decide +kernel
theorem d_Law_law_996 : decode b_Law_law 996 = .ok (.iload_n 3, 1) := by decide +kernel
theorem d_Law_law_997 : decode b_Law_law 997 = .ok (.iconst 1, 1) := by decide +kernel
theorem d_Law_law_998 : decode b_Law_law 998 = .ok (.iadd, 1) := by decide +kernel
theorem d_Law_law_999 : decode b_Law_law 999 = .ok (.iaload, 1) := by decide +kernel
theorem d_Law_law_1000 : decode b_Law_law 1000 = .ok (.invokevirtual 117, 3) := by decide +kernel
theorem d_Law_law_1003 : decode b_Law_law 1003 = .ok (.aload_n 2, 1) := by decide +kernel
theorem d_Law_law_1004 : decode b_Law_law 1004 = .ok (.aload_n 0, 1) := by decide +kernel
theorem d_Law_law_1005 : decode b_Law_law 1005 = .ok (.iload_n 3, 1) := by decide +kernel
theorem d_Law_law_1006 : decode b_Law_law 1006 = .ok (.iconst 1, 1) := by decide +kernel
theorem d_Law_law_1007 : decode b_Law_law 1007 = .ok (.iadd, 1) := by decide +kernel
theorem d_Law_law_1008 : decode b_Law_law 1008 = .ok (.iaload, 1) := by decide +kernel
theorem d_Law_law_1009 : decode b_Law_law 1009 = .ok (.invokevirtual 120, 3) := by decide +kernel
theorem d_Law_law_1012 : decode b_Law_law 1012 = .ok (.if_icmp .eq 819, 3) := by decide +kernel
theorem d_Law_law_1015 : decode b_Law_law 1015 = .ok (.iconst 0, 1) := by decide +kernel
theorem d_Law_law_1016 : decode b_Law_law 1016 = .ok (.ireturn, 1) := by decide +kernel
theorem d_Law_law_1017 : decode b_Law_law 1017 = .ok (.aload_n 1, 1) := by decide +kernel
theorem d_Law_law_1018 : decode b_Law_law 1018 = .ok (.invokevirtual 121, 3) := by decide +kernel
theorem d_Law_law_1021 : decode b_Law_law 1021 = .ok (.aload_n 2, 1) := by decide +kernel
theorem d_Law_law_1022 : decode b_Law_law 1022 = .ok (.invokevirtual 124, 3) := by decide +kernel
theorem d_Law_law_1025 : decode b_Law_law 1025 = .ok (.if_icmp .eq 806, 3) := by decide +kernel
theorem d_Law_law_1028 : decode b_Law_law 1028 = .ok (.iconst 0, 1) := by decide +kernel
theorem d_Law_law_1029 : decode b_Law_law 1029 = .ok (.ireturn, 1) := by decide +kernel
theorem d_Law_law_1030 : decode b_Law_law 1030 = .ok (.aload_n 1, 1) := by decide +kernel
theorem d_Law_law_1031 : decode b_Law_law 1031 = .ok (.aload_n 0, 1) := by decide +kernel
theorem d_Law_law_1032 : decode b_Law_law 1032 = .ok (.iload_n 3, 1) := by decide +kernel
theorem d_Law_law_1033 : decode b_Law_law 1033 = .ok (.iconst 1, 1) := by decide +kernel
theorem d_Law_law_1034 : decode b_Law_law 1034 = .ok (.iadd, 1) := by decide +kernel
theorem d_Law_law_1035 : decode b_Law_law 1035 = .ok (.iaload, 1) := by decide +kernel
theorem d_Law_law_1036 : decode b_Law_law 1036 = .ok (.invokevirtual 125, 3) := by decide +kernel
theorem d_Law_law_1039 : decode b_Law_law 1039 = .ok (.aload_n 2, 1) := by decide +kernel
theorem d_Law_law_1040 : decode b_Law_law 1040 = .ok (.aload_n 0, 1) := by decide +kernel
theorem d_Law_law_1041 : decode b_Law_law 1041 = .ok (.iload_n 3, 1) := by decide +kernel
theorem d_Law_law_1042 : decode b_Law_law 1042 = .ok (.iconst 1, 1) := by decide +kernel
theorem d_Law_law_1043 : decode b_Law_law 1043 = .ok (.iadd, 1) := by decide +kernel
theorem d_Law_law_1044 : decode b_Law_law 1044 = .ok (.iaload, 1) := by decide +kernel
theorem d_Law_law_1045 : decode b_Law_law 1045 = .ok (.invokevirtual 129, 3) := by decide +kernel
theorem d_Law_law_1048 : decode b_Law_law 1048 = .ok (.if_icmp .eq 783, 3) := by decide +kernel
theorem d_Law_law_1051 : decode b_Law_law 1051 = .ok (.iconst 0, 1) := by decide +kernel
theorem d_Law_law_1052 : decode b_Law_law 1052 = .ok (.ireturn, 1) := by decide +kernel
theorem d_Law_law_1053 : decode b_Law_law 1053 = .ok (.aload_n 1, 1) := by decide +kernel
theorem d_Law_law_1054 : decode b_Law_law 1054 = .ok (.aload_n 0, 1) := by decide +kernel
theorem d_Law_law_1055 : decode b_Law_law 1055 = .ok (.iload_n 3, 1) := by decide +kernel
theorem d_Law_law_1056 : decode b_Law_law 1056 = .ok (.iconst 1, 1) := by decide +kernel
theorem d_Law_law_1057 : decode b_Law_law 1057 = .ok (.iadd, 1) := by decide +kernel
theorem d_Law_law_1058 : decode b_Law_law 1058 = .ok (.iaload, 1) := by decide +kernel
theorem d_Law_law_1059 : decode b_Law_law 1059 = .ok (.aload_n 0, 1) := by decide +kernel
theorem d_Law_law_1060 : decode b_Law_law 1060 = .ok (.iload_n 3, 1) := by decide +kernel
theorem d_Law_law_1061 : decode b_Law_law 1061 = .ok (.iconst 2, 1) := by decide +kernel
theorem d_Law_law_1062 : decode b_Law_law 1062 = .ok (.iadd, 1) := by decide +kernel
theorem d_Law_law_1063 : decode b_Law_law 1063 = .ok (.iaload, 1) := by decide +kernel
theorem d_Law_law_1064 : decode b_Law_law 1064 = .ok (.invokevirtual 130, 3) := by decide +kernel
theorem d_Law_law_1067 : decode b_Law_law 1067 = .ok (.aload_n 2, 1) := by decide +kernel
theorem d_Law_law_1068 : decode b_Law_law 1068 = .ok (.aload_n 0, 1) := by decide +kernel
theorem d_Law_law_1069 : decode b_Law_law 1069 = .ok (.iload_n 3, 1) := by decide +kernel
theorem d_Law_law_1070 : decode b_Law_law 1070 = .ok (.iconst 1, 1) := by decide +kernel
theorem d_Law_law_1071 : decode b_Law_law 1071 = .ok (.iadd, 1) := by decide +kernel
theorem d_Law_law_1072 : decode b_Law_law 1072 = .ok (.iaload, 1) := by decide +kernel
theorem d_Law_law_1073 : decode b_Law_law 1073 = .ok (.aload_n 0, 1) := by decide +kernel
theorem d_Law_law_1074 : decode b_Law_law 1074 = .ok (.iload_n 3, 1) := by decide +kernel
theorem d_Law_law_1075 : decode b_Law_law 1075 = .ok (.iconst 2, 1) := by decide +kernel
theorem d_Law_law_1076 : decode b_Law_law 1076 = .ok (.iadd, 1) := by decide +kernel
theorem d_Law_law_1077 : decode b_Law_law 1077 = .ok (.iaload, 1) := by decide +kernel
theorem d_Law_law_1078 : decode b_Law_law 1078 = .ok (.invokevirtual 133, 3) := by decide +kernel
theorem d_Law_law_1081 : decode b_Law_law 1081 = .ok (.if_icmp .eq 750, 3) := by decide +kernel
theorem d_Law_law_1084 : decode b_Law_law 1084 = .ok (.iconst 0, 1) := by decide +kernel
theorem d_Law_law_1085 : decode b_Law_law 1085 = .ok (.ireturn, 1) := by decide +kernel
theorem d_Law_law_1086 : decode b_Law_law 1086 = .ok (.aload_n 1, 1) := by decide +kernel
theorem d_Law_law_1087 : decode b_Law_law 1087 = .ok (.aload_n 0, 1) := by decide +kernel
theorem d_Law_law_1088 : decode b_Law_law 1088 = .ok (.iload_n 3, 1) := by decide +kernel
theorem d_Law_law_1089 : decode b_Law_law 1089 = .ok (.iconst 1, 1) := by decide +kernel
theorem d_Law_law_1090 : decode b_Law_law 1090 = .ok (.iadd, 1) := by decide +kernel
theorem d_Law_law_1091 : decode b_Law_law 1091 = .ok (.iaload, 1) := by decide +kernel
theorem d_Law_law_1092 : decode b_Law_law 1092 = .ok (.aload_n 0, 1) := by decide +kernel
theorem d_Law_law_1093 : decode b_Law_law 1093 = .ok (.iload_n 3, 1) := by decide +kernel
theorem d_Law_law_1094 : decode b_Law_law 1094 = .ok (.iconst 2, 1) := by decide +kernel
theorem d_Law_law_1095 : decode b_Law_law 1095 = .ok (.iadd, 1) := by decide +kernel
theorem d_Law_law_1096 : decode b_Law_law 1096 = .ok (.iaload, 1) := by decide +kernel
theorem d_Law_law_1097 : decode b_Law_law 1097 = .ok (.aload_n 0, 1) := by decide +kernel
theorem d_Law_law_1098 : decode b_Law_law 1098 = .ok (.iload_n 3, 1) := by decide +kernel
theorem d_Law_law_1099 : decode b_Law_law 1099 = .ok (.iconst 3, 1) := by decide +kernel
theorem d_Law_law_1100 : decode b_Law_law 1100 = .ok (.iadd, 1) := by decide +kernel
theorem d_Law_law_1101 : decode b_Law_law 1101 = .ok (.iaload, 1) := by decide +kernel
theorem d_Law_law_1102 : decode b_Law_law 1102 = .ok (.invokevirtual 134, 3) := by decide +kernel
theorem d_Law_law_1105 : decode b_Law_law 1105 = .ok (.aload_n 2, 1) := by decide +kernel
theorem d_Law_law_1106 : decode b_Law_law 1106 = .ok (.aload_n 0, 1) := by decide +kernel
theorem d_Law_law_1107 : decode b_Law_law 1107 = .ok (.iload_n 3, 1) := by decide +kernel
theorem d_Law_law_1108 : decode b_Law_law 1108 = .ok (.iconst 1, 1) := by decide +kernel
theorem d_Law_law_1109 : decode b_Law_law 1109 = .ok (.iadd, 1) := by decide +kernel
theorem d_Law_law_1110 : decode b_Law_law 1110 = .ok (.iaload, 1) := by decide +kernel
theorem d_Law_law_1111 : decode b_Law_law 1111 = .ok (.aload_n 0, 1) := by decide +kernel
theorem d_Law_law_1112 : decode b_Law_law 1112 = .ok (.iload_n 3, 1) := by decide +kernel
theorem d_Law_law_1113 : decode b_Law_law 1113 = .ok (.iconst 2, 1) := by decide +kernel
theorem d_Law_law_1114 : decode b_Law_law 1114 = .ok (.iadd, 1) := by decide +kernel
theorem d_Law_law_1115 : decode b_Law_law 1115 = .ok (.iaload, 1) := by decide +kernel
theorem d_Law_law_1116 : decode b_Law_law 1116 = .ok (.aload_n 0, 1) := by decide +kernel
theorem d_Law_law_1117 : decode b_Law_law 1117 = .ok (.iload_n 3, 1) := by decide +kernel
theorem d_Law_law_1118 : decode b_Law_law 1118 = .ok (.iconst 3, 1) := by decide +kernel
theorem d_Law_law_1119 : decode b_Law_law 1119 = .ok (.iadd, 1) := by decide +kernel
theorem d_Law_law_1120 : decode b_Law_law 1120 = .ok (.iaload, 1) := by decide +kernel
theorem d_Law_law_1121 : decode b_Law_law 1121 = .ok (.invokevirtual 138, 3) := by decide +kernel
theorem d_Law_law_1124 : decode b_Law_law 1124 = .ok (.if_icmp .eq 707, 3) := by decide +kernel
theorem d_Law_law_1127 : decode b_Law_law 1127 = .ok (.iconst 0, 1) := by decide +kernel
theorem d_Law_law_1128 : decode b_Law_law 1128 = .ok (.ireturn, 1) := by decide +kernel
theorem d_Law_law_1129 : decode b_Law_law 1129 = .ok (.aload_n 1, 1) := by decide +kernel
theorem d_Law_law_1130 : decode b_Law_law 1130 = .ok (.aload_n 0, 1) := by decide +kernel
theorem d_Law_law_1131 : decode b_Law_law 1131 = .ok (.iload_n 3, 1) := by decide +kernel
theorem d_Law_law_1132 : decode b_Law_law 1132 = .ok (.iconst 1, 1) := by decide +kernel
theorem d_Law_law_1133 : decode b_Law_law 1133 = .ok (.iadd, 1) := by decide +kernel
theorem d_Law_law_1134 : decode b_Law_law 1134 = .ok (.iaload, 1) := by decide +kernel
theorem d_Law_law_1135 : decode b_Law_law 1135 = .ok (.aload_n 0, 1) := by decide +kernel
theorem d_Law_law_1136 : decode b_Law_law 1136 = .ok (.iload_n 3, 1) := by decide +kernel
theorem d_Law_law_1137 : decode b_Law_law 1137 = .ok (.iconst 2, 1) := by decide +kernel
theorem d_Law_law_1138 : decode b_Law_law 1138 = .ok (.iadd, 1) := by decide +kernel
theorem d_Law_law_1139 : decode b_Law_law 1139 = .ok (.iaload, 1) := by decide +kernel
theorem d_Law_law_1140 : decode b_Law_law 1140 = .ok (.invokevirtual 139, 3) := by decide +kernel
theorem d_Law_law_1143 : decode b_Law_law 1143 = .ok (.aload_n 2, 1) := by decide +kernel
theorem d_Law_law_1144 : decode b_Law_law 1144 = .ok (.aload_n 0, 1) := by decide +kernel
theorem d_Law_law_1145 : decode b_Law_law 1145 = .ok (.iload_n 3, 1) := by decide +kernel
theorem d_Law_law_1146 : decode b_Law_law 1146 = .ok (.iconst 1, 1) := by decide +kernel
theorem d_Law_law_1147 : decode b_Law_law 1147 = .ok (.iadd, 1) := by decide +kernel
theorem d_Law_law_1148 : decode b_Law_law 1148 = .ok (.iaload, 1) := by decide +kernel
theorem d_Law_law_1149 : decode b_Law_law 1149 = .ok (.aload_n 0, 1) := by decide +kernel
theorem d_Law_law_1150 : decode b_Law_law 1150 = .ok (.iload_n 3, 1) := by decide +kernel
theorem d_Law_law_1151 : decode b_Law_law 1151 = .ok (.iconst 2, 1) := by decide +kernel
theorem d_Law_law_1152 : decode b_Law_law 1152 = .ok (.iadd, 1) := by decide +kernel
theorem d_Law_law_1153 : decode b_Law_law 1153 = .ok (.iaload, 1) := by decide +kernel
theorem d_Law_law_1154 : decode b_Law_law 1154 = .ok (.invokevirtual 142, 3) := by decide +kernel
theorem d_Law_law_1157 : decode b_Law_law 1157 = .ok (.if_icmp .eq 674, 3) := by decide +kernel
theorem d_Law_law_1160 : decode b_Law_law 1160 = .ok (.iconst 0, 1) := by decide +kernel
theorem d_Law_law_1161 : decode b_Law_law 1161 = .ok (.ireturn, 1) := by decide +kernel
theorem d_Law_law_1162 : decode b_Law_law 1162 = .ok (.aload_n 1, 1) := by decide +kernel
theorem d_Law_law_1163 : decode b_Law_law 1163 = .ok (.aload_n 0, 1) := by decide +kernel
theorem d_Law_law_1164 : decode b_Law_law 1164 = .ok (.iload_n 3, 1) := by decide +kernel
theorem d_Law_law_1165 : decode b_Law_law 1165 = .ok (.iconst 1, 1) := by decide +kernel
theorem d_Law_law_1166 : decode b_Law_law 1166 = .ok (.iadd, 1) := by decide +kernel
theorem d_Law_law_1167 : decode b_Law_law 1167 = .ok (.iaload, 1) := by decide +kernel
theorem d_Law_law_1168 : decode b_Law_law 1168 = .ok (.invokevirtual 143, 3) := by decide +kernel
theorem d_Law_law_1171 : decode b_Law_law 1171 = .ok (.aload_n 2, 1) := by decide +kernel
theorem d_Law_law_1172 : decode b_Law_law 1172 = .ok (.aload_n 0, 1) := by decide +kernel
theorem d_Law_law_1173 : decode b_Law_law 1173 = .ok (.iload_n 3, 1) := by decide +kernel
theorem d_Law_law_1174 : decode b_Law_law 1174 = .ok (.iconst 1, 1) := by decide +kernel
theorem d_Law_law_1175 : decode b_Law_law 1175 = .ok (.iadd, 1) := by decide +kernel
theorem d_Law_law_1176 : decode b_Law_law 1176 = .ok (.iaload, 1) := by decide +kernel
theorem d_Law_law_1177 : decode b_Law_law 1177 = .ok (.invokevirtual 146, 3) := by decide +kernel
theorem d_Law_law_1180 : decode b_Law_law 1180 = .ok (.if_icmp .eq 651, 3) := by decide +kernel
theorem d_Law_law_1183 : decode b_Law_law 1183 = .ok (.iconst 0, 1) := by decide +kernel
theorem d_Law_law_1184 : decode b_Law_law 1184 = .ok (.ireturn, 1) := by decide +kernel
theorem d_Law_law_1185 : decode b_Law_law 1185 = .ok (.aload_n 1, 1) := by decide +kernel
theorem d_Law_law_1186 : decode b_Law_law 1186 = .ok (.aload_n 0, 1) := by decide +kernel
theorem d_Law_law_1187 : decode b_Law_law 1187 = .ok (.iload_n 3, 1) := by decide +kernel
theorem d_Law_law_1188 : decode b_Law_law 1188 = .ok (.iconst 1, 1) := by decide +kernel
theorem d_Law_law_1189 : decode b_Law_law 1189 = .ok (.iadd, 1) := by decide +kernel
theorem d_Law_law_1190 : decode b_Law_law 1190 = .ok (.iaload, 1) := by decide +kernel
theorem d_Law_law_1191 : decode b_Law_law 1191 = .ok (.invokevirtual 147, 3) := by decide +kernel
theorem d_Law_law_1194 : decode b_Law_law 1194 = .ok (.aload_n 2, 1) := by decide +kernel
theorem d_Law_law_1195 : decode b_Law_law 1195 = .ok (.aload_n 0, 1) := by decide +kernel
theorem d_Law_law_1196 : decode b_Law_law 1196 = .ok (.iload_n 3, 1) := by decide +kernel
theorem d_Law_law_1197 : decode b_Law_law 1197 = .ok (.iconst 1, 1) := by decide +kernel
theorem d_Law_law_1198 : decode b_Law_law 1198 = .ok (.iadd, 1) := by decide +kernel
theorem d_Law_law_1199 : decode b_Law_law 1199 = .ok (.iaload, 1) := by decide +kernel
theorem d_Law_law_1200 : decode b_Law_law 1200 = .ok (.invokevirtual 150, 3) := by decide +kernel
theorem d_Law_law_1203 : decode b_Law_law 1203 = .ok (.if_icmp .eq 628, 3) := by decide +kernel
theorem d_Law_law_1206 : decode b_Law_law 1206 = .ok (.iconst 0, 1) := by decide +kernel
theorem d_Law_law_1207 : decode b_Law_law 1207 = .ok (.ireturn, 1) := by decide +kernel
theorem d_Law_law_1208 : decode b_Law_law 1208 = .ok (.aload_n 1, 1) := by decide +kernel
theorem d_Law_law_1209 : decode b_Law_law 1209 = .ok (.aload_n 0, 1) := by decide +kernel
theorem d_Law_law_1210 : decode b_Law_law 1210 = .ok (.iload_n 3, 1) := by decide +kernel
theorem d_Law_law_1211 : decode b_Law_law 1211 = .ok (.iconst 1, 1) := by decide +kernel
theorem d_Law_law_1212 : decode b_Law_law 1212 = .ok (.iadd, 1) := by decide +kernel
theorem d_Law_law_1213 : decode b_Law_law 1213 = .ok (.iaload, 1) := by decide +kernel
theorem d_Law_law_1214 : decode b_Law_law 1214 = .ok (.aload_n 0, 1) := by decide +kernel
theorem d_Law_law_1215 : decode b_Law_law 1215 = .ok (.iload_n 3, 1) := by decide +kernel
theorem d_Law_law_1216 : decode b_Law_law 1216 = .ok (.iconst 2, 1) := by decide +kernel
theorem d_Law_law_1217 : decode b_Law_law 1217 = .ok (.iadd, 1) := by decide +kernel
theorem d_Law_law_1218 : decode b_Law_law 1218 = .ok (.iaload, 1) := by decide +kernel
theorem d_Law_law_1219 : decode b_Law_law 1219 = .ok (.invokevirtual 151, 3) := by decide +kernel
theorem d_Law_law_1222 : decode b_Law_law 1222 = .ok (.aload_n 2, 1) := by decide +kernel
theorem d_Law_law_1223 : decode b_Law_law 1223 = .ok (.aload_n 0, 1) := by decide +kernel
theorem d_Law_law_1224 : decode b_Law_law 1224 = .ok (.iload_n 3, 1) := by decide +kernel
theorem d_Law_law_1225 : decode b_Law_law 1225 = .ok (.iconst 1, 1) := by decide +kernel
theorem d_Law_law_1226 : decode b_Law_law 1226 = .ok (.iadd, 1) := by decide +kernel
theorem d_Law_law_1227 : decode b_Law_law 1227 = .ok (.iaload, 1) := by decide +kernel
theorem d_Law_law_1228 : decode b_Law_law 1228 = .ok (.aload_n 0, 1) := by decide +kernel
theorem d_Law_law_1229 : decode b_Law_law 1229 = .ok (.iload_n 3, 1) := by decide +kernel
theorem d_Law_law_1230 : decode b_Law_law 1230 = .ok (.iconst 2, 1) := by decide +kernel
theorem d_Law_law_1231 : decode b_Law_law 1231 = .ok (.iadd, 1) := by decide +kernel
theorem d_Law_law_1232 : decode b_Law_law 1232 = .ok (.iaload, 1) := by decide +kernel
theorem d_Law_law_1233 : decode b_Law_law 1233 = .ok (.invokevirtual 154, 3) := by decide +kernel
theorem d_Law_law_1236 : decode b_Law_law 1236 = .ok (.if_icmp .eq 595, 3) := by decide +kernel
theorem d_Law_law_1239 : decode b_Law_law 1239 = .ok (.iconst 0, 1) := by decide +kernel
theorem d_Law_law_1240 : decode b_Law_law 1240 = .ok (.ireturn, 1) := by decide +kernel
theorem d_Law_law_1241 : decode b_Law_law 1241 = .ok (.aload_n 1, 1) := by decide +kernel
theorem d_Law_law_1242 : decode b_Law_law 1242 = .ok (.aload_n 0, 1) := by decide +kernel
theorem d_Law_law_1243 : decode b_Law_law 1243 = .ok (.iload_n 3, 1) := by decide +kernel
theorem d_Law_law_1244 : decode b_Law_law 1244 = .ok (.iconst 1, 1) := by decide +kernel
theorem d_Law_law_1245 : decode b_Law_law 1245 = .ok (.iadd, 1) := by decide +kernel
theorem d_Law_law_1246 : decode b_Law_law 1246 = .ok (.iaload, 1) := by decide +kernel
theorem d_Law_law_1247 : decode b_Law_law 1247 = .ok (.invokevirtual 155, 3) := by decide +kernel
theorem d_Law_law_1250 : decode b_Law_law 1250 = .ok (.aload_n 2, 1) := by decide +kernel
theorem d_Law_law_1251 : decode b_Law_law 1251 = .ok (.aload_n 0, 1) := by decide +kernel
theorem d_Law_law_1252 : decode b_Law_law 1252 = .ok (.iload_n 3, 1) := by decide +kernel
theorem d_Law_law_1253 : decode b_Law_law 1253 = .ok (.iconst 1, 1) := by decide +kernel
theorem d_Law_law_1254 : decode b_Law_law 1254 = .ok (.iadd, 1) := by decide +kernel
theorem d_Law_law_1255 : decode b_Law_law 1255 = .ok (.iaload, 1) := by decide +kernel
theorem d_Law_law_1256 : decode b_Law_law 1256 = .ok (.invokevirtual 158, 3) := by decide +kernel
theorem d_Law_law_1259 : decode b_Law_law 1259 = .ok (.if_icmp .eq 572, 3) := by decide +kernel
theorem d_Law_law_1262 : decode b_Law_law 1262 = .ok (.iconst 0, 1) := by decide +kernel
theorem d_Law_law_1263 : decode b_Law_law 1263 = .ok (.ireturn, 1) := by decide +kernel
theorem d_Law_law_1264 : decode b_Law_law 1264 = .ok (.aload_n 1, 1) := by decide +kernel
theorem d_Law_law_1265 : decode b_Law_law 1265 = .ok (.aload_n 0, 1) := by decide +kernel
theorem d_Law_law_1266 : decode b_Law_law 1266 = .ok (.iload_n 3, 1) := by decide +kernel
theorem d_Law_law_1267 : decode b_Law_law 1267 = .ok (.iconst 1, 1) := by decide +kernel
theorem d_Law_law_1268 : decode b_Law_law 1268 = .ok (.iadd, 1) := by decide +kernel
theorem d_Law_law_1269 : decode b_Law_law 1269 = .ok (.iaload, 1) := by decide +kernel
theorem d_Law_law_1270 : decode b_Law_law 1270 = .ok (.aload_n 0, 1) := by decide +kernel
theorem d_Law_law_1271 : decode b_Law_law 1271 = .ok (.iload_n 3, 1) := by decide +kernel
theorem d_Law_law_1272 : decode b_Law_law 1272 = .ok (.iconst 2, 1) := by decide +kernel
theorem d_Law_law_1273 : decode b_Law_law 1273 = .ok (.iadd, 1) := by decide +kernel
theorem d_Law_law_1274 : decode b_Law_law 1274 = .ok (.iaload, 1) := by decide +kernel
theorem d_Law_law_1275 : decode b_Law_law 1275 = .ok (.invokevirtual 159, 3) := by decide +kernel
theorem d_Law_law_1278 : decode b_Law_law 1278 = .ok (.aload_n 2, 1) := by decide +kernel
theorem d_Law_law_1279 : decode b_Law_law 1279 = .ok (.aload_n 0, 1) := by decide +kernel
theorem d_Law_law_1280 : decode b_Law_law 1280 = .ok (.iload_n 3, 1) := by decide +kernel
theorem d_Law_law_1281 : decode b_Law_law 1281 = .ok (.iconst 1, 1) := by decide +kernel
theorem d_Law_law_1282 : decode b_Law_law 1282 = .ok (.iadd, 1) := by decide +kernel
theorem d_Law_law_1283 : decode b_Law_law 1283 = .ok (.iaload, 1) := by decide +kernel
theorem d_Law_law_1284 : decode b_Law_law 1284 = .ok (.aload_n 0, 1) := by decide +kernel
theorem d_Law_law_1285 : decode b_Law_law 1285 = .ok (.iload_n 3, 1) := by decide +kernel
theorem d_Law_law_1286 : decode b_Law_law 1286 = .ok (.iconst 2, 1) := by decide +kernel
theorem d_Law_law_1287 : decode b_Law_law 1287 = .ok (.iadd, 1) := by decide +kernel
theorem d_Law_law_1288 : decode b_Law_law 1288 = .ok (.iaload, 1) := by decide +kernel
theorem d_Law_law_1289 : decode b_Law_law 1289 = .ok (.invokevirtual 162, 3) := by decide +kernel
theorem d_Law_law_1292 : decode b_Law_law 1292 = .ok (.if_icmp .eq 539, 3) := by decide +kernel
theorem d_Law_law_1295 : decode b_Law_law 1295 = .ok (.iconst 0, 1) := by decide +kernel
theorem d_Law_law_1296 : decode b_Law_law 1296 = .ok (.ireturn, 1) := by decide +kernel
theorem d_Law_law_1297 : decode b_Law_law 1297 = .ok (.aload_n 1, 1) := by decide +kernel
theorem d_Law_law_1298 : decode b_Law_law 1298 = .ok (.aload_n 0, 1) := by decide +kernel
theorem d_Law_law_1299 : decode b_Law_law 1299 = .ok (.iload_n 3, 1) := by decide +kernel
theorem d_Law_law_1300 : decode b_Law_law 1300 = .ok (.iconst 1, 1) := by decide +kernel
theorem d_Law_law_1301 : decode b_Law_law 1301 = .ok (.iadd, 1) := by decide +kernel
theorem d_Law_law_1302 : decode b_Law_law 1302 = .ok (.iaload, 1) := by decide +kernel
theorem d_Law_law_1303 : decode b_Law_law 1303 = .ok (.aload_n 0, 1) := by decide +kernel
theorem d_Law_law_1304 : decode b_Law_law 1304 = .ok (.iload_n 3, 1) := by decide +kernel
theorem d_Law_law_1305 : decode b_Law_law 1305 = .ok (.iconst 2, 1) := by decide +kernel
theorem d_Law_law_1306 : decode b_Law_law 1306 = .ok (.iadd, 1) := by decide +kernel
theorem d_Law_law_1307 : decode b_Law_law 1307 = .ok (.iaload, 1) := by decide +kernel
theorem d_Law_law_1308 : decode b_Law_law 1308 = .ok (.aload_n 0, 1) := by decide +kernel
theorem d_Law_law_1309 : decode b_Law_law 1309 = .ok (.iload_n 3, 1) := by decide +kernel
theorem d_Law_law_1310 : decode b_Law_law 1310 = .ok (.iconst 3, 1) := by decide +kernel
theorem d_Law_law_1311 : decode b_Law_law 1311 = .ok (.iadd, 1) := by decide +kernel
theorem d_Law_law_1312 : decode b_Law_law 1312 = .ok (.iaload, 1) := by decide +kernel
theorem d_Law_law_1313 : decode b_Law_law 1313 = .ok (.invokevirtual 163, 3) := by decide +kernel
theorem d_Law_law_1316 : decode b_Law_law 1316 = .ok (.aload_n 2, 1) := by decide +kernel
theorem d_Law_law_1317 : decode b_Law_law 1317 = .ok (.aload_n 0, 1) := by decide +kernel
theorem d_Law_law_1318 : decode b_Law_law 1318 = .ok (.iload_n 3, 1) := by decide +kernel
theorem d_Law_law_1319 : decode b_Law_law 1319 = .ok (.iconst 1, 1) := by decide +kernel
theorem d_Law_law_1320 : decode b_Law_law 1320 = .ok (.iadd, 1) := by decide +kernel
theorem d_Law_law_1321 : decode b_Law_law 1321 = .ok (.iaload, 1) := by decide +kernel
theorem d_Law_law_1322 : decode b_Law_law 1322 = .ok (.aload_n 0, 1) := by decide +kernel
theorem d_Law_law_1323 : decode b_Law_law 1323 = .ok (.iload_n 3, 1) := by decide +kernel
theorem d_Law_law_1324 : decode b_Law_law 1324 = .ok (.iconst 2, 1) := by decide +kernel
theorem d_Law_law_1325 : decode b_Law_law 1325 = .ok (.iadd, 1) := by decide +kernel
theorem d_Law_law_1326 : decode b_Law_law 1326 = .ok (.iaload, 1) := by decide +kernel
theorem d_Law_law_1327 : decode b_Law_law 1327 = .ok (.aload_n 0, 1) := by decide +kernel
theorem d_Law_law_1328 : decode b_Law_law 1328 = .ok (.iload_n 3, 1) := by decide +kernel
theorem d_Law_law_1329 : decode b_Law_law 1329 = .ok (.iconst 3, 1) := by decide +kernel
theorem d_Law_law_1330 : decode b_Law_law 1330 = .ok (.iadd, 1) := by decide +kernel
theorem d_Law_law_1331 : decode b_Law_law 1331 = .ok (.iaload, 1) := by decide +kernel
theorem d_Law_law_1332 : decode b_Law_law 1332 = .ok (.invokevirtual 166, 3) := by decide +kernel
theorem d_Law_law_1335 : decode b_Law_law 1335 = .ok (.if_icmp .eq 496, 3) := by decide +kernel
theorem d_Law_law_1338 : decode b_Law_law 1338 = .ok (.iconst 0, 1) := by decide +kernel
theorem d_Law_law_1339 : decode b_Law_law 1339 = .ok (.ireturn, 1) := by decide +kernel
theorem d_Law_law_1340 : decode b_Law_law 1340 = .ok (.aload_n 1, 1) := by decide +kernel
theorem d_Law_law_1341 : decode b_Law_law 1341 = .ok (.aload_n 0, 1) := by decide +kernel
theorem d_Law_law_1342 : decode b_Law_law 1342 = .ok (.iload_n 3, 1) := by decide +kernel
theorem d_Law_law_1343 : decode b_Law_law 1343 = .ok (.iconst 1, 1) := by decide +kernel
theorem d_Law_law_1344 : decode b_Law_law 1344 = .ok (.iadd, 1) := by decide +kernel
theorem d_Law_law_1345 : decode b_Law_law 1345 = .ok (.iaload, 1) := by decide +kernel
theorem d_Law_law_1346 : decode b_Law_law 1346 = .ok (.aload_n 0, 1) := by decide +kernel
theorem d_Law_law_1347 : decode b_Law_law 1347 = .ok (.iload_n 3, 1) := by decide +kernel
theorem d_Law_law_1348 : decode b_Law_law 1348 = .ok (.iconst 2, 1) := by decide +kernel
theorem d_Law_law_1349 : decode b_Law_law 1349 = .ok (.iadd, 1) := by decide +kernel
theorem d_Law_law_1350 : decode b_Law_law 1350 = .ok (.iaload, 1) := by decide +kernel
theorem d_Law_law_1351 : decode b_Law_law 1351 = .ok (.invokevirtual 167, 3) := by decide +kernel
theorem d_Law_law_1354 : decode b_Law_law 1354 = .ok (.aload_n 2, 1) := by decide +kernel
theorem d_Law_law_1355 : decode b_Law_law 1355 = .ok (.aload_n 0, 1) := by decide +kernel
theorem d_Law_law_1356 : decode b_Law_law 1356 = .ok (.iload_n 3, 1) := by decide +kernel
theorem d_Law_law_1357 : decode b_Law_law 1357 = .ok (.iconst 1, 1) := by decide +kernel
theorem d_Law_law_1358 : decode b_Law_law 1358 = .ok (.iadd, 1) := by decide +kernel
theorem d_Law_law_1359 : decode b_Law_law 1359 = .ok (.iaload, 1) := by decide +kernel
theorem d_Law_law_1360 : decode b_Law_law 1360 = .ok (.aload_n 0, 1) := by decide +kernel
theorem d_Law_law_1361 : decode b_Law_law 1361 = .ok (.iload_n 3, 1) := by decide +kernel
theorem d_Law_law_1362 : decode b_Law_law 1362 = .ok (.iconst 2, 1) := by decide +kernel
theorem d_Law_law_1363 : decode b_Law_law 1363 = .ok (.iadd, 1) := by decide +kernel
theorem d_Law_law_1364 : decode b_Law_law 1364 = .ok (.iaload, 1) := by decide +kernel
theorem d_Law_law_1365 : decode b_Law_law 1365 = .ok (.invokevirtual 170, 3) := by decide +kernel
theorem d_Law_law_1368 : decode b_Law_law 1368 = .ok (.if_icmp .eq 463, 3) := by decide +kernel
theorem d_Law_law_1371 : decode b_Law_law 1371 = .ok (.iconst 0, 1) := by decide +kernel
theorem d_Law_law_1372 : decode b_Law_law 1372 = .ok (.ireturn, 1) := by decide +kernel
theorem d_Law_law_1373 : decode b_Law_law 1373 = .ok (.aload_n 1, 1) := by decide +kernel
theorem d_Law_law_1374 : decode b_Law_law 1374 = .ok (.aload_n 0, 1) := by decide +kernel
theorem d_Law_law_1375 : decode b_Law_law 1375 = .ok (.iload_n 3, 1) := by decide +kernel
theorem d_Law_law_1376 : decode b_Law_law 1376 = .ok (.iconst 1, 1) := by decide +kernel
theorem d_Law_law_1377 : decode b_Law_law 1377 = .ok (.iadd, 1) := by decide +kernel
theorem d_Law_law_1378 : decode b_Law_law 1378 = .ok (.iaload, 1) := by decide +kernel
theorem d_Law_law_1379 : decode b_Law_law 1379 = .ok (.aload_n 0, 1) := by decide +kernel
theorem d_Law_law_1380 : decode b_Law_law 1380 = .ok (.iload_n 3, 1) := by decide +kernel
theorem d_Law_law_1381 : decode b_Law_law 1381 = .ok (.iconst 2, 1) := by decide +kernel
theorem d_Law_law_1382 : decode b_Law_law 1382 = .ok (.iadd, 1) := by decide +kernel
theorem d_Law_law_1383 : decode b_Law_law 1383 = .ok (.iaload, 1) := by decide +kernel
theorem d_Law_law_1384 : decode b_Law_law 1384 = .ok (.invokevirtual 171, 3) := by decide +kernel
theorem d_Law_law_1387 : decode b_Law_law 1387 = .ok (.aload_n 2, 1) := by decide +kernel
theorem d_Law_law_1388 : decode b_Law_law 1388 = .ok (.aload_n 0, 1) := by decide +kernel
theorem d_Law_law_1389 : decode b_Law_law 1389 = .ok (.iload_n 3, 1) := by decide +kernel
theorem d_Law_law_1390 : decode b_Law_law 1390 = .ok (.iconst 1, 1) := by decide +kernel
theorem d_Law_law_1391 : decode b_Law_law 1391 = .ok (.iadd, 1) := by decide +kernel
theorem d_Law_law_1392 : decode b_Law_law 1392 = .ok (.iaload, 1) := by decide +kernel
theorem d_Law_law_1393 : decode b_Law_law 1393 = .ok (.aload_n 0, 1) := by decide +kernel
theorem d_Law_law_1394 : decode b_Law_law 1394 = .ok (.iload_n 3, 1) := by decide +kernel
theorem d_Law_law_1395 : decode b_Law_law 1395 = .ok (.iconst 2, 1) := by decide +kernel
theorem d_Law_law_1396 : decode b_Law_law 1396 = .ok (.iadd, 1) := by decide +kernel
theorem d_Law_law_1397 : decode b_Law_law 1397 = .ok (.iaload, 1) := by decide +kernel
theorem d_Law_law_1398 : decode b_Law_law 1398 = .ok (.invokevirtual 174, 3) := by decide +kernel
theorem d_Law_law_1401 : decode b_Law_law 1401 = .ok (.if_icmp .eq 430, 3) := by decide +kernel
theorem d_Law_law_1404 : decode b_Law_law 1404 = .ok (.iconst 0, 1) := by decide +kernel
theorem d_Law_law_1405 : decode b_Law_law 1405 = .ok (.ireturn, 1) := by decide +kernel
theorem d_Law_law_1406 : decode b_Law_law 1406 = .ok (.aload_n 1, 1) := by decide +kernel
theorem d_Law_law_1407 : decode b_Law_law 1407 = .ok (.aload_n 0, 1) := by decide +kernel
theorem d_Law_law_1408 : decode b_Law_law 1408 = .ok (.iload_n 3, 1) := by decide +kernel
theorem d_Law_law_1409 : decode b_Law_law 1409 = .ok (.iconst 1, 1) := by decide +kernel
theorem d_Law_law_1410 : decode b_Law_law 1410 = .ok (.iadd, 1) := by decide +kernel
theorem d_Law_law_1411 : decode b_Law_law 1411 = .ok (.iaload, 1) := by decide +kernel
theorem d_Law_law_1412 : decode b_Law_law 1412 = .ok (.aload_n 0, 1) := by decide +kernel
theorem d_Law_law_1413 : decode b_Law_law 1413 = .ok (.iload_n 3, 1) := by decide +kernel
theorem d_Law_law_1414 : decode b_Law_law 1414 = .ok (.iconst 2, 1) := by decide +kernel
theorem d_Law_law_1415 : decode b_Law_law 1415 = .ok (.iadd, 1) := by decide +kernel
theorem d_Law_law_1416 : decode b_Law_law 1416 = .ok (.iaload, 1) := by decide +kernel
theorem d_Law_law_1417 : decode b_Law_law 1417 = .ok (.aload_n 0, 1) := by decide +kernel
theorem d_Law_law_1418 : decode b_Law_law 1418 = .ok (.iload_n 3, 1) := by decide +kernel
theorem d_Law_law_1419 : decode b_Law_law 1419 = .ok (.iconst 3, 1) := by decide +kernel
theorem d_Law_law_1420 : decode b_Law_law 1420 = .ok (.iadd, 1) := by decide +kernel
theorem d_Law_law_1421 : decode b_Law_law 1421 = .ok (.iaload, 1) := by decide +kernel
theorem d_Law_law_1422 : decode b_Law_law 1422 = .ok (.invokevirtual 175, 3) := by decide +kernel
theorem d_Law_law_1425 : decode b_Law_law 1425 = .ok (.aload_n 2, 1) := by decide +kernel
theorem d_Law_law_1426 : decode b_Law_law 1426 = .ok (.aload_n 0, 1) := by decide +kernel
theorem d_Law_law_1427 : decode b_Law_law 1427 = .ok (.iload_n 3, 1) := by decide +kernel
theorem d_Law_law_1428 : decode b_Law_law 1428 = .ok (.iconst 1, 1) := by decide +kernel
theorem d_Law_law_1429 : decode b_Law_law 1429 = .ok (.iadd, 1) := by decide +kernel
theorem d_Law_law_1430 : decode b_Law_law 1430 = .ok (.iaload, 1) := by decide +kernel
theorem d_Law_law_1431 : decode b_Law_law 1431 = .ok (.aload_n 0, 1) := by decide +kernel
theorem d_Law_law_1432 : decode b_Law_law 1432 = .ok (.iload_n 3, 1) := by decide +kernel
theorem d_Law_law_1433 : decode b_Law_law 1433 = .ok (.iconst 2, 1) := by decide +kernel
theorem d_Law_law_1434 : decode b_Law_law 1434 = .ok (.iadd, 1) := by decide +kernel
theorem d_Law_law_1435 : decode b_Law_law 1435 = .ok (.iaload, 1) := by decide +kernel
theorem d_Law_law_1436 : decode b_Law_law 1436 = .ok (.aload_n 0, 1) := by decide +kernel
theorem d_Law_law_1437 : decode b_Law_law 1437 = .ok (.iload_n 3, 1) := by decide +kernel
theorem d_Law_law_1438 : decode b_Law_law 1438 = .ok (.iconst 3, 1) := by decide +kernel
theorem d_Law_law_1439 : decode b_Law_law 1439 = .ok (.iadd, 1) := by decide +kernel
theorem d_Law_law_1440 : decode b_Law_law 1440 = .ok (.iaload, 1) := by decide +kernel
theorem d_Law_law_1441 : decode b_Law_law 1441 = .ok (.invokevirtual 178, 3) := by decide +kernel
theorem d_Law_law_1444 : decode b_Law_law 1444 = .ok (.if_icmp .eq 387, 3) := by decide +kernel
theorem d_Law_law_1447 : decode b_Law_law 1447 = .ok (.iconst 0, 1) := by decide +kernel
theorem d_Law_law_1448 : decode b_Law_law 1448 = .ok (.ireturn, 1) := by decide +kernel
theorem d_Law_law_1449 : decode b_Law_law 1449 = .ok (.aload_n 1, 1) := by decide +kernel
theorem d_Law_law_1450 : decode b_Law_law 1450 = .ok (.aload_n 0, 1) := by decide +kernel
theorem d_Law_law_1451 : decode b_Law_law 1451 = .ok (.iload_n 3, 1) := by decide +kernel
theorem d_Law_law_1452 : decode b_Law_law 1452 = .ok (.iconst 1, 1) := by decide +kernel
theorem d_Law_law_1453 : decode b_Law_law 1453 = .ok (.iadd, 1) := by decide +kernel
theorem d_Law_law_1454 : decode b_Law_law 1454 = .ok (.iaload, 1) := by decide +kernel
theorem d_Law_law_1455 : decode b_Law_law 1455 = .ok (.aload_n 0, 1) := by decide +kernel
theorem d_Law_law_1456 : decode b_Law_law 1456 = .ok (.iload_n 3, 1) := by decide +kernel
theorem d_Law_law_1457 : decode b_Law_law 1457 = .ok (.iconst 2, 1) := by decide +kernel
theorem d_Law_law_1458 : decode b_Law_law 1458 = .ok (.iadd, 1) := by decide +kernel
theorem d_Law_law_1459 : decode b_Law_law 1459 = .ok (.iaload, 1) := by decide +kernel
theorem d_Law_law_1460 : decode b_Law_law 1460 = .ok (.aload_n 0, 1) := by decide +kernel
theorem d_Law_law_1461 : decode b_Law_law 1461 = .ok (.iload_n 3, 1) := by decide +kernel
theorem d_Law_law_1462 : decode b_Law_law 1462 = .ok (.iconst 3, 1) := by decide +kernel
theorem d_Law_law_1463 : decode b_Law_law 1463 = .ok (.iadd, 1) := by decide +kernel
theorem d_Law_law_1464 : decode b_Law_law 1464 = .ok (.iaload, 1) := by decide +kernel
theorem d_Law_law_1465 : decode b_Law_law 1465 = .ok (.invokevirtual 179, 3) := by decide +kernel
theorem d_Law_law_1468 : decode b_Law_law 1468 = .ok (.aload_n 2, 1) := by decide +kernel
theorem d_Law_law_1469 : decode b_Law_law 1469 = .ok (.aload_n 0, 1) := by decide +kernel
theorem d_Law_law_1470 : decode b_Law_law 1470 = .ok (.iload_n 3, 1) := by decide +kernel
theorem d_Law_law_1471 : decode b_Law_law 1471 = .ok (.iconst 1, 1) := by decide +kernel
theorem d_Law_law_1472 : decode b_Law_law 1472 = .ok (.iadd, 1) := by decide +kernel
theorem d_Law_law_1473 : decode b_Law_law 1473 = .ok (.iaload, 1) := by decide +kernel
theorem d_Law_law_1474 : decode b_Law_law 1474 = .ok (.aload_n 0, 1) := by decide +kernel
theorem d_Law_law_1475 : decode b_Law_law 1475 = .ok (.iload_n 3, 1) := by decide +kernel
theorem d_Law_law_1476 : decode b_Law_law 1476 = .ok (.iconst 2, 1) := by decide +kernel
theorem d_Law_law_1477 : decode b_Law_law 1477 = .ok (.iadd, 1) := by decide +kernel
theorem d_Law_law_1478 : decode b_Law_law 1478 = .ok (.iaload, 1) := by decide +kernel
theorem d_Law_law_1479 : decode b_Law_law 1479 = .ok (.aload_n 0, 1) := by decide +kernel
theorem d_Law_law_1480 : decode b_Law_law 1480 = .ok (.iload_n 3, 1) := by decide +kernel
theorem d_Law_law_1481 : decode b_Law_law 1481 = .ok (.iconst 3, 1) := by decide +kernel
theorem d_Law_law_1482 : decode b_Law_law 1482 = .ok (.iadd, 1) := by decide +kernel
theorem d_Law_law_1483 : decode b_Law_law 1483 = .ok (.iaload, 1) := by decide +kernel
theorem d_Law_law_1484 : decode b_Law_law 1484 = .ok (.invokevirtual 182, 3) := by decide +kernel
theorem d_Law_law_1487 : decode b_Law_law 1487 = .ok (.if_icmp .eq 344, 3) := by decide +kernel
theorem d_Law_law_1490 : decode b_Law_law 1490 = .ok (.iconst 0, 1) := by decide +kernel
theorem d_Law_law_1491 : decode b_Law_law 1491 = .ok (.ireturn, 1) := by decide +kernel
theorem d_Law_law_1492 : decode b_Law_law 1492 = .ok (.aload_n 1, 1) := by decide +kernel
theorem d_Law_law_1493 : decode b_Law_law 1493 = .ok (.aload_n 0, 1) := by decide +kernel
theorem d_Law_law_1494 : decode b_Law_law 1494 = .ok (.iload_n 3, 1) := by decide +kernel
theorem d_Law_law_1495 : decode b_Law_law 1495 = .ok (.iconst 1, 1) := by decide +kernel
theorem d_Law_law_1496 : decode b_Law_law 1496 = .ok (.iadd, 1) := by decide +kernel
theorem d_Law_law_1497 : decode b_Law_law 1497 = .ok (.iaload, 1) := by decide +kernel
theorem d_Law_law_1498 : decode b_Law_law 1498 = .ok (.aload_n 0, 1) := by decide +kernel
theorem d_Law_law_1499 : decode b_Law_law 1499 = .ok (.iload_n 3, 1) := by decide +kernel
theorem d_Law_law_1500 : decode b_Law_law 1500 = .ok (.iconst 2, 1) := by decide +kernel
theorem d_Law_law_1501 : decode b_Law_law 1501 = .ok (.iadd, 1) := by decide +kernel
theorem d_Law_law_1502 : decode b_Law_law 1502 = .ok (.iaload, 1) := by decide +kernel
theorem d_Law_law_1503 : decode b_Law_law 1503 = .ok (.aload_n 0, 1) := by decide +kernel
theorem d_Law_law_1504 : decode b_Law_law 1504 = .ok (.iload_n 3, 1) := by decide +kernel
theorem d_Law_law_1505 : decode b_Law_law 1505 = .ok (.iconst 3, 1) := by decide +kernel
theorem d_Law_law_1506 : decode b_Law_law 1506 = .ok (.iadd, 1) := by decide +kernel
theorem d_Law_law_1507 : decode b_Law_law 1507 = .ok (.iaload, 1) := by decide +kernel
theorem d_Law_law_1508 : decode b_Law_law 1508 = .ok (.invokevirtual 183, 3) := by decide +kernel
theorem d_Law_law_1511 : decode b_Law_law 1511 = .ok (.aload_n 2, 1) := by decide +kernel
theorem d_Law_law_1512 : decode b_Law_law 1512 = .ok (.aload_n 0, 1) := by decide +kernel
theorem d_Law_law_1513 : decode b_Law_law 1513 = .ok (.iload_n 3, 1) := by decide +kernel
theorem d_Law_law_1514 : decode b_Law_law 1514 = .ok (.iconst 1, 1) := by decide +kernel
theorem d_Law_law_1515 : decode b_Law_law 1515 = .ok (.iadd, 1) := by decide +kernel
theorem d_Law_law_1516 : decode b_Law_law 1516 = .ok (.iaload, 1) := by decide +kernel
theorem d_Law_law_1517 : decode b_Law_law 1517 = .ok (.aload_n 0, 1) := by decide +kernel
theorem d_Law_law_1518 : decode b_Law_law 1518 = .ok (.iload_n 3, 1) := by decide +kernel
theorem d_Law_law_1519 : decode b_Law_law 1519 = .ok (.iconst 2, 1) := by decide +kernel
theorem d_Law_law_1520 : decode b_Law_law 1520 = .ok (.iadd, 1) := by decide +kernel
theorem d_Law_law_1521 : decode b_Law_law 1521 = .ok (.iaload, 1) := by decide +kernel
theorem d_Law_law_1522 : decode b_Law_law 1522 = .ok (.aload_n 0, 1) := by decide +kernel
theorem d_Law_law_1523 : decode b_Law_law 1523 = .ok (.iload_n 3, 1) := by decide +kernel
theorem d_Law_law_1524 : decode b_Law_law 1524 = .ok (.iconst 3, 1) := by decide +kernel
theorem d_Law_law_1525 : decode b_Law_law 1525 = .ok (.iadd, 1) := by decide +kernel
theorem d_Law_law_1526 : decode b_Law_law 1526 = .ok (.iaload, 1) := by decide +kernel
theorem d_Law_law_1527 : decode b_Law_law 1527 = .ok (.invokevirtual 186, 3) := by decide +kernel
theorem d_Law_law_1530 : decode b_Law_law 1530 = .ok (.if_icmp .eq 301, 3) := by decide +kernel
theorem d_Law_law_1533 : decode b_Law_law 1533 = .ok (.iconst 0, 1) := by decide +kernel
theorem d_Law_law_1534 : decode b_Law_law 1534 = .ok (.ireturn, 1) := by decide +kernel
theorem d_Law_law_1535 : decode b_Law_law 1535 = .ok (.aload_n 1, 1) := by decide +kernel
theorem d_Law_law_1536 : decode b_Law_law 1536 = .ok (.aload_n 0, 1) := by decide +kernel
theorem d_Law_law_1537 : decode b_Law_law 1537 = .ok (.iload_n 3, 1) := by decide +kernel
theorem d_Law_law_1538 : decode b_Law_law 1538 = .ok (.iconst 1, 1) := by decide +kernel
theorem d_Law_law_1539 : decode b_Law_law 1539 = .ok (.iadd, 1) := by decide +kernel
theorem d_Law_law_1540 : decode b_Law_law 1540 = .ok (.iaload, 1) := by decide +kernel
theorem d_Law_law_1541 : decode b_Law_law 1541 = .ok (.aload_n 0, 1) := by decide +kernel
theorem d_Law_law_1542 : decode b_Law_law 1542 = .ok (.iload_n 3, 1) := by decide +kernel
theorem d_Law_law_1543 : decode b_Law_law 1543 = .ok (.iconst 2, 1) := by decide +kernel
theorem d_Law_law_1544 : decode b_Law_law 1544 = .ok (.iadd, 1) := by decide +kernel
theorem d_Law_law_1545 : decode b_Law_law 1545 = .ok (.iaload, 1) := by decide +kernel
theorem d_Law_law_1546 : decode b_Law_law 1546 = .ok (.invokevirtual 187, 3) := by decide +kernel
theorem d_Law_law_1549 : decode b_Law_law 1549 = .ok (.aload_n 2, 1) := by decide +kernel
theorem d_Law_law_1550 : decode b_Law_law 1550 = .ok (.aload_n 0, 1) := by decide +kernel
theorem d_Law_law_1551 : decode b_Law_law 1551 = .ok (.iload_n 3, 1) := by decide +kernel
theorem d_Law_law_1552 : decode b_Law_law 1552 = .ok (.iconst 1, 1) := by decide +kernel
theorem d_Law_law_1553 : decode b_Law_law 1553 = .ok (.iadd, 1) := by decide +kernel
theorem d_Law_law_1554 : decode b_Law_law 1554 = .ok (.iaload, 1) := by decide +kernel
theorem d_Law_law_1555 : decode b_Law_law 1555 = .ok (.aload_n 0, 1) := by decide +kernel
theorem d_Law_law_1556 : decode b_Law_law 1556 = .ok (.iload_n 3, 1) := by decide +kernel
theorem d_Law_law_1557 : decode b_Law_law 1557 = .ok (.iconst 2, 1) := by decide +kernel
theorem d_Law_law_1558 : decode b_Law_law 1558 = .ok (.iadd, 1) := by decide +kernel
theorem d_Law_law_1559 : decode b_Law_law 1559 = .ok (.iaload, 1) := by decide +kernel
theorem d_Law_law_1560 : decode b_Law_law 1560 = .ok (.invokevirtual 190, 3) := by decide +kernel
theorem d_Law_law_1563 : decode b_Law_law 1563 = .ok (.if_icmp .eq 268, 3) := by decide +kernel
theorem d_Law_law_1566 : decode b_Law_law 1566 = .ok (.iconst 0, 1) := by decide +kernel
theorem d_Law_law_1567 : decode b_Law_law 1567 = .ok (.ireturn, 1) := by decide +kernel
theorem d_Law_law_1568 : decode b_Law_law 1568 = .ok (.aload_n 1, 1) := by decide +kernel
theorem d_Law_law_1569 : decode b_Law_law 1569 = .ok (.aload_n 0, 1) := by decide +kernel
theorem d_Law_law_1570 : decode b_Law_law 1570 = .ok (.iload_n 3, 1) := by decide +kernel
theorem d_Law_law_1571 : decode b_Law_law 1571 = .ok (.iconst 1, 1) := by decide +kernel
theorem d_Law_law_1572 : decode b_Law_law 1572 = .ok (.iadd, 1) := by decide +kernel
theorem d_Law_law_1573 : decode b_Law_law 1573 = .ok (.iaload, 1) := by decide +kernel
theorem d_Law_law_1574 : decode b_Law_law 1574 = .ok (.aload_n 0, 1) := by decide +kernel
theorem d_Law_law_1575 : decode b_Law_law 1575 = .ok (.iload_n 3, 1) := by decide +kernel
theorem d_Law_law_1576 : decode b_Law_law 1576 = .ok (.iconst 2, 1) := by decide +kernel
theorem d_Law_law_1577 : decode b_Law_law 1577 = .ok (.iadd, 1) := by decide +kernel
theorem d_Law_law_1578 : decode b_Law_law 1578 = .ok (.iaload, 1) := by decide +kernel
theorem d_Law_law_1579 : decode b_Law_law 1579 = .ok (.aload_n 0, 1) := by decide +kernel
theorem d_Law_law_1580 : decode b_Law_law 1580 = .ok (.iload_n 3, 1) := by decide +kernel
theorem d_Law_law_1581 : decode b_Law_law 1581 = .ok (.iconst 3, 1) := by decide +kernel
theorem d_Law_law_1582 : decode b_Law_law 1582 = .ok (.iadd, 1) := by decide +kernel
theorem d_Law_law_1583 : decode b_Law_law 1583 = .ok (.iaload, 1) := by decide +kernel
theorem d_Law_law_1584 : decode b_Law_law 1584 = .ok (.invokevirtual 191, 3) := by decide +kernel
theorem d_Law_law_1587 : decode b_Law_law 1587 = .ok (.aload_n 2, 1) := by decide +kernel
theorem d_Law_law_1588 : decode b_Law_law 1588 = .ok (.aload_n 0, 1) := by decide +kernel
theorem d_Law_law_1589 : decode b_Law_law 1589 = .ok (.iload_n 3, 1) := by decide +kernel
theorem d_Law_law_1590 : decode b_Law_law 1590 = .ok (.iconst 1, 1) := by decide +kernel
theorem d_Law_law_1591 : decode b_Law_law 1591 = .ok (.iadd, 1) := by decide +kernel
theorem d_Law_law_1592 : decode b_Law_law 1592 = .ok (.iaload, 1) := by decide +kernel
theorem d_Law_law_1593 : decode b_Law_law 1593 = .ok (.aload_n 0, 1) := by decide +kernel
theorem d_Law_law_1594 : decode b_Law_law 1594 = .ok (.iload_n 3, 1) := by decide +kernel
theorem d_Law_law_1595 : decode b_Law_law 1595 = .ok (.iconst 2, 1) := by decide +kernel
theorem d_Law_law_1596 : decode b_Law_law 1596 = .ok (.iadd, 1) := by decide +kernel
theorem d_Law_law_1597 : decode b_Law_law 1597 = .ok (.iaload, 1) := by decide +kernel
theorem d_Law_law_1598 : decode b_Law_law 1598 = .ok (.aload_n 0, 1) := by decide +kernel
theorem d_Law_law_1599 : decode b_Law_law 1599 = .ok (.iload_n 3, 1) := by decide +kernel
theorem d_Law_law_1600 : decode b_Law_law 1600 = .ok (.iconst 3, 1) := by decide +kernel
theorem d_Law_law_1601 : decode b_Law_law 1601 = .ok (.iadd, 1) := by decide +kernel
theorem d_Law_law_1602 : decode b_Law_law 1602 = .ok (.iaload, 1) := by decide +kernel
theorem d_Law_law_1603 : decode b_Law_law 1603 = .ok (.invokevirtual 194, 3) := by decide +kernel
theorem d_Law_law_1606 : decode b_Law_law 1606 = .ok (.if_icmp .eq 225, 3) := by decide +kernel
theorem d_Law_law_1609 : decode b_Law_law 1609 = .ok (.iconst 0, 1) := by decide +kernel
theorem d_Law_law_1610 : decode b_Law_law 1610 = .ok (.ireturn, 1) := by decide +kernel
theorem d_Law_law_1611 : decode b_Law_law 1611 = .ok (.aload_n 1, 1) := by decide +kernel
theorem d_Law_law_1612 : decode b_Law_law 1612 = .ok (.aload_n 0, 1) := by decide +kernel
theorem d_Law_law_1613 : decode b_Law_law 1613 = .ok (.iload_n 3, 1) := by decide +kernel
theorem d_Law_law_1614 : decode b_Law_law 1614 = .ok (.iconst 1, 1) := by decide +kernel
theorem d_Law_law_1615 : decode b_Law_law 1615 = .ok (.iadd, 1) := by decide +kernel
theorem d_Law_law_1616 : decode b_Law_law 1616 = .ok (.iaload, 1) := by decide +kernel
theorem d_Law_law_1617 : decode b_Law_law 1617 = .ok (.invokevirtual 195, 3) := by decide +kernel
theorem d_Law_law_1620 : decode b_Law_law 1620 = .ok (.aload_n 2, 1) := by decide +kernel
theorem d_Law_law_1621 : decode b_Law_law 1621 = .ok (.aload_n 0, 1) := by decide +kernel
theorem d_Law_law_1622 : decode b_Law_law 1622 = .ok (.iload_n 3, 1) := by decide +kernel
theorem d_Law_law_1623 : decode b_Law_law 1623 = .ok (.iconst 1, 1) := by decide +kernel
theorem d_Law_law_1624 : decode b_Law_law 1624 = .ok (.iadd, 1) := by decide +kernel
theorem d_Law_law_1625 : decode b_Law_law 1625 = .ok (.iaload, 1) := by decide +kernel
theorem d_Law_law_1626 : decode b_Law_law 1626 = .ok (.invokevirtual 198, 3) := by decide +kernel
theorem d_Law_law_1629 : decode b_Law_law 1629 = .ok (.if_icmp .eq 202, 3) := by decide +kernel
theorem d_Law_law_1632 : decode b_Law_law 1632 = .ok (.iconst 0, 1) := by decide +kernel
theorem d_Law_law_1633 : decode b_Law_law 1633 = .ok (.ireturn, 1) := by decide +kernel
theorem d_Law_law_1634 : decode b_Law_law 1634 = .ok (.aload_n 1, 1) := by decide +kernel
theorem d_Law_law_1635 : decode b_Law_law 1635 = .ok (.aload_n 0, 1) := by decide +kernel
theorem d_Law_law_1636 : decode b_Law_law 1636 = .ok (.iload_n 3, 1) := by decide +kernel
theorem d_Law_law_1637 : decode b_Law_law 1637 = .ok (.iconst 1, 1) := by decide +kernel
theorem d_Law_law_1638 : decode b_Law_law 1638 = .ok (.iadd, 1) := by decide +kernel
theorem d_Law_law_1639 : decode b_Law_law 1639 = .ok (.iaload, 1) := by decide +kernel
theorem d_Law_law_1640 : decode b_Law_law 1640 = .ok (.invokevirtual 199, 3) := by decide +kernel
theorem d_Law_law_1643 : decode b_Law_law 1643 = .ok (.aload_n 2, 1) := by decide +kernel
theorem d_Law_law_1644 : decode b_Law_law 1644 = .ok (.aload_n 0, 1) := by decide +kernel
theorem d_Law_law_1645 : decode b_Law_law 1645 = .ok (.iload_n 3, 1) := by decide +kernel
theorem d_Law_law_1646 : decode b_Law_law 1646 = .ok (.iconst 1, 1) := by decide +kernel
theorem d_Law_law_1647 : decode b_Law_law 1647 = .ok (.iadd, 1) := by decide +kernel
theorem d_Law_law_1648 : decode b_Law_law 1648 = .ok (.iaload, 1) := by decide +kernel
theorem d_Law_law_1649 : decode b_Law_law 1649 = .ok (.invokevirtual 202, 3) := by decide +kernel
theorem d_Law_law_1652 : decode b_Law_law 1652 = .ok (.if_icmp .eq 179, 3) := by decide +kernel
theorem d_Law_law_1655 : decode b_Law_law 1655 = .ok (.iconst 0, 1) := by decide +kernel
theorem d_Law_law_1656 : decode b_Law_law 1656 = .ok (.ireturn, 1) := by decide +kernel
theorem d_Law_law_1657 : decode b_Law_law 1657 = .ok (.aload_n 1, 1) := by decide +kernel
theorem d_Law_law_1658 : decode b_Law_law 1658 = .ok (.aload_n 0, 1) := by decide +kernel
theorem d_Law_law_1659 : decode b_Law_law 1659 = .ok (.iload_n 3, 1) := by decide +kernel
theorem d_Law_law_1660 : decode b_Law_law 1660 = .ok (.iconst 1, 1) := by decide +kernel
theorem d_Law_law_1661 : decode b_Law_law 1661 = .ok (.iadd, 1) := by decide +kernel
theorem d_Law_law_1662 : decode b_Law_law 1662 = .ok (.iaload, 1) := by decide +kernel
theorem d_Law_law_1663 : decode b_Law_law 1663 = .ok (.invokevirtual 203, 3) := by decide +kernel
theorem d_Law_law_1666 : decode b_Law_law 1666 = .ok (.aload_n 2, 1) := by decide +kernel
theorem d_Law_law_1667 : decode b_Law_law 1667 = .ok (.aload_n 0, 1) := by decide +kernel
theorem d_Law_law_1668 : decode b_Law_law 1668 = .ok (.iload_n 3, 1) := by decide +kernel
theorem d_Law_law_1669 : decode b_Law_law 1669 = .ok (.iconst 1, 1) := by decide +kernel
theorem d_Law_law_1670 : decode b_Law_law 1670 = .ok (.iadd, 1) := by decide +kernel
theorem d_Law_law_1671 : decode b_Law_law 1671 = .ok (.iaload, 1) := by decide +kernel
theorem d_Law_law_1672 : decode b_Law_law 1672 = .ok (.invokevirtual 206, 3) := by decide +kernel
theorem d_Law_law_1675 : decode b_Law_law 1675 = .ok (.if_icmp .eq 156, 3) := by decide +kernel
theorem d_Law_law_1678 : decode b_Law_law 1678 = .ok (.iconst 0, 1) := by decide +kernel
theorem d_Law_law_1679 : decode b_Law_law 1679 = .ok (.ireturn, 1) := by decide +kernel
theorem d_Law_law_1680 : decode b_Law_law 1680 = .ok (.aload_n 1, 1) := by decide +kernel
theorem d_Law_law_1681 : decode b_Law_law 1681 = .ok (.aload_n 0, 1) := by decide +kernel
theorem d_Law_law_1682 : decode b_Law_law 1682 = .ok (.iload_n 3, 1) := by decide +kernel
theorem d_Law_law_1683 : decode b_Law_law 1683 = .ok (.iconst 1, 1) := by decide +kernel
theorem d_Law_law_1684 : decode b_Law_law 1684 = .ok (.iadd, 1) := by decide +kernel
theorem d_Law_law_1685 : decode b_Law_law 1685 = .ok (.iaload, 1) := by decide +kernel
theorem d_Law_law_1686 : decode b_Law_law 1686 = .ok (.invokevirtual 207, 3) := by decide +kernel
theorem d_Law_law_1689 : decode b_Law_law 1689 = .ok (.aload_n 2, 1) := by decide +kernel
theorem d_Law_law_1690 : decode b_Law_law 1690 = .ok (.aload_n 0, 1) := by decide +kernel
theorem d_Law_law_1691 : decode b_Law_law 1691 = .ok (.iload_n 3, 1) := by decide +kernel
theorem d_Law_law_1692 : decode b_Law_law 1692 = .ok (.iconst 1, 1) := by decide +kernel
theorem d_Law_law_1693 : decode b_Law_law 1693 = .ok (.iadd, 1) := by decide +kernel
theorem d_Law_law_1694 : decode b_Law_law 1694 = .ok (.iaload, 1) := by decide +kernel
theorem d_Law_law_1695 : decode b_Law_law 1695 = .ok (.invokevirtual 210, 3) := by decide +kernel
theorem d_Law_law_1698 : decode b_Law_law 1698 = .ok (.if_icmp .eq 133, 3) := by decide +kernel
theorem d_Law_law_1701 : decode b_Law_law 1701 = .ok (.iconst 0, 1) := by decide +kernel
theorem d_Law_law_1702 : decode b_Law_law 1702 = .ok (.ireturn, 1) := by decide +kernel
theorem d_Law_law_1703 : decode b_Law_law 1703 = .ok (.aload_n 1, 1) := by decide +kernel
theorem d_Law_law_1704 : decode b_Law_law 1704 = .ok (.aload_n 0, 1) := by decide +kernel
theorem d_Law_law_1705 : decode b_Law_law 1705 = .ok (.iload_n 3, 1) := by decide +kernel
theorem d_Law_law_1706 : decode b_Law_law 1706 = .ok (.iconst 1, 1) := by decide +kernel
theorem d_Law_law_1707 : decode b_Law_law 1707 = .ok (.iadd, 1) := by decide +kernel
theorem d_Law_law_1708 : decode b_Law_law 1708 = .ok (.iaload, 1) := by decide +kernel
theorem d_Law_law_1709 : decode b_Law_law 1709 = .ok (.invokevirtual 211, 3) := by decide +kernel
theorem d_Law_law_1712 : decode b_Law_law 1712 = .ok (.aload_n 2, 1) := by decide +kernel
theorem d_Law_law_1713 : decode b_Law_law 1713 = .ok (.aload_n 0, 1) := by decide +kernel
theorem d_Law_law_1714 : decode b_Law_law 1714 = .ok (.iload_n 3, 1) := by decide +kernel
theorem d_Law_law_1715 : decode b_Law_law 1715 = .ok (.iconst 1, 1) := by decide +kernel
theorem d_Law_law_1716 : decode b_Law_law 1716 = .ok (.iadd, 1) := by decide +kernel
theorem d_Law_law_1717 : decode b_Law_law 1717 = .ok (.iaload, 1) := by decide +kernel
theorem d_Law_law_1718 : decode b_Law_law 1718 = .ok (.invokevirtual 214, 3) := by decide +kernel
theorem d_Law_law_1721 : decode b_Law_law 1721 = .ok (.if_icmp .eq 110, 3) := by decide +kernel
theorem d_Law_law_1724 : decode b_Law_law 1724 = .ok (.iconst 0, 1) := by decide +kernel
theorem d_Law_law_1725 : decode b_Law_law 1725 = .ok (.ireturn, 1) := by decide +kernel
theorem d_Law_law_1726 : decode b_Law_law 1726 = .ok (.aload_n 1, 1) := by decide +kernel
theorem d_Law_law_1727 : decode b_Law_law 1727 = .ok (.aload_n 0, 1) := by decide +kernel
theorem d_Law_law_1728 : decode b_Law_law 1728 = .ok (.iload_n 3, 1) := by decide +kernel
theorem d_Law_law_1729 : decode b_Law_law 1729 = .ok (.iconst 1, 1) := by decide +kernel
theorem d_Law_law_1730 : decode b_Law_law 1730 = .ok (.iadd, 1) := by decide +kernel
theorem d_Law_law_1731 : decode b_Law_law 1731 = .ok (.iaload, 1) := by decide +kernel
theorem d_Law_law_1732 : decode b_Law_law 1732 = .ok (.invokevirtual 215, 3) := by decide +kernel
theorem d_Law_law_1735 : decode b_Law_law 1735 = .ok (.aload_n 2, 1) := by decide +kernel
theorem d_Law_law_1736 : decode b_Law_law 1736 = .ok (.aload_n 0, 1) := by decide +kernel
theorem d_Law_law_1737 : decode b_Law_law 1737 = .ok (.iload_n 3, 1) := by decide +kernel
theorem d_Law_law_1738 : decode b_Law_law 1738 = .ok (.iconst 1, 1) := by decide +kernel
theorem d_Law_law_1739 : decode b_Law_law 1739 = .ok (.iadd, 1) := by decide +kernel
theorem d_Law_law_1740 : decode b_Law_law 1740 = .ok (.iaload, 1) := by decide +kernel
theorem d_Law_law_1741 : decode b_Law_law 1741 = .ok (.invokevirtual 218, 3) := by decide +kernel
theorem d_Law_law_1744 : decode b_Law_law 1744 = .ok (.if_icmp .eq 87, 3) := by decide +kernel
theorem d_Law_law_1747 : decode b_Law_law 1747 = .ok (.iconst 0, 1) := by decide +kernel
theorem d_Law_law_1748 : decode b_Law_law 1748 = .ok (.ireturn, 1) := by decide +kernel
theorem d_Law_law_1749 : decode b_Law_law 1749 = .ok (.aload_n 1, 1) := by decide +kernel
theorem d_Law_law_1750 : decode b_Law_law 1750 = .ok (.aload_n 0, 1) := by decide +kernel
theorem d_Law_law_1751 : decode b_Law_law 1751 = .ok (.iload_n 3, 1) := by decide +kernel
theorem d_Law_law_1752 : decode b_Law_law 1752 = .ok (.iconst 1, 1) := by decide +kernel
theorem d_Law_law_1753 : decode b_Law_law 1753 = .ok (.iadd, 1) := by decide +kernel
theorem d_Law_law_1754 : decode b_Law_law 1754 = .ok (.iaload, 1) := by decide +kernel
theorem d_Law_law_1755 : decode b_Law_law 1755 = .ok (.invokevirtual 219, 3) := by decide +kernel
theorem d_Law_law_1758 : decode b_Law_law 1758 = .ok (.aload_n 2, 1) := by decide +kernel
theorem d_Law_law_1759 : decode b_Law_law 1759 = .ok (.aload_n 0, 1) := by decide +kernel
theorem d_Law_law_1760 : decode b_Law_law 1760 = .ok (.iload_n 3, 1) := by decide +kernel
theorem d_Law_law_1761 : decode b_Law_law 1761 = .ok (.iconst 1, 1) := by decide +kernel
theorem d_Law_law_1762 : decode b_Law_law 1762 = .ok (.iadd, 1) := by decide +kernel
theorem d_Law_law_1763 : decode b_Law_law 1763 = .ok (.iaload, 1) := by decide +kernel
theorem d_Law_law_1764 : decode b_Law_law 1764 = .ok (.invokevirtual 222, 3) := by decide +kernel
theorem d_Law_law_1767 : decode b_Law_law 1767 = .ok (.if_icmp .eq 64, 3) := by decide +kernel
theorem d_Law_law_1770 : decode b_Law_law 1770 = .ok (.iconst 0, 1) := by decide +kernel
theorem d_Law_law_1771 : decode b_Law_law 1771 = .ok (.ireturn, 1) := by decide +kernel
theorem d_Law_law_1772 : decode b_Law_law 1772 = .ok (.aload_n 1, 1) := by decide +kernel
theorem d_Law_law_1773 : decode b_Law_law 1773 = .ok (.aload_n 0, 1) := by decide +kernel
theorem d_Law_law_1774 : decode b_Law_law 1774 = .ok (.iload_n 3, 1) := by decide +kernel
theorem d_Law_law_1775 : decode b_Law_law 1775 = .ok (.iconst 1, 1) := by decide +kernel
theorem d_Law_law_1776 : decode b_Law_law 1776 = .ok (.iadd, 1) := by decide +kernel
theorem d_Law_law_1777 : decode b_Law_law 1777 = .ok (.iaload, 1) := by decide +kernel
theorem d_Law_law_1778 : decode b_Law_law 1778 = .ok (.aload_n 0, 1) := by decide +kernel
theorem d_Law_law_1779 : decode b_Law_law 1779 = .ok (.iload_n 3, 1) := by decide +kernel
theorem d_Law_law_1780 : decode b_Law_law 1780 = .ok (.iconst 2, 1) := by decide +kernel
theorem d_Law_law_1781 : decode b_Law_law 1781 = .ok (.iadd, 1) := by decide +kernel
theorem d_Law_law_1782 : decode b_Law_law 1782 = .ok (.iaload, 1) := by decide +kernel
theorem d_Law_law_1783 : decode b_Law_law 1783 = .ok (.invokevirtual 223, 3) := by decide +kernel
theorem d_Law_law_1786 : decode b_Law_law 1786 = .ok (.aload_n 2, 1) := by decide +kernel
theorem d_Law_law_1787 : decode b_Law_law 1787 = .ok (.aload_n 0, 1) := by decide +kernel
theorem d_Law_law_1788 : decode b_Law_law 1788 = .ok (.iload_n 3, 1) := by decide +kernel
theorem d_Law_law_1789 : decode b_Law_law 1789 = .ok (.iconst 1, 1) := by decide +kernel
theorem d_Law_law_1790 : decode b_Law_law 1790 = .ok (.iadd, 1) := by decide +kernel
theorem d_Law_law_1791 : decode b_Law_law 1791 = .ok (.iaload, 1) := by decide +kernel
theorem d_Law_law_1792 : decode b_Law_law 1792 = .ok (.aload_n 0, 1) := by decide +kernel
theorem d_Law_law_1793 : decode b_Law_law 1793 = .ok (.iload_n 3, 1) := by decide +kernel
theorem d_Law_law_1794 : decode b_Law_law 1794 = .ok (.iconst 2, 1) := by decide +kernel
theorem d_Law_law_1795 : decode b_Law_law 1795 = .ok (.iadd, 1) := by decide +kernel
theorem d_Law_law_1796 : decode b_Law_law 1796 = .ok (.iaload, 1) := by decide +kernel
theorem d_Law_law_1797 : decode b_Law_law 1797 = .ok (.invokevirtual 227, 3) := by decide +kernel
theorem d_Law_law_1800 : decode b_Law_law 1800 = .ok (.if_icmp .eq 31, 3) := by decide +kernel
theorem d_Law_law_1803 : decode b_Law_law 1803 = .ok (.iconst 0, 1) := by decide +kernel
theorem d_Law_law_1804 : decode b_Law_law 1804 = .ok (.ireturn, 1) := by decide +kernel
theorem d_Law_law_1805 : decode b_Law_law 1805 = .ok (.aload_n 1, 1) := by decide +kernel
theorem d_Law_law_1806 : decode b_Law_law 1806 = .ok (.invokevirtual 228, 3) := by decide +kernel
theorem d_Law_law_1809 : decode b_Law_law 1809 = .ok (.aload_n 2, 1) := by decide +kernel
theorem d_Law_law_1810 : decode b_Law_law 1810 = .ok (.invokevirtual 231, 3) := by decide +kernel
theorem d_Law_law_1813 : decode b_Law_law 1813 = .ok (.if_icmp .eq 18, 3) := by decide +kernel
theorem d_Law_law_1816 : decode b_Law_law 1816 = .ok (.iconst 0, 1) := by decide +kernel
theorem d_Law_law_1817 : decode b_Law_law 1817 = .ok (.ireturn, 1) := by decide +kernel
theorem d_Law_law_1818 : decode b_Law_law 1818 = .ok (.aload_n 1, 1) := by decide +kernel
theorem d_Law_law_1819 : decode b_Law_law 1819 = .ok (.invokevirtual 232, 3) := by decide +kernel
theorem d_Law_law_1822 : decode b_Law_law 1822 = .ok (.aload_n 2, 1) := by decide +kernel
theorem d_Law_law_1823 : decode b_Law_law 1823 = .ok (.invokevirtual 235, 3) := by decide +kernel
theorem d_Law_law_1826 : decode b_Law_law 1826 = .ok (.if_icmp .eq 5, 3) := by decide +kernel
theorem d_Law_law_1829 : decode b_Law_law 1829 = .ok (.iconst 0, 1) := by decide +kernel
theorem d_Law_law_1830 : decode b_Law_law 1830 = .ok (.ireturn, 1) := by decide +kernel
theorem d_Law_law_1831 : decode b_Law_law 1831 = .ok (.iinc 3 6, 3) := by decide +kernel
theorem d_Law_law_1834 : decode b_Law_law 1834 = .ok (.goto (-1816), 3) := by decide +kernel
theorem d_Law_law_1837 : decode b_Law_law 1837 = .ok (.iconst 1, 1) := by decide +kernel
theorem d_Law_law_1838 : decode b_Law_law 1838 = .ok (.ireturn, 1) := by decide +kernel
