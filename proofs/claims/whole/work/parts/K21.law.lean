abbrev cL_law : ByteArray := code
theorem dL_law_18 : dc cL_law 18 (.iload_n 3) 1 19 := ⟨by decide +kernel, rfl⟩
theorem dL_law_19 : dc cL_law 19 (.aload_n 0) 1 20 := ⟨by decide +kernel, rfl⟩
theorem dL_law_20 : dc cL_law 20 (.arraylength) 1 21 := ⟨by decide +kernel, rfl⟩
theorem dL_law_21 : dc cL_law 21 (.bipush 6) 2 23 := ⟨by decide +kernel, rfl⟩
theorem dL_law_23 : dc cL_law 23 (.isub) 1 24 := ⟨by decide +kernel, rfl⟩
theorem dL_law_24 : dc cL_law 24 (.if_icmp .gt 2017) 3 27 := ⟨by decide +kernel, rfl⟩
theorem dL_law_27 : dc cL_law 27 (.aload_n 0) 1 28 := ⟨by decide +kernel, rfl⟩
theorem dL_law_28 : dc cL_law 28 (.iload_n 3) 1 29 := ⟨by decide +kernel, rfl⟩
theorem dL_law_29 : dc cL_law 29 (.iaload) 1 30 := ⟨by decide +kernel, rfl⟩
theorem dL_law_30 : dc cL_law 30 (.bipush 63) 2 32 := ⟨by decide +kernel, rfl⟩
theorem dL_law_32 : dc cL_law 32 (.iand) 1 33 := ⟨by decide +kernel, rfl⟩
theorem dL_law_33 : dc cL_law 33 (.tableswitch 2002 0 56 #[243, 256, 270, 284, 327, 400, 434, 497, 560, 583, 606, 629, 652, 685, 718, 751, 784, 817, 840, 863, 886, 919, 962, 985, 1024, 1073, 1122, 1171, 1204, 1237, 1260, 1293, 1326, 1339, 1362, 1385, 1418, 1451, 1494, 1527, 1560, 1593, 1626, 1680, 1703, 1716, 1729, 1752, 1785, 1808, 1851, 1874, 1897, 1920, 1943, 1976, 1989]) 243 276 := ⟨by decide +kernel, rfl⟩
theorem dL_law_276 : dc cL_law 276 (.aload_n 1) 1 277 := ⟨by decide +kernel, rfl⟩
theorem dL_law_277 : dc cL_law 277 (.invokevirtual 13) 3 280 := ⟨by decide +kernel, rfl⟩
theorem dL_law_280 : dc cL_law 280 (.aload_n 2) 1 281 := ⟨by decide +kernel, rfl⟩
theorem dL_law_281 : dc cL_law 281 (.invokevirtual 17) 3 284 := ⟨by decide +kernel, rfl⟩
theorem dL_law_284 : dc cL_law 284 (.if_icmp .eq 1751) 3 287 := ⟨by decide +kernel, rfl⟩
theorem dL_law_287 : dc cL_law 287 (.iconst 0) 1 288 := ⟨by decide +kernel, rfl⟩
theorem dL_law_288 : dc cL_law 288 (.ireturn) 1 289 := ⟨by decide +kernel, rfl⟩
theorem dL_law_289 : dc cL_law 289 (.aload_n 1) 1 290 := ⟨by decide +kernel, rfl⟩
theorem dL_law_290 : dc cL_law 290 (.invokevirtual 18) 3 293 := ⟨by decide +kernel, rfl⟩
theorem dL_law_293 : dc cL_law 293 (.aload_n 2) 1 294 := ⟨by decide +kernel, rfl⟩
theorem dL_law_294 : dc cL_law 294 (.invokevirtual 22) 3 297 := ⟨by decide +kernel, rfl⟩
theorem dL_law_297 : dc cL_law 297 (.lcmp) 1 298 := ⟨by decide +kernel, rfl⟩
theorem dL_law_298 : dc cL_law 298 (.ifCond .eq 1737) 3 301 := ⟨by decide +kernel, rfl⟩
theorem dL_law_301 : dc cL_law 301 (.iconst 0) 1 302 := ⟨by decide +kernel, rfl⟩
theorem dL_law_302 : dc cL_law 302 (.ireturn) 1 303 := ⟨by decide +kernel, rfl⟩
theorem dL_law_303 : dc cL_law 303 (.aload_n 1) 1 304 := ⟨by decide +kernel, rfl⟩
theorem dL_law_304 : dc cL_law 304 (.invokevirtual 23) 3 307 := ⟨by decide +kernel, rfl⟩
theorem dL_law_307 : dc cL_law 307 (.aload_n 2) 1 308 := ⟨by decide +kernel, rfl⟩
theorem dL_law_308 : dc cL_law 308 (.invokevirtual 26) 3 311 := ⟨by decide +kernel, rfl⟩
theorem dL_law_311 : dc cL_law 311 (.lcmp) 1 312 := ⟨by decide +kernel, rfl⟩
theorem dL_law_312 : dc cL_law 312 (.ifCond .eq 1723) 3 315 := ⟨by decide +kernel, rfl⟩
theorem dL_law_315 : dc cL_law 315 (.iconst 0) 1 316 := ⟨by decide +kernel, rfl⟩
theorem dL_law_316 : dc cL_law 316 (.ireturn) 1 317 := ⟨by decide +kernel, rfl⟩
theorem dL_law_317 : dc cL_law 317 (.aload_n 1) 1 318 := ⟨by decide +kernel, rfl⟩
theorem dL_law_318 : dc cL_law 318 (.aload_n 0) 1 319 := ⟨by decide +kernel, rfl⟩
theorem dL_law_319 : dc cL_law 319 (.iload_n 3) 1 320 := ⟨by decide +kernel, rfl⟩
theorem dL_law_320 : dc cL_law 320 (.iconst 1) 1 321 := ⟨by decide +kernel, rfl⟩
theorem dL_law_321 : dc cL_law 321 (.iadd) 1 322 := ⟨by decide +kernel, rfl⟩
theorem dL_law_322 : dc cL_law 322 (.iaload) 1 323 := ⟨by decide +kernel, rfl⟩
theorem dL_law_323 : dc cL_law 323 (.aload_n 0) 1 324 := ⟨by decide +kernel, rfl⟩
theorem dL_law_324 : dc cL_law 324 (.iload_n 3) 1 325 := ⟨by decide +kernel, rfl⟩
theorem dL_law_325 : dc cL_law 325 (.iconst 2) 1 326 := ⟨by decide +kernel, rfl⟩
theorem dL_law_326 : dc cL_law 326 (.iadd) 1 327 := ⟨by decide +kernel, rfl⟩
theorem dL_law_327 : dc cL_law 327 (.iaload) 1 328 := ⟨by decide +kernel, rfl⟩
theorem dL_law_328 : dc cL_law 328 (.aload_n 0) 1 329 := ⟨by decide +kernel, rfl⟩
theorem dL_law_329 : dc cL_law 329 (.iload_n 3) 1 330 := ⟨by decide +kernel, rfl⟩
theorem dL_law_330 : dc cL_law 330 (.iconst 3) 1 331 := ⟨by decide +kernel, rfl⟩
theorem dL_law_331 : dc cL_law 331 (.iadd) 1 332 := ⟨by decide +kernel, rfl⟩
theorem dL_law_332 : dc cL_law 332 (.iaload) 1 333 := ⟨by decide +kernel, rfl⟩
theorem dL_law_333 : dc cL_law 333 (.invokevirtual 27) 3 336 := ⟨by decide +kernel, rfl⟩
theorem dL_law_336 : dc cL_law 336 (.aload_n 2) 1 337 := ⟨by decide +kernel, rfl⟩
theorem dL_law_337 : dc cL_law 337 (.aload_n 0) 1 338 := ⟨by decide +kernel, rfl⟩
theorem dL_law_338 : dc cL_law 338 (.iload_n 3) 1 339 := ⟨by decide +kernel, rfl⟩
theorem dL_law_339 : dc cL_law 339 (.iconst 1) 1 340 := ⟨by decide +kernel, rfl⟩
theorem dL_law_340 : dc cL_law 340 (.iadd) 1 341 := ⟨by decide +kernel, rfl⟩
theorem dL_law_341 : dc cL_law 341 (.iaload) 1 342 := ⟨by decide +kernel, rfl⟩
theorem dL_law_342 : dc cL_law 342 (.aload_n 0) 1 343 := ⟨by decide +kernel, rfl⟩
theorem dL_law_343 : dc cL_law 343 (.iload_n 3) 1 344 := ⟨by decide +kernel, rfl⟩
theorem dL_law_344 : dc cL_law 344 (.iconst 2) 1 345 := ⟨by decide +kernel, rfl⟩
theorem dL_law_345 : dc cL_law 345 (.iadd) 1 346 := ⟨by decide +kernel, rfl⟩
theorem dL_law_346 : dc cL_law 346 (.iaload) 1 347 := ⟨by decide +kernel, rfl⟩
theorem dL_law_347 : dc cL_law 347 (.aload_n 0) 1 348 := ⟨by decide +kernel, rfl⟩
theorem dL_law_348 : dc cL_law 348 (.iload_n 3) 1 349 := ⟨by decide +kernel, rfl⟩
theorem dL_law_349 : dc cL_law 349 (.iconst 3) 1 350 := ⟨by decide +kernel, rfl⟩
theorem dL_law_350 : dc cL_law 350 (.iadd) 1 351 := ⟨by decide +kernel, rfl⟩
theorem dL_law_351 : dc cL_law 351 (.iaload) 1 352 := ⟨by decide +kernel, rfl⟩
theorem dL_law_352 : dc cL_law 352 (.invokevirtual 31) 3 355 := ⟨by decide +kernel, rfl⟩
theorem dL_law_355 : dc cL_law 355 (.if_icmp .eq 1680) 3 358 := ⟨by decide +kernel, rfl⟩
theorem dL_law_358 : dc cL_law 358 (.iconst 0) 1 359 := ⟨by decide +kernel, rfl⟩
theorem dL_law_359 : dc cL_law 359 (.ireturn) 1 360 := ⟨by decide +kernel, rfl⟩
theorem dL_law_360 : dc cL_law 360 (.aload_n 1) 1 361 := ⟨by decide +kernel, rfl⟩
theorem dL_law_361 : dc cL_law 361 (.aload_n 0) 1 362 := ⟨by decide +kernel, rfl⟩
theorem dL_law_362 : dc cL_law 362 (.iload_n 3) 1 363 := ⟨by decide +kernel, rfl⟩
theorem dL_law_363 : dc cL_law 363 (.iconst 1) 1 364 := ⟨by decide +kernel, rfl⟩
theorem dL_law_364 : dc cL_law 364 (.iadd) 1 365 := ⟨by decide +kernel, rfl⟩
theorem dL_law_365 : dc cL_law 365 (.iaload) 1 366 := ⟨by decide +kernel, rfl⟩
theorem dL_law_366 : dc cL_law 366 (.aload_n 0) 1 367 := ⟨by decide +kernel, rfl⟩
theorem dL_law_367 : dc cL_law 367 (.iload_n 3) 1 368 := ⟨by decide +kernel, rfl⟩
theorem dL_law_368 : dc cL_law 368 (.iconst 2) 1 369 := ⟨by decide +kernel, rfl⟩
theorem dL_law_369 : dc cL_law 369 (.iadd) 1 370 := ⟨by decide +kernel, rfl⟩
theorem dL_law_370 : dc cL_law 370 (.iaload) 1 371 := ⟨by decide +kernel, rfl⟩
theorem dL_law_371 : dc cL_law 371 (.aload_n 0) 1 372 := ⟨by decide +kernel, rfl⟩
theorem dL_law_372 : dc cL_law 372 (.iload_n 3) 1 373 := ⟨by decide +kernel, rfl⟩
theorem dL_law_373 : dc cL_law 373 (.iconst 3) 1 374 := ⟨by decide +kernel, rfl⟩
theorem dL_law_374 : dc cL_law 374 (.iadd) 1 375 := ⟨by decide +kernel, rfl⟩
theorem dL_law_375 : dc cL_law 375 (.iaload) 1 376 := ⟨by decide +kernel, rfl⟩
theorem dL_law_376 : dc cL_law 376 (.i2l) 1 377 := ⟨by decide +kernel, rfl⟩
theorem dL_law_377 : dc cL_law 377 (.bipush 32) 2 379 := ⟨by decide +kernel, rfl⟩
theorem dL_law_379 : dc cL_law 379 (.lshl) 1 380 := ⟨by decide +kernel, rfl⟩
theorem dL_law_380 : dc cL_law 380 (.aload_n 0) 1 381 := ⟨by decide +kernel, rfl⟩
theorem dL_law_381 : dc cL_law 381 (.iload_n 3) 1 382 := ⟨by decide +kernel, rfl⟩
theorem dL_law_382 : dc cL_law 382 (.iconst 4) 1 383 := ⟨by decide +kernel, rfl⟩
theorem dL_law_383 : dc cL_law 383 (.iadd) 1 384 := ⟨by decide +kernel, rfl⟩
theorem dL_law_384 : dc cL_law 384 (.iaload) 1 385 := ⟨by decide +kernel, rfl⟩
theorem dL_law_385 : dc cL_law 385 (.i2l) 1 386 := ⟨by decide +kernel, rfl⟩
theorem dL_law_386 : dc cL_law 386 (.ldc2_w 32) 3 389 := ⟨by decide +kernel, rfl⟩
theorem dL_law_389 : dc cL_law 389 (.land) 1 390 := ⟨by decide +kernel, rfl⟩
theorem dL_law_390 : dc cL_law 390 (.lor) 1 391 := ⟨by decide +kernel, rfl⟩
theorem dL_law_391 : dc cL_law 391 (.invokevirtual 34) 3 394 := ⟨by decide +kernel, rfl⟩
theorem dL_law_394 : dc cL_law 394 (.aload_n 2) 1 395 := ⟨by decide +kernel, rfl⟩
theorem dL_law_395 : dc cL_law 395 (.aload_n 0) 1 396 := ⟨by decide +kernel, rfl⟩
theorem dL_law_396 : dc cL_law 396 (.iload_n 3) 1 397 := ⟨by decide +kernel, rfl⟩
theorem dL_law_397 : dc cL_law 397 (.iconst 1) 1 398 := ⟨by decide +kernel, rfl⟩
theorem dL_law_398 : dc cL_law 398 (.iadd) 1 399 := ⟨by decide +kernel, rfl⟩
theorem dL_law_399 : dc cL_law 399 (.iaload) 1 400 := ⟨by decide +kernel, rfl⟩
theorem dL_law_400 : dc cL_law 400 (.aload_n 0) 1 401 := ⟨by decide +kernel, rfl⟩
theorem dL_law_401 : dc cL_law 401 (.iload_n 3) 1 402 := ⟨by decide +kernel, rfl⟩
theorem dL_law_402 : dc cL_law 402 (.iconst 2) 1 403 := ⟨by decide +kernel, rfl⟩
theorem dL_law_403 : dc cL_law 403 (.iadd) 1 404 := ⟨by decide +kernel, rfl⟩
theorem dL_law_404 : dc cL_law 404 (.iaload) 1 405 := ⟨by decide +kernel, rfl⟩
theorem dL_law_405 : dc cL_law 405 (.aload_n 0) 1 406 := ⟨by decide +kernel, rfl⟩
theorem dL_law_406 : dc cL_law 406 (.iload_n 3) 1 407 := ⟨by decide +kernel, rfl⟩
theorem dL_law_407 : dc cL_law 407 (.iconst 3) 1 408 := ⟨by decide +kernel, rfl⟩
theorem dL_law_408 : dc cL_law 408 (.iadd) 1 409 := ⟨by decide +kernel, rfl⟩
theorem dL_law_409 : dc cL_law 409 (.iaload) 1 410 := ⟨by decide +kernel, rfl⟩
theorem dL_law_410 : dc cL_law 410 (.i2l) 1 411 := ⟨by decide +kernel, rfl⟩
theorem dL_law_411 : dc cL_law 411 (.bipush 32) 2 413 := ⟨by decide +kernel, rfl⟩
theorem dL_law_413 : dc cL_law 413 (.lshl) 1 414 := ⟨by decide +kernel, rfl⟩
theorem dL_law_414 : dc cL_law 414 (.aload_n 0) 1 415 := ⟨by decide +kernel, rfl⟩
theorem dL_law_415 : dc cL_law 415 (.iload_n 3) 1 416 := ⟨by decide +kernel, rfl⟩
theorem dL_law_416 : dc cL_law 416 (.iconst 4) 1 417 := ⟨by decide +kernel, rfl⟩
theorem dL_law_417 : dc cL_law 417 (.iadd) 1 418 := ⟨by decide +kernel, rfl⟩
theorem dL_law_418 : dc cL_law 418 (.iaload) 1 419 := ⟨by decide +kernel, rfl⟩
theorem dL_law_419 : dc cL_law 419 (.i2l) 1 420 := ⟨by decide +kernel, rfl⟩
theorem dL_law_420 : dc cL_law 420 (.ldc2_w 32) 3 423 := ⟨by decide +kernel, rfl⟩
theorem dL_law_423 : dc cL_law 423 (.land) 1 424 := ⟨by decide +kernel, rfl⟩
theorem dL_law_424 : dc cL_law 424 (.lor) 1 425 := ⟨by decide +kernel, rfl⟩
theorem dL_law_425 : dc cL_law 425 (.invokevirtual 38) 3 428 := ⟨by decide +kernel, rfl⟩
theorem dL_law_428 : dc cL_law 428 (.if_icmp .eq 1607) 3 431 := ⟨by decide +kernel, rfl⟩
theorem dL_law_431 : dc cL_law 431 (.iconst 0) 1 432 := ⟨by decide +kernel, rfl⟩
theorem dL_law_432 : dc cL_law 432 (.ireturn) 1 433 := ⟨by decide +kernel, rfl⟩
theorem dL_law_433 : dc cL_law 433 (.aload_n 1) 1 434 := ⟨by decide +kernel, rfl⟩
theorem dL_law_434 : dc cL_law 434 (.aload_n 0) 1 435 := ⟨by decide +kernel, rfl⟩
theorem dL_law_435 : dc cL_law 435 (.iload_n 3) 1 436 := ⟨by decide +kernel, rfl⟩
theorem dL_law_436 : dc cL_law 436 (.iconst 1) 1 437 := ⟨by decide +kernel, rfl⟩
theorem dL_law_437 : dc cL_law 437 (.iadd) 1 438 := ⟨by decide +kernel, rfl⟩
theorem dL_law_438 : dc cL_law 438 (.iaload) 1 439 := ⟨by decide +kernel, rfl⟩
theorem dL_law_439 : dc cL_law 439 (.aload_n 0) 1 440 := ⟨by decide +kernel, rfl⟩
theorem dL_law_440 : dc cL_law 440 (.iload_n 3) 1 441 := ⟨by decide +kernel, rfl⟩
theorem dL_law_441 : dc cL_law 441 (.iconst 2) 1 442 := ⟨by decide +kernel, rfl⟩
theorem dL_law_442 : dc cL_law 442 (.iadd) 1 443 := ⟨by decide +kernel, rfl⟩
theorem dL_law_443 : dc cL_law 443 (.iaload) 1 444 := ⟨by decide +kernel, rfl⟩
theorem dL_law_444 : dc cL_law 444 (.invokevirtual 39) 3 447 := ⟨by decide +kernel, rfl⟩
theorem dL_law_447 : dc cL_law 447 (.aload_n 2) 1 448 := ⟨by decide +kernel, rfl⟩
theorem dL_law_448 : dc cL_law 448 (.aload_n 0) 1 449 := ⟨by decide +kernel, rfl⟩
theorem dL_law_449 : dc cL_law 449 (.iload_n 3) 1 450 := ⟨by decide +kernel, rfl⟩
theorem dL_law_450 : dc cL_law 450 (.iconst 1) 1 451 := ⟨by decide +kernel, rfl⟩
theorem dL_law_451 : dc cL_law 451 (.iadd) 1 452 := ⟨by decide +kernel, rfl⟩
theorem dL_law_452 : dc cL_law 452 (.iaload) 1 453 := ⟨by decide +kernel, rfl⟩
theorem dL_law_453 : dc cL_law 453 (.aload_n 0) 1 454 := ⟨by decide +kernel, rfl⟩
theorem dL_law_454 : dc cL_law 454 (.iload_n 3) 1 455 := ⟨by decide +kernel, rfl⟩
theorem dL_law_455 : dc cL_law 455 (.iconst 2) 1 456 := ⟨by decide +kernel, rfl⟩
theorem dL_law_456 : dc cL_law 456 (.iadd) 1 457 := ⟨by decide +kernel, rfl⟩
theorem dL_law_457 : dc cL_law 457 (.iaload) 1 458 := ⟨by decide +kernel, rfl⟩
theorem dL_law_458 : dc cL_law 458 (.invokevirtual 43) 3 461 := ⟨by decide +kernel, rfl⟩
theorem dL_law_461 : dc cL_law 461 (.lcmp) 1 462 := ⟨by decide +kernel, rfl⟩
theorem dL_law_462 : dc cL_law 462 (.ifCond .eq 1573) 3 465 := ⟨by decide +kernel, rfl⟩
theorem dL_law_465 : dc cL_law 465 (.iconst 0) 1 466 := ⟨by decide +kernel, rfl⟩
theorem dL_law_466 : dc cL_law 466 (.ireturn) 1 467 := ⟨by decide +kernel, rfl⟩
theorem dL_law_467 : dc cL_law 467 (.aload_n 1) 1 468 := ⟨by decide +kernel, rfl⟩
theorem dL_law_468 : dc cL_law 468 (.aload_n 0) 1 469 := ⟨by decide +kernel, rfl⟩
theorem dL_law_469 : dc cL_law 469 (.iload_n 3) 1 470 := ⟨by decide +kernel, rfl⟩
theorem dL_law_470 : dc cL_law 470 (.iconst 1) 1 471 := ⟨by decide +kernel, rfl⟩
theorem dL_law_471 : dc cL_law 471 (.iadd) 1 472 := ⟨by decide +kernel, rfl⟩
theorem dL_law_472 : dc cL_law 472 (.iaload) 1 473 := ⟨by decide +kernel, rfl⟩
theorem dL_law_473 : dc cL_law 473 (.aload_n 0) 1 474 := ⟨by decide +kernel, rfl⟩
theorem dL_law_474 : dc cL_law 474 (.iload_n 3) 1 475 := ⟨by decide +kernel, rfl⟩
theorem dL_law_475 : dc cL_law 475 (.iconst 2) 1 476 := ⟨by decide +kernel, rfl⟩
theorem dL_law_476 : dc cL_law 476 (.iadd) 1 477 := ⟨by decide +kernel, rfl⟩
theorem dL_law_477 : dc cL_law 477 (.iaload) 1 478 := ⟨by decide +kernel, rfl⟩
theorem dL_law_478 : dc cL_law 478 (.aload_n 0) 1 479 := ⟨by decide +kernel, rfl⟩
theorem dL_law_479 : dc cL_law 479 (.iload_n 3) 1 480 := ⟨by decide +kernel, rfl⟩
theorem dL_law_480 : dc cL_law 480 (.iconst 3) 1 481 := ⟨by decide +kernel, rfl⟩
theorem dL_law_481 : dc cL_law 481 (.iadd) 1 482 := ⟨by decide +kernel, rfl⟩
theorem dL_law_482 : dc cL_law 482 (.iaload) 1 483 := ⟨by decide +kernel, rfl⟩
theorem dL_law_483 : dc cL_law 483 (.aload_n 0) 1 484 := ⟨by decide +kernel, rfl⟩
theorem dL_law_484 : dc cL_law 484 (.iload_n 3) 1 485 := ⟨by decide +kernel, rfl⟩
theorem dL_law_485 : dc cL_law 485 (.iconst 4) 1 486 := ⟨by decide +kernel, rfl⟩
theorem dL_law_486 : dc cL_law 486 (.iadd) 1 487 := ⟨by decide +kernel, rfl⟩
theorem dL_law_487 : dc cL_law 487 (.iaload) 1 488 := ⟨by decide +kernel, rfl⟩
theorem dL_law_488 : dc cL_law 488 (.aload_n 0) 1 489 := ⟨by decide +kernel, rfl⟩
theorem dL_law_489 : dc cL_law 489 (.iload_n 3) 1 490 := ⟨by decide +kernel, rfl⟩
theorem dL_law_490 : dc cL_law 490 (.iconst 5) 1 491 := ⟨by decide +kernel, rfl⟩
theorem dL_law_491 : dc cL_law 491 (.iadd) 1 492 := ⟨by decide +kernel, rfl⟩
theorem dL_law_492 : dc cL_law 492 (.iaload) 1 493 := ⟨by decide +kernel, rfl⟩
theorem dL_law_493 : dc cL_law 493 (.invokevirtual 44) 3 496 := ⟨by decide +kernel, rfl⟩
theorem dL_law_496 : dc cL_law 496 (.aload_n 2) 1 497 := ⟨by decide +kernel, rfl⟩
theorem dL_law_497 : dc cL_law 497 (.aload_n 0) 1 498 := ⟨by decide +kernel, rfl⟩
theorem dL_law_498 : dc cL_law 498 (.iload_n 3) 1 499 := ⟨by decide +kernel, rfl⟩
theorem dL_law_499 : dc cL_law 499 (.iconst 1) 1 500 := ⟨by decide +kernel, rfl⟩
theorem dL_law_500 : dc cL_law 500 (.iadd) 1 501 := ⟨by decide +kernel, rfl⟩
theorem dL_law_501 : dc cL_law 501 (.iaload) 1 502 := ⟨by decide +kernel, rfl⟩
theorem dL_law_502 : dc cL_law 502 (.aload_n 0) 1 503 := ⟨by decide +kernel, rfl⟩
theorem dL_law_503 : dc cL_law 503 (.iload_n 3) 1 504 := ⟨by decide +kernel, rfl⟩
theorem dL_law_504 : dc cL_law 504 (.iconst 2) 1 505 := ⟨by decide +kernel, rfl⟩
theorem dL_law_505 : dc cL_law 505 (.iadd) 1 506 := ⟨by decide +kernel, rfl⟩
theorem dL_law_506 : dc cL_law 506 (.iaload) 1 507 := ⟨by decide +kernel, rfl⟩
theorem dL_law_507 : dc cL_law 507 (.aload_n 0) 1 508 := ⟨by decide +kernel, rfl⟩
theorem dL_law_508 : dc cL_law 508 (.iload_n 3) 1 509 := ⟨by decide +kernel, rfl⟩
theorem dL_law_509 : dc cL_law 509 (.iconst 3) 1 510 := ⟨by decide +kernel, rfl⟩
theorem dL_law_510 : dc cL_law 510 (.iadd) 1 511 := ⟨by decide +kernel, rfl⟩
theorem dL_law_511 : dc cL_law 511 (.iaload) 1 512 := ⟨by decide +kernel, rfl⟩
theorem dL_law_512 : dc cL_law 512 (.aload_n 0) 1 513 := ⟨by decide +kernel, rfl⟩
theorem dL_law_513 : dc cL_law 513 (.iload_n 3) 1 514 := ⟨by decide +kernel, rfl⟩
theorem dL_law_514 : dc cL_law 514 (.iconst 4) 1 515 := ⟨by decide +kernel, rfl⟩
theorem dL_law_515 : dc cL_law 515 (.iadd) 1 516 := ⟨by decide +kernel, rfl⟩
theorem dL_law_516 : dc cL_law 516 (.iaload) 1 517 := ⟨by decide +kernel, rfl⟩
theorem dL_law_517 : dc cL_law 517 (.aload_n 0) 1 518 := ⟨by decide +kernel, rfl⟩
theorem dL_law_518 : dc cL_law 518 (.iload_n 3) 1 519 := ⟨by decide +kernel, rfl⟩
theorem dL_law_519 : dc cL_law 519 (.iconst 5) 1 520 := ⟨by decide +kernel, rfl⟩
theorem dL_law_520 : dc cL_law 520 (.iadd) 1 521 := ⟨by decide +kernel, rfl⟩
theorem dL_law_521 : dc cL_law 521 (.iaload) 1 522 := ⟨by decide +kernel, rfl⟩
theorem dL_law_522 : dc cL_law 522 (.invokevirtual 48) 3 525 := ⟨by decide +kernel, rfl⟩
theorem dL_law_525 : dc cL_law 525 (.if_icmp .eq 1510) 3 528 := ⟨by decide +kernel, rfl⟩
theorem dL_law_528 : dc cL_law 528 (.iconst 0) 1 529 := ⟨by decide +kernel, rfl⟩
theorem dL_law_529 : dc cL_law 529 (.ireturn) 1 530 := ⟨by decide +kernel, rfl⟩
theorem dL_law_530 : dc cL_law 530 (.aload_n 1) 1 531 := ⟨by decide +kernel, rfl⟩
theorem dL_law_531 : dc cL_law 531 (.aload_n 0) 1 532 := ⟨by decide +kernel, rfl⟩
theorem dL_law_532 : dc cL_law 532 (.iload_n 3) 1 533 := ⟨by decide +kernel, rfl⟩
theorem dL_law_533 : dc cL_law 533 (.iconst 1) 1 534 := ⟨by decide +kernel, rfl⟩
theorem dL_law_534 : dc cL_law 534 (.iadd) 1 535 := ⟨by decide +kernel, rfl⟩
theorem dL_law_535 : dc cL_law 535 (.iaload) 1 536 := ⟨by decide +kernel, rfl⟩
theorem dL_law_536 : dc cL_law 536 (.aload_n 0) 1 537 := ⟨by decide +kernel, rfl⟩
theorem dL_law_537 : dc cL_law 537 (.iload_n 3) 1 538 := ⟨by decide +kernel, rfl⟩
theorem dL_law_538 : dc cL_law 538 (.iconst 2) 1 539 := ⟨by decide +kernel, rfl⟩
theorem dL_law_539 : dc cL_law 539 (.iadd) 1 540 := ⟨by decide +kernel, rfl⟩
theorem dL_law_540 : dc cL_law 540 (.iaload) 1 541 := ⟨by decide +kernel, rfl⟩
theorem dL_law_541 : dc cL_law 541 (.aload_n 0) 1 542 := ⟨by decide +kernel, rfl⟩
theorem dL_law_542 : dc cL_law 542 (.iload_n 3) 1 543 := ⟨by decide +kernel, rfl⟩
theorem dL_law_543 : dc cL_law 543 (.iconst 3) 1 544 := ⟨by decide +kernel, rfl⟩
theorem dL_law_544 : dc cL_law 544 (.iadd) 1 545 := ⟨by decide +kernel, rfl⟩
theorem dL_law_545 : dc cL_law 545 (.iaload) 1 546 := ⟨by decide +kernel, rfl⟩
theorem dL_law_546 : dc cL_law 546 (.aload_n 0) 1 547 := ⟨by decide +kernel, rfl⟩
theorem dL_law_547 : dc cL_law 547 (.iload_n 3) 1 548 := ⟨by decide +kernel, rfl⟩
theorem dL_law_548 : dc cL_law 548 (.iconst 4) 1 549 := ⟨by decide +kernel, rfl⟩
theorem dL_law_549 : dc cL_law 549 (.iadd) 1 550 := ⟨by decide +kernel, rfl⟩
theorem dL_law_550 : dc cL_law 550 (.iaload) 1 551 := ⟨by decide +kernel, rfl⟩
theorem dL_law_551 : dc cL_law 551 (.aload_n 0) 1 552 := ⟨by decide +kernel, rfl⟩
theorem dL_law_552 : dc cL_law 552 (.iload_n 3) 1 553 := ⟨by decide +kernel, rfl⟩
theorem dL_law_553 : dc cL_law 553 (.iconst 5) 1 554 := ⟨by decide +kernel, rfl⟩
theorem dL_law_554 : dc cL_law 554 (.iadd) 1 555 := ⟨by decide +kernel, rfl⟩
theorem dL_law_555 : dc cL_law 555 (.iaload) 1 556 := ⟨by decide +kernel, rfl⟩
theorem dL_law_556 : dc cL_law 556 (.invokevirtual 49) 3 559 := ⟨by decide +kernel, rfl⟩
theorem dL_law_559 : dc cL_law 559 (.aload_n 2) 1 560 := ⟨by decide +kernel, rfl⟩
theorem dL_law_560 : dc cL_law 560 (.aload_n 0) 1 561 := ⟨by decide +kernel, rfl⟩
theorem dL_law_561 : dc cL_law 561 (.iload_n 3) 1 562 := ⟨by decide +kernel, rfl⟩
theorem dL_law_562 : dc cL_law 562 (.iconst 1) 1 563 := ⟨by decide +kernel, rfl⟩
theorem dL_law_563 : dc cL_law 563 (.iadd) 1 564 := ⟨by decide +kernel, rfl⟩
theorem dL_law_564 : dc cL_law 564 (.iaload) 1 565 := ⟨by decide +kernel, rfl⟩
theorem dL_law_565 : dc cL_law 565 (.aload_n 0) 1 566 := ⟨by decide +kernel, rfl⟩
theorem dL_law_566 : dc cL_law 566 (.iload_n 3) 1 567 := ⟨by decide +kernel, rfl⟩
theorem dL_law_567 : dc cL_law 567 (.iconst 2) 1 568 := ⟨by decide +kernel, rfl⟩
theorem dL_law_568 : dc cL_law 568 (.iadd) 1 569 := ⟨by decide +kernel, rfl⟩
theorem dL_law_569 : dc cL_law 569 (.iaload) 1 570 := ⟨by decide +kernel, rfl⟩
theorem dL_law_570 : dc cL_law 570 (.aload_n 0) 1 571 := ⟨by decide +kernel, rfl⟩
theorem dL_law_571 : dc cL_law 571 (.iload_n 3) 1 572 := ⟨by decide +kernel, rfl⟩
theorem dL_law_572 : dc cL_law 572 (.iconst 3) 1 573 := ⟨by decide +kernel, rfl⟩
theorem dL_law_573 : dc cL_law 573 (.iadd) 1 574 := ⟨by decide +kernel, rfl⟩
theorem dL_law_574 : dc cL_law 574 (.iaload) 1 575 := ⟨by decide +kernel, rfl⟩
theorem dL_law_575 : dc cL_law 575 (.aload_n 0) 1 576 := ⟨by decide +kernel, rfl⟩
theorem dL_law_576 : dc cL_law 576 (.iload_n 3) 1 577 := ⟨by decide +kernel, rfl⟩
theorem dL_law_577 : dc cL_law 577 (.iconst 4) 1 578 := ⟨by decide +kernel, rfl⟩
theorem dL_law_578 : dc cL_law 578 (.iadd) 1 579 := ⟨by decide +kernel, rfl⟩
theorem dL_law_579 : dc cL_law 579 (.iaload) 1 580 := ⟨by decide +kernel, rfl⟩
theorem dL_law_580 : dc cL_law 580 (.aload_n 0) 1 581 := ⟨by decide +kernel, rfl⟩
theorem dL_law_581 : dc cL_law 581 (.iload_n 3) 1 582 := ⟨by decide +kernel, rfl⟩
theorem dL_law_582 : dc cL_law 582 (.iconst 5) 1 583 := ⟨by decide +kernel, rfl⟩
theorem dL_law_583 : dc cL_law 583 (.iadd) 1 584 := ⟨by decide +kernel, rfl⟩
theorem dL_law_584 : dc cL_law 584 (.iaload) 1 585 := ⟨by decide +kernel, rfl⟩
theorem dL_law_585 : dc cL_law 585 (.invokevirtual 53) 3 588 := ⟨by decide +kernel, rfl⟩
theorem dL_law_588 : dc cL_law 588 (.if_icmp .eq 1447) 3 591 := ⟨by decide +kernel, rfl⟩
theorem dL_law_591 : dc cL_law 591 (.iconst 0) 1 592 := ⟨by decide +kernel, rfl⟩
theorem dL_law_592 : dc cL_law 592 (.ireturn) 1 593 := ⟨by decide +kernel, rfl⟩
theorem dL_law_593 : dc cL_law 593 (.aload_n 1) 1 594 := ⟨by decide +kernel, rfl⟩
theorem dL_law_594 : dc cL_law 594 (.aload_n 0) 1 595 := ⟨by decide +kernel, rfl⟩
theorem dL_law_595 : dc cL_law 595 (.iload_n 3) 1 596 := ⟨by decide +kernel, rfl⟩
theorem dL_law_596 : dc cL_law 596 (.iconst 1) 1 597 := ⟨by decide +kernel, rfl⟩
theorem dL_law_597 : dc cL_law 597 (.iadd) 1 598 := ⟨by decide +kernel, rfl⟩
theorem dL_law_598 : dc cL_law 598 (.iaload) 1 599 := ⟨by decide +kernel, rfl⟩
theorem dL_law_599 : dc cL_law 599 (.invokevirtual 54) 3 602 := ⟨by decide +kernel, rfl⟩
theorem dL_law_602 : dc cL_law 602 (.aload_n 2) 1 603 := ⟨by decide +kernel, rfl⟩
theorem dL_law_603 : dc cL_law 603 (.aload_n 0) 1 604 := ⟨by decide +kernel, rfl⟩
theorem dL_law_604 : dc cL_law 604 (.iload_n 3) 1 605 := ⟨by decide +kernel, rfl⟩
theorem dL_law_605 : dc cL_law 605 (.iconst 1) 1 606 := ⟨by decide +kernel, rfl⟩
theorem dL_law_606 : dc cL_law 606 (.iadd) 1 607 := ⟨by decide +kernel, rfl⟩
theorem dL_law_607 : dc cL_law 607 (.iaload) 1 608 := ⟨by decide +kernel, rfl⟩
theorem dL_law_608 : dc cL_law 608 (.invokevirtual 58) 3 611 := ⟨by decide +kernel, rfl⟩
theorem dL_law_611 : dc cL_law 611 (.if_icmp .eq 1424) 3 614 := ⟨by decide +kernel, rfl⟩
theorem dL_law_614 : dc cL_law 614 (.iconst 0) 1 615 := ⟨by decide +kernel, rfl⟩
theorem dL_law_615 : dc cL_law 615 (.ireturn) 1 616 := ⟨by decide +kernel, rfl⟩
theorem dL_law_616 : dc cL_law 616 (.aload_n 1) 1 617 := ⟨by decide +kernel, rfl⟩
theorem dL_law_617 : dc cL_law 617 (.aload_n 0) 1 618 := ⟨by decide +kernel, rfl⟩
theorem dL_law_618 : dc cL_law 618 (.iload_n 3) 1 619 := ⟨by decide +kernel, rfl⟩
theorem dL_law_619 : dc cL_law 619 (.iconst 1) 1 620 := ⟨by decide +kernel, rfl⟩
theorem dL_law_620 : dc cL_law 620 (.iadd) 1 621 := ⟨by decide +kernel, rfl⟩
theorem dL_law_621 : dc cL_law 621 (.iaload) 1 622 := ⟨by decide +kernel, rfl⟩
theorem dL_law_622 : dc cL_law 622 (.invokevirtual 59) 3 625 := ⟨by decide +kernel, rfl⟩
theorem dL_law_625 : dc cL_law 625 (.aload_n 2) 1 626 := ⟨by decide +kernel, rfl⟩
theorem dL_law_626 : dc cL_law 626 (.aload_n 0) 1 627 := ⟨by decide +kernel, rfl⟩
theorem dL_law_627 : dc cL_law 627 (.iload_n 3) 1 628 := ⟨by decide +kernel, rfl⟩
theorem dL_law_628 : dc cL_law 628 (.iconst 1) 1 629 := ⟨by decide +kernel, rfl⟩
theorem dL_law_629 : dc cL_law 629 (.iadd) 1 630 := ⟨by decide +kernel, rfl⟩
theorem dL_law_630 : dc cL_law 630 (.iaload) 1 631 := ⟨by decide +kernel, rfl⟩
theorem dL_law_631 : dc cL_law 631 (.invokevirtual 62) 3 634 := ⟨by decide +kernel, rfl⟩
theorem dL_law_634 : dc cL_law 634 (.if_icmp .eq 1401) 3 637 := ⟨by decide +kernel, rfl⟩
theorem dL_law_637 : dc cL_law 637 (.iconst 0) 1 638 := ⟨by decide +kernel, rfl⟩
theorem dL_law_638 : dc cL_law 638 (.ireturn) 1 639 := ⟨by decide +kernel, rfl⟩
theorem dL_law_639 : dc cL_law 639 (.aload_n 1) 1 640 := ⟨by decide +kernel, rfl⟩
theorem dL_law_640 : dc cL_law 640 (.aload_n 0) 1 641 := ⟨by decide +kernel, rfl⟩
theorem dL_law_641 : dc cL_law 641 (.iload_n 3) 1 642 := ⟨by decide +kernel, rfl⟩
theorem dL_law_642 : dc cL_law 642 (.iconst 1) 1 643 := ⟨by decide +kernel, rfl⟩
theorem dL_law_643 : dc cL_law 643 (.iadd) 1 644 := ⟨by decide +kernel, rfl⟩
theorem dL_law_644 : dc cL_law 644 (.iaload) 1 645 := ⟨by decide +kernel, rfl⟩
theorem dL_law_645 : dc cL_law 645 (.invokevirtual 63) 3 648 := ⟨by decide +kernel, rfl⟩
theorem dL_law_648 : dc cL_law 648 (.aload_n 2) 1 649 := ⟨by decide +kernel, rfl⟩
theorem dL_law_649 : dc cL_law 649 (.aload_n 0) 1 650 := ⟨by decide +kernel, rfl⟩
theorem dL_law_650 : dc cL_law 650 (.iload_n 3) 1 651 := ⟨by decide +kernel, rfl⟩
theorem dL_law_651 : dc cL_law 651 (.iconst 1) 1 652 := ⟨by decide +kernel, rfl⟩
theorem dL_law_652 : dc cL_law 652 (.iadd) 1 653 := ⟨by decide +kernel, rfl⟩
theorem dL_law_653 : dc cL_law 653 (.iaload) 1 654 := ⟨by decide +kernel, rfl⟩
theorem dL_law_654 : dc cL_law 654 (.invokevirtual 66) 3 657 := ⟨by decide +kernel, rfl⟩
theorem dL_law_657 : dc cL_law 657 (.if_icmp .eq 1378) 3 660 := ⟨by decide +kernel, rfl⟩
theorem dL_law_660 : dc cL_law 660 (.iconst 0) 1 661 := ⟨by decide +kernel, rfl⟩
theorem dL_law_661 : dc cL_law 661 (.ireturn) 1 662 := ⟨by decide +kernel, rfl⟩
theorem dL_law_662 : dc cL_law 662 (.aload_n 1) 1 663 := ⟨by decide +kernel, rfl⟩
theorem dL_law_663 : dc cL_law 663 (.aload_n 0) 1 664 := ⟨by decide +kernel, rfl⟩
theorem dL_law_664 : dc cL_law 664 (.iload_n 3) 1 665 := ⟨by decide +kernel, rfl⟩
theorem dL_law_665 : dc cL_law 665 (.iconst 1) 1 666 := ⟨by decide +kernel, rfl⟩
theorem dL_law_666 : dc cL_law 666 (.iadd) 1 667 := ⟨by decide +kernel, rfl⟩
theorem dL_law_667 : dc cL_law 667 (.iaload) 1 668 := ⟨by decide +kernel, rfl⟩
theorem dL_law_668 : dc cL_law 668 (.invokevirtual 67) 3 671 := ⟨by decide +kernel, rfl⟩
theorem dL_law_671 : dc cL_law 671 (.aload_n 2) 1 672 := ⟨by decide +kernel, rfl⟩
theorem dL_law_672 : dc cL_law 672 (.aload_n 0) 1 673 := ⟨by decide +kernel, rfl⟩
theorem dL_law_673 : dc cL_law 673 (.iload_n 3) 1 674 := ⟨by decide +kernel, rfl⟩
theorem dL_law_674 : dc cL_law 674 (.iconst 1) 1 675 := ⟨by decide +kernel, rfl⟩
theorem dL_law_675 : dc cL_law 675 (.iadd) 1 676 := ⟨by decide +kernel, rfl⟩
theorem dL_law_676 : dc cL_law 676 (.iaload) 1 677 := ⟨by decide +kernel, rfl⟩
theorem dL_law_677 : dc cL_law 677 (.invokevirtual 70) 3 680 := ⟨by decide +kernel, rfl⟩
theorem dL_law_680 : dc cL_law 680 (.if_icmp .eq 1355) 3 683 := ⟨by decide +kernel, rfl⟩
theorem dL_law_683 : dc cL_law 683 (.iconst 0) 1 684 := ⟨by decide +kernel, rfl⟩
theorem dL_law_684 : dc cL_law 684 (.ireturn) 1 685 := ⟨by decide +kernel, rfl⟩
theorem dL_law_685 : dc cL_law 685 (.aload_n 1) 1 686 := ⟨by decide +kernel, rfl⟩
theorem dL_law_686 : dc cL_law 686 (.aload_n 0) 1 687 := ⟨by decide +kernel, rfl⟩
theorem dL_law_687 : dc cL_law 687 (.iload_n 3) 1 688 := ⟨by decide +kernel, rfl⟩
theorem dL_law_688 : dc cL_law 688 (.iconst 1) 1 689 := ⟨by decide +kernel, rfl⟩
theorem dL_law_689 : dc cL_law 689 (.iadd) 1 690 := ⟨by decide +kernel, rfl⟩
theorem dL_law_690 : dc cL_law 690 (.iaload) 1 691 := ⟨by decide +kernel, rfl⟩
theorem dL_law_691 : dc cL_law 691 (.aload_n 0) 1 692 := ⟨by decide +kernel, rfl⟩
theorem dL_law_692 : dc cL_law 692 (.iload_n 3) 1 693 := ⟨by decide +kernel, rfl⟩
theorem dL_law_693 : dc cL_law 693 (.iconst 2) 1 694 := ⟨by decide +kernel, rfl⟩
theorem dL_law_694 : dc cL_law 694 (.iadd) 1 695 := ⟨by decide +kernel, rfl⟩
theorem dL_law_695 : dc cL_law 695 (.iaload) 1 696 := ⟨by decide +kernel, rfl⟩
theorem dL_law_696 : dc cL_law 696 (.invokevirtual 71) 3 699 := ⟨by decide +kernel, rfl⟩
theorem dL_law_699 : dc cL_law 699 (.aload_n 2) 1 700 := ⟨by decide +kernel, rfl⟩
theorem dL_law_700 : dc cL_law 700 (.aload_n 0) 1 701 := ⟨by decide +kernel, rfl⟩
theorem dL_law_701 : dc cL_law 701 (.iload_n 3) 1 702 := ⟨by decide +kernel, rfl⟩
theorem dL_law_702 : dc cL_law 702 (.iconst 1) 1 703 := ⟨by decide +kernel, rfl⟩
theorem dL_law_703 : dc cL_law 703 (.iadd) 1 704 := ⟨by decide +kernel, rfl⟩
theorem dL_law_704 : dc cL_law 704 (.iaload) 1 705 := ⟨by decide +kernel, rfl⟩
theorem dL_law_705 : dc cL_law 705 (.aload_n 0) 1 706 := ⟨by decide +kernel, rfl⟩
theorem dL_law_706 : dc cL_law 706 (.iload_n 3) 1 707 := ⟨by decide +kernel, rfl⟩
theorem dL_law_707 : dc cL_law 707 (.iconst 2) 1 708 := ⟨by decide +kernel, rfl⟩
theorem dL_law_708 : dc cL_law 708 (.iadd) 1 709 := ⟨by decide +kernel, rfl⟩
theorem dL_law_709 : dc cL_law 709 (.iaload) 1 710 := ⟨by decide +kernel, rfl⟩
theorem dL_law_710 : dc cL_law 710 (.invokevirtual 75) 3 713 := ⟨by decide +kernel, rfl⟩
theorem dL_law_713 : dc cL_law 713 (.if_icmp .eq 1322) 3 716 := ⟨by decide +kernel, rfl⟩
theorem dL_law_716 : dc cL_law 716 (.iconst 0) 1 717 := ⟨by decide +kernel, rfl⟩
theorem dL_law_717 : dc cL_law 717 (.ireturn) 1 718 := ⟨by decide +kernel, rfl⟩
theorem dL_law_718 : dc cL_law 718 (.aload_n 1) 1 719 := ⟨by decide +kernel, rfl⟩
theorem dL_law_719 : dc cL_law 719 (.aload_n 0) 1 720 := ⟨by decide +kernel, rfl⟩
theorem dL_law_720 : dc cL_law 720 (.iload_n 3) 1 721 := ⟨by decide +kernel, rfl⟩
theorem dL_law_721 : dc cL_law 721 (.iconst 1) 1 722 := ⟨by decide +kernel, rfl⟩
theorem dL_law_722 : dc cL_law 722 (.iadd) 1 723 := ⟨by decide +kernel, rfl⟩
theorem dL_law_723 : dc cL_law 723 (.iaload) 1 724 := ⟨by decide +kernel, rfl⟩
theorem dL_law_724 : dc cL_law 724 (.aload_n 0) 1 725 := ⟨by decide +kernel, rfl⟩
theorem dL_law_725 : dc cL_law 725 (.iload_n 3) 1 726 := ⟨by decide +kernel, rfl⟩
theorem dL_law_726 : dc cL_law 726 (.iconst 2) 1 727 := ⟨by decide +kernel, rfl⟩
theorem dL_law_727 : dc cL_law 727 (.iadd) 1 728 := ⟨by decide +kernel, rfl⟩
theorem dL_law_728 : dc cL_law 728 (.iaload) 1 729 := ⟨by decide +kernel, rfl⟩
theorem dL_law_729 : dc cL_law 729 (.invokevirtual 76) 3 732 := ⟨by decide +kernel, rfl⟩
theorem dL_law_732 : dc cL_law 732 (.aload_n 2) 1 733 := ⟨by decide +kernel, rfl⟩
theorem dL_law_733 : dc cL_law 733 (.aload_n 0) 1 734 := ⟨by decide +kernel, rfl⟩
theorem dL_law_734 : dc cL_law 734 (.iload_n 3) 1 735 := ⟨by decide +kernel, rfl⟩
theorem dL_law_735 : dc cL_law 735 (.iconst 1) 1 736 := ⟨by decide +kernel, rfl⟩
theorem dL_law_736 : dc cL_law 736 (.iadd) 1 737 := ⟨by decide +kernel, rfl⟩
theorem dL_law_737 : dc cL_law 737 (.iaload) 1 738 := ⟨by decide +kernel, rfl⟩
theorem dL_law_738 : dc cL_law 738 (.aload_n 0) 1 739 := ⟨by decide +kernel, rfl⟩
theorem dL_law_739 : dc cL_law 739 (.iload_n 3) 1 740 := ⟨by decide +kernel, rfl⟩
theorem dL_law_740 : dc cL_law 740 (.iconst 2) 1 741 := ⟨by decide +kernel, rfl⟩
theorem dL_law_741 : dc cL_law 741 (.iadd) 1 742 := ⟨by decide +kernel, rfl⟩
theorem dL_law_742 : dc cL_law 742 (.iaload) 1 743 := ⟨by decide +kernel, rfl⟩
theorem dL_law_743 : dc cL_law 743 (.invokevirtual 79) 3 746 := ⟨by decide +kernel, rfl⟩
theorem dL_law_746 : dc cL_law 746 (.if_icmp .eq 1289) 3 749 := ⟨by decide +kernel, rfl⟩
theorem dL_law_749 : dc cL_law 749 (.iconst 0) 1 750 := ⟨by decide +kernel, rfl⟩
theorem dL_law_750 : dc cL_law 750 (.ireturn) 1 751 := ⟨by decide +kernel, rfl⟩
theorem dL_law_751 : dc cL_law 751 (.aload_n 1) 1 752 := ⟨by decide +kernel, rfl⟩
theorem dL_law_752 : dc cL_law 752 (.aload_n 0) 1 753 := ⟨by decide +kernel, rfl⟩
theorem dL_law_753 : dc cL_law 753 (.iload_n 3) 1 754 := ⟨by decide +kernel, rfl⟩
theorem dL_law_754 : dc cL_law 754 (.iconst 1) 1 755 := ⟨by decide +kernel, rfl⟩
theorem dL_law_755 : dc cL_law 755 (.iadd) 1 756 := ⟨by decide +kernel, rfl⟩
theorem dL_law_756 : dc cL_law 756 (.iaload) 1 757 := ⟨by decide +kernel, rfl⟩
theorem dL_law_757 : dc cL_law 757 (.aload_n 0) 1 758 := ⟨by decide +kernel, rfl⟩
theorem dL_law_758 : dc cL_law 758 (.iload_n 3) 1 759 := ⟨by decide +kernel, rfl⟩
theorem dL_law_759 : dc cL_law 759 (.iconst 2) 1 760 := ⟨by decide +kernel, rfl⟩
theorem dL_law_760 : dc cL_law 760 (.iadd) 1 761 := ⟨by decide +kernel, rfl⟩
theorem dL_law_761 : dc cL_law 761 (.iaload) 1 762 := ⟨by decide +kernel, rfl⟩
theorem dL_law_762 : dc cL_law 762 (.invokevirtual 80) 3 765 := ⟨by decide +kernel, rfl⟩
theorem dL_law_765 : dc cL_law 765 (.aload_n 2) 1 766 := ⟨by decide +kernel, rfl⟩
theorem dL_law_766 : dc cL_law 766 (.aload_n 0) 1 767 := ⟨by decide +kernel, rfl⟩
theorem dL_law_767 : dc cL_law 767 (.iload_n 3) 1 768 := ⟨by decide +kernel, rfl⟩
theorem dL_law_768 : dc cL_law 768 (.iconst 1) 1 769 := ⟨by decide +kernel, rfl⟩
theorem dL_law_769 : dc cL_law 769 (.iadd) 1 770 := ⟨by decide +kernel, rfl⟩
theorem dL_law_770 : dc cL_law 770 (.iaload) 1 771 := ⟨by decide +kernel, rfl⟩
theorem dL_law_771 : dc cL_law 771 (.aload_n 0) 1 772 := ⟨by decide +kernel, rfl⟩
theorem dL_law_772 : dc cL_law 772 (.iload_n 3) 1 773 := ⟨by decide +kernel, rfl⟩
theorem dL_law_773 : dc cL_law 773 (.iconst 2) 1 774 := ⟨by decide +kernel, rfl⟩
theorem dL_law_774 : dc cL_law 774 (.iadd) 1 775 := ⟨by decide +kernel, rfl⟩
theorem dL_law_775 : dc cL_law 775 (.iaload) 1 776 := ⟨by decide +kernel, rfl⟩
theorem dL_law_776 : dc cL_law 776 (.invokevirtual 83) 3 779 := ⟨by decide +kernel, rfl⟩
theorem dL_law_779 : dc cL_law 779 (.if_icmp .eq 1256) 3 782 := ⟨by decide +kernel, rfl⟩
theorem dL_law_782 : dc cL_law 782 (.iconst 0) 1 783 := ⟨by decide +kernel, rfl⟩
theorem dL_law_783 : dc cL_law 783 (.ireturn) 1 784 := ⟨by decide +kernel, rfl⟩
theorem dL_law_784 : dc cL_law 784 (.aload_n 1) 1 785 := ⟨by decide +kernel, rfl⟩
theorem dL_law_785 : dc cL_law 785 (.aload_n 0) 1 786 := ⟨by decide +kernel, rfl⟩
theorem dL_law_786 : dc cL_law 786 (.iload_n 3) 1 787 := ⟨by decide +kernel, rfl⟩
theorem dL_law_787 : dc cL_law 787 (.iconst 1) 1 788 := ⟨by decide +kernel, rfl⟩
theorem dL_law_788 : dc cL_law 788 (.iadd) 1 789 := ⟨by decide +kernel, rfl⟩
theorem dL_law_789 : dc cL_law 789 (.iaload) 1 790 := ⟨by decide +kernel, rfl⟩
theorem dL_law_790 : dc cL_law 790 (.aload_n 0) 1 791 := ⟨by decide +kernel, rfl⟩
theorem dL_law_791 : dc cL_law 791 (.iload_n 3) 1 792 := ⟨by decide +kernel, rfl⟩
theorem dL_law_792 : dc cL_law 792 (.iconst 2) 1 793 := ⟨by decide +kernel, rfl⟩
theorem dL_law_793 : dc cL_law 793 (.iadd) 1 794 := ⟨by decide +kernel, rfl⟩
theorem dL_law_794 : dc cL_law 794 (.iaload) 1 795 := ⟨by decide +kernel, rfl⟩
theorem dL_law_795 : dc cL_law 795 (.invokevirtual 84) 3 798 := ⟨by decide +kernel, rfl⟩
theorem dL_law_798 : dc cL_law 798 (.aload_n 2) 1 799 := ⟨by decide +kernel, rfl⟩
theorem dL_law_799 : dc cL_law 799 (.aload_n 0) 1 800 := ⟨by decide +kernel, rfl⟩
theorem dL_law_800 : dc cL_law 800 (.iload_n 3) 1 801 := ⟨by decide +kernel, rfl⟩
theorem dL_law_801 : dc cL_law 801 (.iconst 1) 1 802 := ⟨by decide +kernel, rfl⟩
theorem dL_law_802 : dc cL_law 802 (.iadd) 1 803 := ⟨by decide +kernel, rfl⟩
theorem dL_law_803 : dc cL_law 803 (.iaload) 1 804 := ⟨by decide +kernel, rfl⟩
theorem dL_law_804 : dc cL_law 804 (.aload_n 0) 1 805 := ⟨by decide +kernel, rfl⟩
theorem dL_law_805 : dc cL_law 805 (.iload_n 3) 1 806 := ⟨by decide +kernel, rfl⟩
theorem dL_law_806 : dc cL_law 806 (.iconst 2) 1 807 := ⟨by decide +kernel, rfl⟩
theorem dL_law_807 : dc cL_law 807 (.iadd) 1 808 := ⟨by decide +kernel, rfl⟩
theorem dL_law_808 : dc cL_law 808 (.iaload) 1 809 := ⟨by decide +kernel, rfl⟩
theorem dL_law_809 : dc cL_law 809 (.invokevirtual 87) 3 812 := ⟨by decide +kernel, rfl⟩
theorem dL_law_812 : dc cL_law 812 (.if_icmp .eq 1223) 3 815 := ⟨by decide +kernel, rfl⟩
theorem dL_law_815 : dc cL_law 815 (.iconst 0) 1 816 := ⟨by decide +kernel, rfl⟩
theorem dL_law_816 : dc cL_law 816 (.ireturn) 1 817 := ⟨by decide +kernel, rfl⟩
theorem dL_law_817 : dc cL_law 817 (.aload_n 1) 1 818 := ⟨by decide +kernel, rfl⟩
theorem dL_law_818 : dc cL_law 818 (.aload_n 0) 1 819 := ⟨by decide +kernel, rfl⟩
theorem dL_law_819 : dc cL_law 819 (.iload_n 3) 1 820 := ⟨by decide +kernel, rfl⟩
theorem dL_law_820 : dc cL_law 820 (.iconst 1) 1 821 := ⟨by decide +kernel, rfl⟩
theorem dL_law_821 : dc cL_law 821 (.iadd) 1 822 := ⟨by decide +kernel, rfl⟩
theorem dL_law_822 : dc cL_law 822 (.iaload) 1 823 := ⟨by decide +kernel, rfl⟩
theorem dL_law_823 : dc cL_law 823 (.aload_n 0) 1 824 := ⟨by decide +kernel, rfl⟩
theorem dL_law_824 : dc cL_law 824 (.iload_n 3) 1 825 := ⟨by decide +kernel, rfl⟩
theorem dL_law_825 : dc cL_law 825 (.iconst 2) 1 826 := ⟨by decide +kernel, rfl⟩
theorem dL_law_826 : dc cL_law 826 (.iadd) 1 827 := ⟨by decide +kernel, rfl⟩
theorem dL_law_827 : dc cL_law 827 (.iaload) 1 828 := ⟨by decide +kernel, rfl⟩
theorem dL_law_828 : dc cL_law 828 (.invokevirtual 88) 3 831 := ⟨by decide +kernel, rfl⟩
theorem dL_law_831 : dc cL_law 831 (.aload_n 2) 1 832 := ⟨by decide +kernel, rfl⟩
theorem dL_law_832 : dc cL_law 832 (.aload_n 0) 1 833 := ⟨by decide +kernel, rfl⟩
theorem dL_law_833 : dc cL_law 833 (.iload_n 3) 1 834 := ⟨by decide +kernel, rfl⟩
theorem dL_law_834 : dc cL_law 834 (.iconst 1) 1 835 := ⟨by decide +kernel, rfl⟩
theorem dL_law_835 : dc cL_law 835 (.iadd) 1 836 := ⟨by decide +kernel, rfl⟩
theorem dL_law_836 : dc cL_law 836 (.iaload) 1 837 := ⟨by decide +kernel, rfl⟩
theorem dL_law_837 : dc cL_law 837 (.aload_n 0) 1 838 := ⟨by decide +kernel, rfl⟩
theorem dL_law_838 : dc cL_law 838 (.iload_n 3) 1 839 := ⟨by decide +kernel, rfl⟩
theorem dL_law_839 : dc cL_law 839 (.iconst 2) 1 840 := ⟨by decide +kernel, rfl⟩
theorem dL_law_840 : dc cL_law 840 (.iadd) 1 841 := ⟨by decide +kernel, rfl⟩
theorem dL_law_841 : dc cL_law 841 (.iaload) 1 842 := ⟨by decide +kernel, rfl⟩
theorem dL_law_842 : dc cL_law 842 (.invokevirtual 91) 3 845 := ⟨by decide +kernel, rfl⟩
theorem dL_law_845 : dc cL_law 845 (.if_icmp .eq 1190) 3 848 := ⟨by decide +kernel, rfl⟩
theorem dL_law_848 : dc cL_law 848 (.iconst 0) 1 849 := ⟨by decide +kernel, rfl⟩
theorem dL_law_849 : dc cL_law 849 (.ireturn) 1 850 := ⟨by decide +kernel, rfl⟩
theorem dL_law_850 : dc cL_law 850 (.aload_n 1) 1 851 := ⟨by decide +kernel, rfl⟩
theorem dL_law_851 : dc cL_law 851 (.aload_n 0) 1 852 := ⟨by decide +kernel, rfl⟩
theorem dL_law_852 : dc cL_law 852 (.iload_n 3) 1 853 := ⟨by decide +kernel, rfl⟩
theorem dL_law_853 : dc cL_law 853 (.iconst 1) 1 854 := ⟨by decide +kernel, rfl⟩
theorem dL_law_854 : dc cL_law 854 (.iadd) 1 855 := ⟨by decide +kernel, rfl⟩
theorem dL_law_855 : dc cL_law 855 (.iaload) 1 856 := ⟨by decide +kernel, rfl⟩
theorem dL_law_856 : dc cL_law 856 (.invokevirtual 92) 3 859 := ⟨by decide +kernel, rfl⟩
theorem dL_law_859 : dc cL_law 859 (.aload_n 2) 1 860 := ⟨by decide +kernel, rfl⟩
theorem dL_law_860 : dc cL_law 860 (.aload_n 0) 1 861 := ⟨by decide +kernel, rfl⟩
theorem dL_law_861 : dc cL_law 861 (.iload_n 3) 1 862 := ⟨by decide +kernel, rfl⟩
theorem dL_law_862 : dc cL_law 862 (.iconst 1) 1 863 := ⟨by decide +kernel, rfl⟩
theorem dL_law_863 : dc cL_law 863 (.iadd) 1 864 := ⟨by decide +kernel, rfl⟩
theorem dL_law_864 : dc cL_law 864 (.iaload) 1 865 := ⟨by decide +kernel, rfl⟩
theorem dL_law_865 : dc cL_law 865 (.invokevirtual 95) 3 868 := ⟨by decide +kernel, rfl⟩
theorem dL_law_868 : dc cL_law 868 (.if_icmp .eq 1167) 3 871 := ⟨by decide +kernel, rfl⟩
theorem dL_law_871 : dc cL_law 871 (.iconst 0) 1 872 := ⟨by decide +kernel, rfl⟩
theorem dL_law_872 : dc cL_law 872 (.ireturn) 1 873 := ⟨by decide +kernel, rfl⟩
theorem dL_law_873 : dc cL_law 873 (.aload_n 1) 1 874 := ⟨by decide +kernel, rfl⟩
theorem dL_law_874 : dc cL_law 874 (.aload_n 0) 1 875 := ⟨by decide +kernel, rfl⟩
theorem dL_law_875 : dc cL_law 875 (.iload_n 3) 1 876 := ⟨by decide +kernel, rfl⟩
theorem dL_law_876 : dc cL_law 876 (.iconst 1) 1 877 := ⟨by decide +kernel, rfl⟩
theorem dL_law_877 : dc cL_law 877 (.iadd) 1 878 := ⟨by decide +kernel, rfl⟩
theorem dL_law_878 : dc cL_law 878 (.iaload) 1 879 := ⟨by decide +kernel, rfl⟩
theorem dL_law_879 : dc cL_law 879 (.invokevirtual 96) 3 882 := ⟨by decide +kernel, rfl⟩
theorem dL_law_882 : dc cL_law 882 (.aload_n 2) 1 883 := ⟨by decide +kernel, rfl⟩
theorem dL_law_883 : dc cL_law 883 (.aload_n 0) 1 884 := ⟨by decide +kernel, rfl⟩
theorem dL_law_884 : dc cL_law 884 (.iload_n 3) 1 885 := ⟨by decide +kernel, rfl⟩
theorem dL_law_885 : dc cL_law 885 (.iconst 1) 1 886 := ⟨by decide +kernel, rfl⟩
theorem dL_law_886 : dc cL_law 886 (.iadd) 1 887 := ⟨by decide +kernel, rfl⟩
theorem dL_law_887 : dc cL_law 887 (.iaload) 1 888 := ⟨by decide +kernel, rfl⟩
theorem dL_law_888 : dc cL_law 888 (.invokevirtual 99) 3 891 := ⟨by decide +kernel, rfl⟩
theorem dL_law_891 : dc cL_law 891 (.if_icmp .eq 1144) 3 894 := ⟨by decide +kernel, rfl⟩
theorem dL_law_894 : dc cL_law 894 (.iconst 0) 1 895 := ⟨by decide +kernel, rfl⟩
theorem dL_law_895 : dc cL_law 895 (.ireturn) 1 896 := ⟨by decide +kernel, rfl⟩
theorem dL_law_896 : dc cL_law 896 (.aload_n 1) 1 897 := ⟨by decide +kernel, rfl⟩
theorem dL_law_897 : dc cL_law 897 (.aload_n 0) 1 898 := ⟨by decide +kernel, rfl⟩
theorem dL_law_898 : dc cL_law 898 (.iload_n 3) 1 899 := ⟨by decide +kernel, rfl⟩
theorem dL_law_899 : dc cL_law 899 (.iconst 1) 1 900 := ⟨by decide +kernel, rfl⟩
theorem dL_law_900 : dc cL_law 900 (.iadd) 1 901 := ⟨by decide +kernel, rfl⟩
theorem dL_law_901 : dc cL_law 901 (.iaload) 1 902 := ⟨by decide +kernel, rfl⟩
theorem dL_law_902 : dc cL_law 902 (.invokevirtual 100) 3 905 := ⟨by decide +kernel, rfl⟩
theorem dL_law_905 : dc cL_law 905 (.aload_n 2) 1 906 := ⟨by decide +kernel, rfl⟩
theorem dL_law_906 : dc cL_law 906 (.aload_n 0) 1 907 := ⟨by decide +kernel, rfl⟩
theorem dL_law_907 : dc cL_law 907 (.iload_n 3) 1 908 := ⟨by decide +kernel, rfl⟩
theorem dL_law_908 : dc cL_law 908 (.iconst 1) 1 909 := ⟨by decide +kernel, rfl⟩
theorem dL_law_909 : dc cL_law 909 (.iadd) 1 910 := ⟨by decide +kernel, rfl⟩
theorem dL_law_910 : dc cL_law 910 (.iaload) 1 911 := ⟨by decide +kernel, rfl⟩
theorem dL_law_911 : dc cL_law 911 (.invokevirtual 103) 3 914 := ⟨by decide +kernel, rfl⟩
theorem dL_law_914 : dc cL_law 914 (.if_icmp .eq 1121) 3 917 := ⟨by decide +kernel, rfl⟩
theorem dL_law_917 : dc cL_law 917 (.iconst 0) 1 918 := ⟨by decide +kernel, rfl⟩
theorem dL_law_918 : dc cL_law 918 (.ireturn) 1 919 := ⟨by decide +kernel, rfl⟩
theorem dL_law_919 : dc cL_law 919 (.aload_n 1) 1 920 := ⟨by decide +kernel, rfl⟩
theorem dL_law_920 : dc cL_law 920 (.aload_n 0) 1 921 := ⟨by decide +kernel, rfl⟩
theorem dL_law_921 : dc cL_law 921 (.iload_n 3) 1 922 := ⟨by decide +kernel, rfl⟩
theorem dL_law_922 : dc cL_law 922 (.iconst 1) 1 923 := ⟨by decide +kernel, rfl⟩
theorem dL_law_923 : dc cL_law 923 (.iadd) 1 924 := ⟨by decide +kernel, rfl⟩
theorem dL_law_924 : dc cL_law 924 (.iaload) 1 925 := ⟨by decide +kernel, rfl⟩
theorem dL_law_925 : dc cL_law 925 (.aload_n 0) 1 926 := ⟨by decide +kernel, rfl⟩
theorem dL_law_926 : dc cL_law 926 (.iload_n 3) 1 927 := ⟨by decide +kernel, rfl⟩
theorem dL_law_927 : dc cL_law 927 (.iconst 2) 1 928 := ⟨by decide +kernel, rfl⟩
theorem dL_law_928 : dc cL_law 928 (.iadd) 1 929 := ⟨by decide +kernel, rfl⟩
theorem dL_law_929 : dc cL_law 929 (.iaload) 1 930 := ⟨by decide +kernel, rfl⟩
theorem dL_law_930 : dc cL_law 930 (.invokevirtual 104) 3 933 := ⟨by decide +kernel, rfl⟩
theorem dL_law_933 : dc cL_law 933 (.aload_n 2) 1 934 := ⟨by decide +kernel, rfl⟩
theorem dL_law_934 : dc cL_law 934 (.aload_n 0) 1 935 := ⟨by decide +kernel, rfl⟩
theorem dL_law_935 : dc cL_law 935 (.iload_n 3) 1 936 := ⟨by decide +kernel, rfl⟩
theorem dL_law_936 : dc cL_law 936 (.iconst 1) 1 937 := ⟨by decide +kernel, rfl⟩
theorem dL_law_937 : dc cL_law 937 (.iadd) 1 938 := ⟨by decide +kernel, rfl⟩
theorem dL_law_938 : dc cL_law 938 (.iaload) 1 939 := ⟨by decide +kernel, rfl⟩
theorem dL_law_939 : dc cL_law 939 (.aload_n 0) 1 940 := ⟨by decide +kernel, rfl⟩
theorem dL_law_940 : dc cL_law 940 (.iload_n 3) 1 941 := ⟨by decide +kernel, rfl⟩
theorem dL_law_941 : dc cL_law 941 (.iconst 2) 1 942 := ⟨by decide +kernel, rfl⟩
theorem dL_law_942 : dc cL_law 942 (.iadd) 1 943 := ⟨by decide +kernel, rfl⟩
theorem dL_law_943 : dc cL_law 943 (.iaload) 1 944 := ⟨by decide +kernel, rfl⟩
theorem dL_law_944 : dc cL_law 944 (.invokevirtual 107) 3 947 := ⟨by decide +kernel, rfl⟩
theorem dL_law_947 : dc cL_law 947 (.if_icmp .eq 1088) 3 950 := ⟨by decide +kernel, rfl⟩
theorem dL_law_950 : dc cL_law 950 (.iconst 0) 1 951 := ⟨by decide +kernel, rfl⟩
theorem dL_law_951 : dc cL_law 951 (.ireturn) 1 952 := ⟨by decide +kernel, rfl⟩
theorem dL_law_952 : dc cL_law 952 (.aload_n 1) 1 953 := ⟨by decide +kernel, rfl⟩
theorem dL_law_953 : dc cL_law 953 (.aload_n 0) 1 954 := ⟨by decide +kernel, rfl⟩
theorem dL_law_954 : dc cL_law 954 (.iload_n 3) 1 955 := ⟨by decide +kernel, rfl⟩
theorem dL_law_955 : dc cL_law 955 (.iconst 1) 1 956 := ⟨by decide +kernel, rfl⟩
theorem dL_law_956 : dc cL_law 956 (.iadd) 1 957 := ⟨by decide +kernel, rfl⟩
theorem dL_law_957 : dc cL_law 957 (.iaload) 1 958 := ⟨by decide +kernel, rfl⟩
theorem dL_law_958 : dc cL_law 958 (.aload_n 0) 1 959 := ⟨by decide +kernel, rfl⟩
theorem dL_law_959 : dc cL_law 959 (.iload_n 3) 1 960 := ⟨by decide +kernel, rfl⟩
theorem dL_law_960 : dc cL_law 960 (.iconst 2) 1 961 := ⟨by decide +kernel, rfl⟩
theorem dL_law_961 : dc cL_law 961 (.iadd) 1 962 := ⟨by decide +kernel, rfl⟩
theorem dL_law_962 : dc cL_law 962 (.iaload) 1 963 := ⟨by decide +kernel, rfl⟩
theorem dL_law_963 : dc cL_law 963 (.aload_n 0) 1 964 := ⟨by decide +kernel, rfl⟩
theorem dL_law_964 : dc cL_law 964 (.iload_n 3) 1 965 := ⟨by decide +kernel, rfl⟩
theorem dL_law_965 : dc cL_law 965 (.iconst 3) 1 966 := ⟨by decide +kernel, rfl⟩
theorem dL_law_966 : dc cL_law 966 (.iadd) 1 967 := ⟨by decide +kernel, rfl⟩
theorem dL_law_967 : dc cL_law 967 (.iaload) 1 968 := ⟨by decide +kernel, rfl⟩
theorem dL_law_968 : dc cL_law 968 (.invokevirtual 108) 3 971 := ⟨by decide +kernel, rfl⟩
theorem dL_law_971 : dc cL_law 971 (.aload_n 2) 1 972 := ⟨by decide +kernel, rfl⟩
theorem dL_law_972 : dc cL_law 972 (.aload_n 0) 1 973 := ⟨by decide +kernel, rfl⟩
theorem dL_law_973 : dc cL_law 973 (.iload_n 3) 1 974 := ⟨by decide +kernel, rfl⟩
theorem dL_law_974 : dc cL_law 974 (.iconst 1) 1 975 := ⟨by decide +kernel, rfl⟩
theorem dL_law_975 : dc cL_law 975 (.iadd) 1 976 := ⟨by decide +kernel, rfl⟩
theorem dL_law_976 : dc cL_law 976 (.iaload) 1 977 := ⟨by decide +kernel, rfl⟩
theorem dL_law_977 : dc cL_law 977 (.aload_n 0) 1 978 := ⟨by decide +kernel, rfl⟩
theorem dL_law_978 : dc cL_law 978 (.iload_n 3) 1 979 := ⟨by decide +kernel, rfl⟩
theorem dL_law_979 : dc cL_law 979 (.iconst 2) 1 980 := ⟨by decide +kernel, rfl⟩
theorem dL_law_980 : dc cL_law 980 (.iadd) 1 981 := ⟨by decide +kernel, rfl⟩
theorem dL_law_981 : dc cL_law 981 (.iaload) 1 982 := ⟨by decide +kernel, rfl⟩
theorem dL_law_982 : dc cL_law 982 (.aload_n 0) 1 983 := ⟨by decide +kernel, rfl⟩
theorem dL_law_983 : dc cL_law 983 (.iload_n 3) 1 984 := ⟨by decide +kernel, rfl⟩
theorem dL_law_984 : dc cL_law 984 (.iconst 3) 1 985 := ⟨by decide +kernel, rfl⟩
theorem dL_law_985 : dc cL_law 985 (.iadd) 1 986 := ⟨by decide +kernel, rfl⟩
theorem dL_law_986 : dc cL_law 986 (.iaload) 1 987 := ⟨by decide +kernel, rfl⟩
theorem dL_law_987 : dc cL_law 987 (.invokevirtual 112) 3 990 := ⟨by decide +kernel, rfl⟩
theorem dL_law_990 : dc cL_law 990 (.if_icmp .eq 1045) 3 993 := ⟨by decide +kernel, rfl⟩
theorem dL_law_993 : dc cL_law 993 (.iconst 0) 1 994 := ⟨by decide +kernel, rfl⟩
theorem dL_law_994 : dc cL_law 994 (.ireturn) 1 995 := ⟨by decide +kernel, rfl⟩
theorem dL_law_995 : dc cL_law 995 (.aload_n 1) 1 996 := ⟨by decide +kernel, rfl⟩
theorem dL_law_996 : dc cL_law 996 (.aload_n 0) 1 997 := ⟨by decide +kernel, rfl⟩
theorem dL_law_997 : dc cL_law 997 (.iload_n 3) 1 998 := ⟨by decide +kernel, rfl⟩
theorem dL_law_998 : dc cL_law 998 (.iconst 1) 1 999 := ⟨by decide +kernel, rfl⟩
theorem dL_law_999 : dc cL_law 999 (.iadd) 1 1000 := ⟨by decide +kernel, rfl⟩
theorem dL_law_1000 : dc cL_law 1000 (.iaload) 1 1001 := ⟨by decide +kernel, rfl⟩
theorem dL_law_1001 : dc cL_law 1001 (.invokevirtual 113) 3 1004 := ⟨by decide +kernel, rfl⟩
theorem dL_law_1004 : dc cL_law 1004 (.aload_n 2) 1 1005 := ⟨by decide +kernel, rfl⟩
theorem dL_law_1005 : dc cL_law 1005 (.aload_n 0) 1 1006 := ⟨by decide +kernel, rfl⟩
theorem dL_law_1006 : dc cL_law 1006 (.iload_n 3) 1 1007 := ⟨by decide +kernel, rfl⟩
theorem dL_law_1007 : dc cL_law 1007 (.iconst 1) 1 1008 := ⟨by decide +kernel, rfl⟩
theorem dL_law_1008 : dc cL_law 1008 (.iadd) 1 1009 := ⟨by decide +kernel, rfl⟩
theorem dL_law_1009 : dc cL_law 1009 (.iaload) 1 1010 := ⟨by decide +kernel, rfl⟩
theorem dL_law_1010 : dc cL_law 1010 (.invokevirtual 117) 3 1013 := ⟨by decide +kernel, rfl⟩
theorem dL_law_1013 : dc cL_law 1013 (.if_icmp .eq 1022) 3 1016 := ⟨by decide +kernel, rfl⟩
theorem dL_law_1016 : dc cL_law 1016 (.iconst 0) 1 1017 := ⟨by decide +kernel, rfl⟩
theorem dL_law_1017 : dc cL_law 1017 (.ireturn) 1 1018 := ⟨by decide +kernel, rfl⟩
theorem dL_law_1018 : dc cL_law 1018 (.aload_n 1) 1 1019 := ⟨by decide +kernel, rfl⟩
theorem dL_law_1019 : dc cL_law 1019 (.aload_n 0) 1 1020 := ⟨by decide +kernel, rfl⟩
theorem dL_law_1020 : dc cL_law 1020 (.iload_n 3) 1 1021 := ⟨by decide +kernel, rfl⟩
theorem dL_law_1021 : dc cL_law 1021 (.iconst 1) 1 1022 := ⟨by decide +kernel, rfl⟩
theorem dL_law_1022 : dc cL_law 1022 (.iadd) 1 1023 := ⟨by decide +kernel, rfl⟩
theorem dL_law_1023 : dc cL_law 1023 (.iaload) 1 1024 := ⟨by decide +kernel, rfl⟩
theorem dL_law_1024 : dc cL_law 1024 (.ifCond .eq 7) 3 1027 := ⟨by decide +kernel, rfl⟩
theorem dL_law_1027 : dc cL_law 1027 (.iconst 1) 1 1028 := ⟨by decide +kernel, rfl⟩
theorem dL_law_1028 : dc cL_law 1028 (.goto 4) 3 1031 := ⟨by decide +kernel, rfl⟩
theorem dL_law_1031 : dc cL_law 1031 (.iconst 0) 1 1032 := ⟨by decide +kernel, rfl⟩
theorem dL_law_1032 : dc cL_law 1032 (.invokevirtual 118) 3 1035 := ⟨by decide +kernel, rfl⟩
theorem dL_law_1035 : dc cL_law 1035 (.aload_n 2) 1 1036 := ⟨by decide +kernel, rfl⟩
theorem dL_law_1036 : dc cL_law 1036 (.aload_n 0) 1 1037 := ⟨by decide +kernel, rfl⟩
theorem dL_law_1037 : dc cL_law 1037 (.iload_n 3) 1 1038 := ⟨by decide +kernel, rfl⟩
theorem dL_law_1038 : dc cL_law 1038 (.iconst 1) 1 1039 := ⟨by decide +kernel, rfl⟩
theorem dL_law_1039 : dc cL_law 1039 (.iadd) 1 1040 := ⟨by decide +kernel, rfl⟩
theorem dL_law_1040 : dc cL_law 1040 (.iaload) 1 1041 := ⟨by decide +kernel, rfl⟩
theorem dL_law_1041 : dc cL_law 1041 (.ifCond .eq 7) 3 1044 := ⟨by decide +kernel, rfl⟩
theorem dL_law_1044 : dc cL_law 1044 (.iconst 1) 1 1045 := ⟨by decide +kernel, rfl⟩
theorem dL_law_1045 : dc cL_law 1045 (.goto 4) 3 1048 := ⟨by decide +kernel, rfl⟩
theorem dL_law_1048 : dc cL_law 1048 (.iconst 0) 1 1049 := ⟨by decide +kernel, rfl⟩
theorem dL_law_1049 : dc cL_law 1049 (.invokevirtual 122) 3 1052 := ⟨by decide +kernel, rfl⟩
theorem dL_law_1052 : dc cL_law 1052 (.if_icmp .eq 983) 3 1055 := ⟨by decide +kernel, rfl⟩
theorem dL_law_1055 : dc cL_law 1055 (.iconst 0) 1 1056 := ⟨by decide +kernel, rfl⟩
theorem dL_law_1056 : dc cL_law 1056 (.ireturn) 1 1057 := ⟨by decide +kernel, rfl⟩
theorem dL_law_1057 : dc cL_law 1057 (.aload_n 1) 1 1058 := ⟨by decide +kernel, rfl⟩
theorem dL_law_1058 : dc cL_law 1058 (.aload_n 0) 1 1059 := ⟨by decide +kernel, rfl⟩
theorem dL_law_1059 : dc cL_law 1059 (.iload_n 3) 1 1060 := ⟨by decide +kernel, rfl⟩
theorem dL_law_1060 : dc cL_law 1060 (.iconst 1) 1 1061 := ⟨by decide +kernel, rfl⟩
theorem dL_law_1061 : dc cL_law 1061 (.iadd) 1 1062 := ⟨by decide +kernel, rfl⟩
theorem dL_law_1062 : dc cL_law 1062 (.iaload) 1 1063 := ⟨by decide +kernel, rfl⟩
theorem dL_law_1063 : dc cL_law 1063 (.aload_n 0) 1 1064 := ⟨by decide +kernel, rfl⟩
theorem dL_law_1064 : dc cL_law 1064 (.iload_n 3) 1 1065 := ⟨by decide +kernel, rfl⟩
theorem dL_law_1065 : dc cL_law 1065 (.iconst 2) 1 1066 := ⟨by decide +kernel, rfl⟩
theorem dL_law_1066 : dc cL_law 1066 (.iadd) 1 1067 := ⟨by decide +kernel, rfl⟩
theorem dL_law_1067 : dc cL_law 1067 (.iaload) 1 1068 := ⟨by decide +kernel, rfl⟩
theorem dL_law_1068 : dc cL_law 1068 (.ifCond .eq 7) 3 1071 := ⟨by decide +kernel, rfl⟩
theorem dL_law_1071 : dc cL_law 1071 (.iconst 1) 1 1072 := ⟨by decide +kernel, rfl⟩
theorem dL_law_1072 : dc cL_law 1072 (.goto 4) 3 1075 := ⟨by decide +kernel, rfl⟩
theorem dL_law_1075 : dc cL_law 1075 (.iconst 0) 1 1076 := ⟨by decide +kernel, rfl⟩
theorem dL_law_1076 : dc cL_law 1076 (.invokevirtual 123) 3 1079 := ⟨by decide +kernel, rfl⟩
theorem dL_law_1079 : dc cL_law 1079 (.aload_n 2) 1 1080 := ⟨by decide +kernel, rfl⟩
theorem dL_law_1080 : dc cL_law 1080 (.aload_n 0) 1 1081 := ⟨by decide +kernel, rfl⟩
theorem dL_law_1081 : dc cL_law 1081 (.iload_n 3) 1 1082 := ⟨by decide +kernel, rfl⟩
theorem dL_law_1082 : dc cL_law 1082 (.iconst 1) 1 1083 := ⟨by decide +kernel, rfl⟩
theorem dL_law_1083 : dc cL_law 1083 (.iadd) 1 1084 := ⟨by decide +kernel, rfl⟩
theorem dL_law_1084 : dc cL_law 1084 (.iaload) 1 1085 := ⟨by decide +kernel, rfl⟩
theorem dL_law_1085 : dc cL_law 1085 (.aload_n 0) 1 1086 := ⟨by decide +kernel, rfl⟩
theorem dL_law_1086 : dc cL_law 1086 (.iload_n 3) 1 1087 := ⟨by decide +kernel, rfl⟩
theorem dL_law_1087 : dc cL_law 1087 (.iconst 2) 1 1088 := ⟨by decide +kernel, rfl⟩
theorem dL_law_1088 : dc cL_law 1088 (.iadd) 1 1089 := ⟨by decide +kernel, rfl⟩
theorem dL_law_1089 : dc cL_law 1089 (.iaload) 1 1090 := ⟨by decide +kernel, rfl⟩
theorem dL_law_1090 : dc cL_law 1090 (.ifCond .eq 7) 3 1093 := ⟨by decide +kernel, rfl⟩
theorem dL_law_1093 : dc cL_law 1093 (.iconst 1) 1 1094 := ⟨by decide +kernel, rfl⟩
theorem dL_law_1094 : dc cL_law 1094 (.goto 4) 3 1097 := ⟨by decide +kernel, rfl⟩
theorem dL_law_1097 : dc cL_law 1097 (.iconst 0) 1 1098 := ⟨by decide +kernel, rfl⟩
theorem dL_law_1098 : dc cL_law 1098 (.invokevirtual 127) 3 1101 := ⟨by decide +kernel, rfl⟩
theorem dL_law_1101 : dc cL_law 1101 (.if_icmp .eq 934) 3 1104 := ⟨by decide +kernel, rfl⟩
theorem dL_law_1104 : dc cL_law 1104 (.iconst 0) 1 1105 := ⟨by decide +kernel, rfl⟩
theorem dL_law_1105 : dc cL_law 1105 (.ireturn) 1 1106 := ⟨by decide +kernel, rfl⟩
theorem dL_law_1106 : dc cL_law 1106 (.aload_n 1) 1 1107 := ⟨by decide +kernel, rfl⟩
theorem dL_law_1107 : dc cL_law 1107 (.aload_n 0) 1 1108 := ⟨by decide +kernel, rfl⟩
theorem dL_law_1108 : dc cL_law 1108 (.iload_n 3) 1 1109 := ⟨by decide +kernel, rfl⟩
theorem dL_law_1109 : dc cL_law 1109 (.iconst 1) 1 1110 := ⟨by decide +kernel, rfl⟩
theorem dL_law_1110 : dc cL_law 1110 (.iadd) 1 1111 := ⟨by decide +kernel, rfl⟩
theorem dL_law_1111 : dc cL_law 1111 (.iaload) 1 1112 := ⟨by decide +kernel, rfl⟩
theorem dL_law_1112 : dc cL_law 1112 (.aload_n 0) 1 1113 := ⟨by decide +kernel, rfl⟩
theorem dL_law_1113 : dc cL_law 1113 (.iload_n 3) 1 1114 := ⟨by decide +kernel, rfl⟩
theorem dL_law_1114 : dc cL_law 1114 (.iconst 2) 1 1115 := ⟨by decide +kernel, rfl⟩
theorem dL_law_1115 : dc cL_law 1115 (.iadd) 1 1116 := ⟨by decide +kernel, rfl⟩
theorem dL_law_1116 : dc cL_law 1116 (.iaload) 1 1117 := ⟨by decide +kernel, rfl⟩
theorem dL_law_1117 : dc cL_law 1117 (.ifCond .eq 7) 3 1120 := ⟨by decide +kernel, rfl⟩
theorem dL_law_1120 : dc cL_law 1120 (.iconst 1) 1 1121 := ⟨by decide +kernel, rfl⟩
theorem dL_law_1121 : dc cL_law 1121 (.goto 4) 3 1124 := ⟨by decide +kernel, rfl⟩
theorem dL_law_1124 : dc cL_law 1124 (.iconst 0) 1 1125 := ⟨by decide +kernel, rfl⟩
theorem dL_law_1125 : dc cL_law 1125 (.invokevirtual 128) 3 1128 := ⟨by decide +kernel, rfl⟩
theorem dL_law_1128 : dc cL_law 1128 (.aload_n 2) 1 1129 := ⟨by decide +kernel, rfl⟩
theorem dL_law_1129 : dc cL_law 1129 (.aload_n 0) 1 1130 := ⟨by decide +kernel, rfl⟩
theorem dL_law_1130 : dc cL_law 1130 (.iload_n 3) 1 1131 := ⟨by decide +kernel, rfl⟩
theorem dL_law_1131 : dc cL_law 1131 (.iconst 1) 1 1132 := ⟨by decide +kernel, rfl⟩
theorem dL_law_1132 : dc cL_law 1132 (.iadd) 1 1133 := ⟨by decide +kernel, rfl⟩
theorem dL_law_1133 : dc cL_law 1133 (.iaload) 1 1134 := ⟨by decide +kernel, rfl⟩
theorem dL_law_1134 : dc cL_law 1134 (.aload_n 0) 1 1135 := ⟨by decide +kernel, rfl⟩
theorem dL_law_1135 : dc cL_law 1135 (.iload_n 3) 1 1136 := ⟨by decide +kernel, rfl⟩
theorem dL_law_1136 : dc cL_law 1136 (.iconst 2) 1 1137 := ⟨by decide +kernel, rfl⟩
theorem dL_law_1137 : dc cL_law 1137 (.iadd) 1 1138 := ⟨by decide +kernel, rfl⟩
theorem dL_law_1138 : dc cL_law 1138 (.iaload) 1 1139 := ⟨by decide +kernel, rfl⟩
theorem dL_law_1139 : dc cL_law 1139 (.ifCond .eq 7) 3 1142 := ⟨by decide +kernel, rfl⟩
theorem dL_law_1142 : dc cL_law 1142 (.iconst 1) 1 1143 := ⟨by decide +kernel, rfl⟩
theorem dL_law_1143 : dc cL_law 1143 (.goto 4) 3 1146 := ⟨by decide +kernel, rfl⟩
theorem dL_law_1146 : dc cL_law 1146 (.iconst 0) 1 1147 := ⟨by decide +kernel, rfl⟩
theorem dL_law_1147 : dc cL_law 1147 (.invokevirtual 131) 3 1150 := ⟨by decide +kernel, rfl⟩
theorem dL_law_1150 : dc cL_law 1150 (.if_icmp .eq 885) 3 1153 := ⟨by decide +kernel, rfl⟩
theorem dL_law_1153 : dc cL_law 1153 (.iconst 0) 1 1154 := ⟨by decide +kernel, rfl⟩
theorem dL_law_1154 : dc cL_law 1154 (.ireturn) 1 1155 := ⟨by decide +kernel, rfl⟩
theorem dL_law_1155 : dc cL_law 1155 (.aload_n 1) 1 1156 := ⟨by decide +kernel, rfl⟩
theorem dL_law_1156 : dc cL_law 1156 (.aload_n 0) 1 1157 := ⟨by decide +kernel, rfl⟩
theorem dL_law_1157 : dc cL_law 1157 (.iload_n 3) 1 1158 := ⟨by decide +kernel, rfl⟩
theorem dL_law_1158 : dc cL_law 1158 (.iconst 1) 1 1159 := ⟨by decide +kernel, rfl⟩
theorem dL_law_1159 : dc cL_law 1159 (.iadd) 1 1160 := ⟨by decide +kernel, rfl⟩
theorem dL_law_1160 : dc cL_law 1160 (.iaload) 1 1161 := ⟨by decide +kernel, rfl⟩
theorem dL_law_1161 : dc cL_law 1161 (.aload_n 0) 1 1162 := ⟨by decide +kernel, rfl⟩
theorem dL_law_1162 : dc cL_law 1162 (.iload_n 3) 1 1163 := ⟨by decide +kernel, rfl⟩
theorem dL_law_1163 : dc cL_law 1163 (.iconst 2) 1 1164 := ⟨by decide +kernel, rfl⟩
theorem dL_law_1164 : dc cL_law 1164 (.iadd) 1 1165 := ⟨by decide +kernel, rfl⟩
theorem dL_law_1165 : dc cL_law 1165 (.iaload) 1 1166 := ⟨by decide +kernel, rfl⟩
theorem dL_law_1166 : dc cL_law 1166 (.ifCond .eq 7) 3 1169 := ⟨by decide +kernel, rfl⟩
theorem dL_law_1169 : dc cL_law 1169 (.iconst 1) 1 1170 := ⟨by decide +kernel, rfl⟩
theorem dL_law_1170 : dc cL_law 1170 (.goto 4) 3 1173 := ⟨by decide +kernel, rfl⟩
theorem dL_law_1173 : dc cL_law 1173 (.iconst 0) 1 1174 := ⟨by decide +kernel, rfl⟩
theorem dL_law_1174 : dc cL_law 1174 (.invokevirtual 132) 3 1177 := ⟨by decide +kernel, rfl⟩
theorem dL_law_1177 : dc cL_law 1177 (.aload_n 2) 1 1178 := ⟨by decide +kernel, rfl⟩
theorem dL_law_1178 : dc cL_law 1178 (.aload_n 0) 1 1179 := ⟨by decide +kernel, rfl⟩
theorem dL_law_1179 : dc cL_law 1179 (.iload_n 3) 1 1180 := ⟨by decide +kernel, rfl⟩
theorem dL_law_1180 : dc cL_law 1180 (.iconst 1) 1 1181 := ⟨by decide +kernel, rfl⟩
theorem dL_law_1181 : dc cL_law 1181 (.iadd) 1 1182 := ⟨by decide +kernel, rfl⟩
theorem dL_law_1182 : dc cL_law 1182 (.iaload) 1 1183 := ⟨by decide +kernel, rfl⟩
theorem dL_law_1183 : dc cL_law 1183 (.aload_n 0) 1 1184 := ⟨by decide +kernel, rfl⟩
theorem dL_law_1184 : dc cL_law 1184 (.iload_n 3) 1 1185 := ⟨by decide +kernel, rfl⟩
theorem dL_law_1185 : dc cL_law 1185 (.iconst 2) 1 1186 := ⟨by decide +kernel, rfl⟩
theorem dL_law_1186 : dc cL_law 1186 (.iadd) 1 1187 := ⟨by decide +kernel, rfl⟩
theorem dL_law_1187 : dc cL_law 1187 (.iaload) 1 1188 := ⟨by decide +kernel, rfl⟩
theorem dL_law_1188 : dc cL_law 1188 (.ifCond .eq 7) 3 1191 := ⟨by decide +kernel, rfl⟩
theorem dL_law_1191 : dc cL_law 1191 (.iconst 1) 1 1192 := ⟨by decide +kernel, rfl⟩
theorem dL_law_1192 : dc cL_law 1192 (.goto 4) 3 1195 := ⟨by decide +kernel, rfl⟩
theorem dL_law_1195 : dc cL_law 1195 (.iconst 0) 1 1196 := ⟨by decide +kernel, rfl⟩
theorem dL_law_1196 : dc cL_law 1196 (.invokevirtual 135) 3 1199 := ⟨by decide +kernel, rfl⟩
theorem dL_law_1199 : dc cL_law 1199 (.if_icmp .eq 836) 3 1202 := ⟨by decide +kernel, rfl⟩
theorem dL_law_1202 : dc cL_law 1202 (.iconst 0) 1 1203 := ⟨by decide +kernel, rfl⟩
theorem dL_law_1203 : dc cL_law 1203 (.ireturn) 1 1204 := ⟨by decide +kernel, rfl⟩
theorem dL_law_1204 : dc cL_law 1204 (.aload_n 1) 1 1205 := ⟨by decide +kernel, rfl⟩
theorem dL_law_1205 : dc cL_law 1205 (.aload_n 0) 1 1206 := ⟨by decide +kernel, rfl⟩
theorem dL_law_1206 : dc cL_law 1206 (.iload_n 3) 1 1207 := ⟨by decide +kernel, rfl⟩
theorem dL_law_1207 : dc cL_law 1207 (.iconst 1) 1 1208 := ⟨by decide +kernel, rfl⟩
theorem dL_law_1208 : dc cL_law 1208 (.iadd) 1 1209 := ⟨by decide +kernel, rfl⟩
theorem dL_law_1209 : dc cL_law 1209 (.iaload) 1 1210 := ⟨by decide +kernel, rfl⟩
theorem dL_law_1210 : dc cL_law 1210 (.aload_n 0) 1 1211 := ⟨by decide +kernel, rfl⟩
theorem dL_law_1211 : dc cL_law 1211 (.iload_n 3) 1 1212 := ⟨by decide +kernel, rfl⟩
theorem dL_law_1212 : dc cL_law 1212 (.iconst 2) 1 1213 := ⟨by decide +kernel, rfl⟩
theorem dL_law_1213 : dc cL_law 1213 (.iadd) 1 1214 := ⟨by decide +kernel, rfl⟩
theorem dL_law_1214 : dc cL_law 1214 (.iaload) 1 1215 := ⟨by decide +kernel, rfl⟩
theorem dL_law_1215 : dc cL_law 1215 (.invokevirtual 136) 3 1218 := ⟨by decide +kernel, rfl⟩
theorem dL_law_1218 : dc cL_law 1218 (.aload_n 2) 1 1219 := ⟨by decide +kernel, rfl⟩
theorem dL_law_1219 : dc cL_law 1219 (.aload_n 0) 1 1220 := ⟨by decide +kernel, rfl⟩
theorem dL_law_1220 : dc cL_law 1220 (.iload_n 3) 1 1221 := ⟨by decide +kernel, rfl⟩
theorem dL_law_1221 : dc cL_law 1221 (.iconst 1) 1 1222 := ⟨by decide +kernel, rfl⟩
theorem dL_law_1222 : dc cL_law 1222 (.iadd) 1 1223 := ⟨by decide +kernel, rfl⟩
theorem dL_law_1223 : dc cL_law 1223 (.iaload) 1 1224 := ⟨by decide +kernel, rfl⟩
theorem dL_law_1224 : dc cL_law 1224 (.aload_n 0) 1 1225 := ⟨by decide +kernel, rfl⟩
theorem dL_law_1225 : dc cL_law 1225 (.iload_n 3) 1 1226 := ⟨by decide +kernel, rfl⟩
theorem dL_law_1226 : dc cL_law 1226 (.iconst 2) 1 1227 := ⟨by decide +kernel, rfl⟩
theorem dL_law_1227 : dc cL_law 1227 (.iadd) 1 1228 := ⟨by decide +kernel, rfl⟩
theorem dL_law_1228 : dc cL_law 1228 (.iaload) 1 1229 := ⟨by decide +kernel, rfl⟩
theorem dL_law_1229 : dc cL_law 1229 (.invokevirtual 139) 3 1232 := ⟨by decide +kernel, rfl⟩
theorem dL_law_1232 : dc cL_law 1232 (.if_icmp .eq 803) 3 1235 := ⟨by decide +kernel, rfl⟩
theorem dL_law_1235 : dc cL_law 1235 (.iconst 0) 1 1236 := ⟨by decide +kernel, rfl⟩
theorem dL_law_1236 : dc cL_law 1236 (.ireturn) 1 1237 := ⟨by decide +kernel, rfl⟩
theorem dL_law_1237 : dc cL_law 1237 (.aload_n 1) 1 1238 := ⟨by decide +kernel, rfl⟩
theorem dL_law_1238 : dc cL_law 1238 (.aload_n 0) 1 1239 := ⟨by decide +kernel, rfl⟩
theorem dL_law_1239 : dc cL_law 1239 (.iload_n 3) 1 1240 := ⟨by decide +kernel, rfl⟩
theorem dL_law_1240 : dc cL_law 1240 (.iconst 1) 1 1241 := ⟨by decide +kernel, rfl⟩
theorem dL_law_1241 : dc cL_law 1241 (.iadd) 1 1242 := ⟨by decide +kernel, rfl⟩
theorem dL_law_1242 : dc cL_law 1242 (.iaload) 1 1243 := ⟨by decide +kernel, rfl⟩
theorem dL_law_1243 : dc cL_law 1243 (.aload_n 0) 1 1244 := ⟨by decide +kernel, rfl⟩
theorem dL_law_1244 : dc cL_law 1244 (.iload_n 3) 1 1245 := ⟨by decide +kernel, rfl⟩
theorem dL_law_1245 : dc cL_law 1245 (.iconst 2) 1 1246 := ⟨by decide +kernel, rfl⟩
theorem dL_law_1246 : dc cL_law 1246 (.iadd) 1 1247 := ⟨by decide +kernel, rfl⟩
theorem dL_law_1247 : dc cL_law 1247 (.iaload) 1 1248 := ⟨by decide +kernel, rfl⟩
theorem dL_law_1248 : dc cL_law 1248 (.invokevirtual 140) 3 1251 := ⟨by decide +kernel, rfl⟩
theorem dL_law_1251 : dc cL_law 1251 (.aload_n 2) 1 1252 := ⟨by decide +kernel, rfl⟩
theorem dL_law_1252 : dc cL_law 1252 (.aload_n 0) 1 1253 := ⟨by decide +kernel, rfl⟩
theorem dL_law_1253 : dc cL_law 1253 (.iload_n 3) 1 1254 := ⟨by decide +kernel, rfl⟩
theorem dL_law_1254 : dc cL_law 1254 (.iconst 1) 1 1255 := ⟨by decide +kernel, rfl⟩
theorem dL_law_1255 : dc cL_law 1255 (.iadd) 1 1256 := ⟨by decide +kernel, rfl⟩
theorem dL_law_1256 : dc cL_law 1256 (.iaload) 1 1257 := ⟨by decide +kernel, rfl⟩
theorem dL_law_1257 : dc cL_law 1257 (.aload_n 0) 1 1258 := ⟨by decide +kernel, rfl⟩
theorem dL_law_1258 : dc cL_law 1258 (.iload_n 3) 1 1259 := ⟨by decide +kernel, rfl⟩
theorem dL_law_1259 : dc cL_law 1259 (.iconst 2) 1 1260 := ⟨by decide +kernel, rfl⟩
theorem dL_law_1260 : dc cL_law 1260 (.iadd) 1 1261 := ⟨by decide +kernel, rfl⟩
theorem dL_law_1261 : dc cL_law 1261 (.iaload) 1 1262 := ⟨by decide +kernel, rfl⟩
theorem dL_law_1262 : dc cL_law 1262 (.invokevirtual 144) 3 1265 := ⟨by decide +kernel, rfl⟩
theorem dL_law_1265 : dc cL_law 1265 (.if_icmp .eq 770) 3 1268 := ⟨by decide +kernel, rfl⟩
theorem dL_law_1268 : dc cL_law 1268 (.iconst 0) 1 1269 := ⟨by decide +kernel, rfl⟩
theorem dL_law_1269 : dc cL_law 1269 (.ireturn) 1 1270 := ⟨by decide +kernel, rfl⟩
theorem dL_law_1270 : dc cL_law 1270 (.aload_n 1) 1 1271 := ⟨by decide +kernel, rfl⟩
theorem dL_law_1271 : dc cL_law 1271 (.aload_n 0) 1 1272 := ⟨by decide +kernel, rfl⟩
theorem dL_law_1272 : dc cL_law 1272 (.iload_n 3) 1 1273 := ⟨by decide +kernel, rfl⟩
theorem dL_law_1273 : dc cL_law 1273 (.iconst 1) 1 1274 := ⟨by decide +kernel, rfl⟩
theorem dL_law_1274 : dc cL_law 1274 (.iadd) 1 1275 := ⟨by decide +kernel, rfl⟩
theorem dL_law_1275 : dc cL_law 1275 (.iaload) 1 1276 := ⟨by decide +kernel, rfl⟩
theorem dL_law_1276 : dc cL_law 1276 (.invokevirtual 145) 3 1279 := ⟨by decide +kernel, rfl⟩
theorem dL_law_1279 : dc cL_law 1279 (.aload_n 2) 1 1280 := ⟨by decide +kernel, rfl⟩
theorem dL_law_1280 : dc cL_law 1280 (.aload_n 0) 1 1281 := ⟨by decide +kernel, rfl⟩
theorem dL_law_1281 : dc cL_law 1281 (.iload_n 3) 1 1282 := ⟨by decide +kernel, rfl⟩
theorem dL_law_1282 : dc cL_law 1282 (.iconst 1) 1 1283 := ⟨by decide +kernel, rfl⟩
theorem dL_law_1283 : dc cL_law 1283 (.iadd) 1 1284 := ⟨by decide +kernel, rfl⟩
theorem dL_law_1284 : dc cL_law 1284 (.iaload) 1 1285 := ⟨by decide +kernel, rfl⟩
theorem dL_law_1285 : dc cL_law 1285 (.invokevirtual 148) 3 1288 := ⟨by decide +kernel, rfl⟩
theorem dL_law_1288 : dc cL_law 1288 (.if_icmp .eq 747) 3 1291 := ⟨by decide +kernel, rfl⟩
theorem dL_law_1291 : dc cL_law 1291 (.iconst 0) 1 1292 := ⟨by decide +kernel, rfl⟩
theorem dL_law_1292 : dc cL_law 1292 (.ireturn) 1 1293 := ⟨by decide +kernel, rfl⟩
theorem dL_law_1293 : dc cL_law 1293 (.aload_n 1) 1 1294 := ⟨by decide +kernel, rfl⟩
theorem dL_law_1294 : dc cL_law 1294 (.aload_n 0) 1 1295 := ⟨by decide +kernel, rfl⟩
theorem dL_law_1295 : dc cL_law 1295 (.iload_n 3) 1 1296 := ⟨by decide +kernel, rfl⟩
theorem dL_law_1296 : dc cL_law 1296 (.iconst 1) 1 1297 := ⟨by decide +kernel, rfl⟩
theorem dL_law_1297 : dc cL_law 1297 (.iadd) 1 1298 := ⟨by decide +kernel, rfl⟩
theorem dL_law_1298 : dc cL_law 1298 (.iaload) 1 1299 := ⟨by decide +kernel, rfl⟩
theorem dL_law_1299 : dc cL_law 1299 (.aload_n 0) 1 1300 := ⟨by decide +kernel, rfl⟩
theorem dL_law_1300 : dc cL_law 1300 (.iload_n 3) 1 1301 := ⟨by decide +kernel, rfl⟩
theorem dL_law_1301 : dc cL_law 1301 (.iconst 2) 1 1302 := ⟨by decide +kernel, rfl⟩
theorem dL_law_1302 : dc cL_law 1302 (.iadd) 1 1303 := ⟨by decide +kernel, rfl⟩
theorem dL_law_1303 : dc cL_law 1303 (.iaload) 1 1304 := ⟨by decide +kernel, rfl⟩
theorem dL_law_1304 : dc cL_law 1304 (.invokevirtual 149) 3 1307 := ⟨by decide +kernel, rfl⟩
theorem dL_law_1307 : dc cL_law 1307 (.aload_n 2) 1 1308 := ⟨by decide +kernel, rfl⟩
theorem dL_law_1308 : dc cL_law 1308 (.aload_n 0) 1 1309 := ⟨by decide +kernel, rfl⟩
theorem dL_law_1309 : dc cL_law 1309 (.iload_n 3) 1 1310 := ⟨by decide +kernel, rfl⟩
theorem dL_law_1310 : dc cL_law 1310 (.iconst 1) 1 1311 := ⟨by decide +kernel, rfl⟩
theorem dL_law_1311 : dc cL_law 1311 (.iadd) 1 1312 := ⟨by decide +kernel, rfl⟩
theorem dL_law_1312 : dc cL_law 1312 (.iaload) 1 1313 := ⟨by decide +kernel, rfl⟩
theorem dL_law_1313 : dc cL_law 1313 (.aload_n 0) 1 1314 := ⟨by decide +kernel, rfl⟩
theorem dL_law_1314 : dc cL_law 1314 (.iload_n 3) 1 1315 := ⟨by decide +kernel, rfl⟩
theorem dL_law_1315 : dc cL_law 1315 (.iconst 2) 1 1316 := ⟨by decide +kernel, rfl⟩
theorem dL_law_1316 : dc cL_law 1316 (.iadd) 1 1317 := ⟨by decide +kernel, rfl⟩
theorem dL_law_1317 : dc cL_law 1317 (.iaload) 1 1318 := ⟨by decide +kernel, rfl⟩
theorem dL_law_1318 : dc cL_law 1318 (.invokevirtual 152) 3 1321 := ⟨by decide +kernel, rfl⟩
theorem dL_law_1321 : dc cL_law 1321 (.if_icmp .eq 714) 3 1324 := ⟨by decide +kernel, rfl⟩
theorem dL_law_1324 : dc cL_law 1324 (.iconst 0) 1 1325 := ⟨by decide +kernel, rfl⟩
theorem dL_law_1325 : dc cL_law 1325 (.ireturn) 1 1326 := ⟨by decide +kernel, rfl⟩
theorem dL_law_1326 : dc cL_law 1326 (.aload_n 1) 1 1327 := ⟨by decide +kernel, rfl⟩
theorem dL_law_1327 : dc cL_law 1327 (.aload_n 0) 1 1328 := ⟨by decide +kernel, rfl⟩
theorem dL_law_1328 : dc cL_law 1328 (.iload_n 3) 1 1329 := ⟨by decide +kernel, rfl⟩
theorem dL_law_1329 : dc cL_law 1329 (.iconst 1) 1 1330 := ⟨by decide +kernel, rfl⟩
theorem dL_law_1330 : dc cL_law 1330 (.iadd) 1 1331 := ⟨by decide +kernel, rfl⟩
theorem dL_law_1331 : dc cL_law 1331 (.iaload) 1 1332 := ⟨by decide +kernel, rfl⟩
theorem dL_law_1332 : dc cL_law 1332 (.aload_n 0) 1 1333 := ⟨by decide +kernel, rfl⟩
theorem dL_law_1333 : dc cL_law 1333 (.iload_n 3) 1 1334 := ⟨by decide +kernel, rfl⟩
theorem dL_law_1334 : dc cL_law 1334 (.iconst 2) 1 1335 := ⟨by decide +kernel, rfl⟩
theorem dL_law_1335 : dc cL_law 1335 (.iadd) 1 1336 := ⟨by decide +kernel, rfl⟩
theorem dL_law_1336 : dc cL_law 1336 (.iaload) 1 1337 := ⟨by decide +kernel, rfl⟩
theorem dL_law_1337 : dc cL_law 1337 (.invokevirtual 153) 3 1340 := ⟨by decide +kernel, rfl⟩
theorem dL_law_1340 : dc cL_law 1340 (.aload_n 2) 1 1341 := ⟨by decide +kernel, rfl⟩
theorem dL_law_1341 : dc cL_law 1341 (.aload_n 0) 1 1342 := ⟨by decide +kernel, rfl⟩
theorem dL_law_1342 : dc cL_law 1342 (.iload_n 3) 1 1343 := ⟨by decide +kernel, rfl⟩
theorem dL_law_1343 : dc cL_law 1343 (.iconst 1) 1 1344 := ⟨by decide +kernel, rfl⟩
theorem dL_law_1344 : dc cL_law 1344 (.iadd) 1 1345 := ⟨by decide +kernel, rfl⟩
theorem dL_law_1345 : dc cL_law 1345 (.iaload) 1 1346 := ⟨by decide +kernel, rfl⟩
theorem dL_law_1346 : dc cL_law 1346 (.aload_n 0) 1 1347 := ⟨by decide +kernel, rfl⟩
theorem dL_law_1347 : dc cL_law 1347 (.iload_n 3) 1 1348 := ⟨by decide +kernel, rfl⟩
theorem dL_law_1348 : dc cL_law 1348 (.iconst 2) 1 1349 := ⟨by decide +kernel, rfl⟩
theorem dL_law_1349 : dc cL_law 1349 (.iadd) 1 1350 := ⟨by decide +kernel, rfl⟩
theorem dL_law_1350 : dc cL_law 1350 (.iaload) 1 1351 := ⟨by decide +kernel, rfl⟩
theorem dL_law_1351 : dc cL_law 1351 (.invokevirtual 156) 3 1354 := ⟨by decide +kernel, rfl⟩
theorem dL_law_1354 : dc cL_law 1354 (.if_icmp .eq 681) 3 1357 := ⟨by decide +kernel, rfl⟩
theorem dL_law_1357 : dc cL_law 1357 (.iconst 0) 1 1358 := ⟨by decide +kernel, rfl⟩
theorem dL_law_1358 : dc cL_law 1358 (.ireturn) 1 1359 := ⟨by decide +kernel, rfl⟩
theorem dL_law_1359 : dc cL_law 1359 (.aload_n 1) 1 1360 := ⟨by decide +kernel, rfl⟩
theorem dL_law_1360 : dc cL_law 1360 (.invokevirtual 157) 3 1363 := ⟨by decide +kernel, rfl⟩
theorem dL_law_1363 : dc cL_law 1363 (.aload_n 2) 1 1364 := ⟨by decide +kernel, rfl⟩
theorem dL_law_1364 : dc cL_law 1364 (.invokevirtual 160) 3 1367 := ⟨by decide +kernel, rfl⟩
theorem dL_law_1367 : dc cL_law 1367 (.if_icmp .eq 668) 3 1370 := ⟨by decide +kernel, rfl⟩
theorem dL_law_1370 : dc cL_law 1370 (.iconst 0) 1 1371 := ⟨by decide +kernel, rfl⟩
theorem dL_law_1371 : dc cL_law 1371 (.ireturn) 1 1372 := ⟨by decide +kernel, rfl⟩
theorem dL_law_1372 : dc cL_law 1372 (.aload_n 1) 1 1373 := ⟨by decide +kernel, rfl⟩
theorem dL_law_1373 : dc cL_law 1373 (.aload_n 0) 1 1374 := ⟨by decide +kernel, rfl⟩
theorem dL_law_1374 : dc cL_law 1374 (.iload_n 3) 1 1375 := ⟨by decide +kernel, rfl⟩
theorem dL_law_1375 : dc cL_law 1375 (.iconst 1) 1 1376 := ⟨by decide +kernel, rfl⟩
theorem dL_law_1376 : dc cL_law 1376 (.iadd) 1 1377 := ⟨by decide +kernel, rfl⟩
theorem dL_law_1377 : dc cL_law 1377 (.iaload) 1 1378 := ⟨by decide +kernel, rfl⟩
theorem dL_law_1378 : dc cL_law 1378 (.invokevirtual 161) 3 1381 := ⟨by decide +kernel, rfl⟩
theorem dL_law_1381 : dc cL_law 1381 (.aload_n 2) 1 1382 := ⟨by decide +kernel, rfl⟩
theorem dL_law_1382 : dc cL_law 1382 (.aload_n 0) 1 1383 := ⟨by decide +kernel, rfl⟩
theorem dL_law_1383 : dc cL_law 1383 (.iload_n 3) 1 1384 := ⟨by decide +kernel, rfl⟩
theorem dL_law_1384 : dc cL_law 1384 (.iconst 1) 1 1385 := ⟨by decide +kernel, rfl⟩
theorem dL_law_1385 : dc cL_law 1385 (.iadd) 1 1386 := ⟨by decide +kernel, rfl⟩
theorem dL_law_1386 : dc cL_law 1386 (.iaload) 1 1387 := ⟨by decide +kernel, rfl⟩
theorem dL_law_1387 : dc cL_law 1387 (.invokevirtual 164) 3 1390 := ⟨by decide +kernel, rfl⟩
theorem dL_law_1390 : dc cL_law 1390 (.if_icmp .eq 645) 3 1393 := ⟨by decide +kernel, rfl⟩
theorem dL_law_1393 : dc cL_law 1393 (.iconst 0) 1 1394 := ⟨by decide +kernel, rfl⟩
theorem dL_law_1394 : dc cL_law 1394 (.ireturn) 1 1395 := ⟨by decide +kernel, rfl⟩
theorem dL_law_1395 : dc cL_law 1395 (.aload_n 1) 1 1396 := ⟨by decide +kernel, rfl⟩
theorem dL_law_1396 : dc cL_law 1396 (.aload_n 0) 1 1397 := ⟨by decide +kernel, rfl⟩
theorem dL_law_1397 : dc cL_law 1397 (.iload_n 3) 1 1398 := ⟨by decide +kernel, rfl⟩
theorem dL_law_1398 : dc cL_law 1398 (.iconst 1) 1 1399 := ⟨by decide +kernel, rfl⟩
theorem dL_law_1399 : dc cL_law 1399 (.iadd) 1 1400 := ⟨by decide +kernel, rfl⟩
theorem dL_law_1400 : dc cL_law 1400 (.iaload) 1 1401 := ⟨by decide +kernel, rfl⟩
theorem dL_law_1401 : dc cL_law 1401 (.invokevirtual 165) 3 1404 := ⟨by decide +kernel, rfl⟩
theorem dL_law_1404 : dc cL_law 1404 (.aload_n 2) 1 1405 := ⟨by decide +kernel, rfl⟩
theorem dL_law_1405 : dc cL_law 1405 (.aload_n 0) 1 1406 := ⟨by decide +kernel, rfl⟩
theorem dL_law_1406 : dc cL_law 1406 (.iload_n 3) 1 1407 := ⟨by decide +kernel, rfl⟩
theorem dL_law_1407 : dc cL_law 1407 (.iconst 1) 1 1408 := ⟨by decide +kernel, rfl⟩
theorem dL_law_1408 : dc cL_law 1408 (.iadd) 1 1409 := ⟨by decide +kernel, rfl⟩
theorem dL_law_1409 : dc cL_law 1409 (.iaload) 1 1410 := ⟨by decide +kernel, rfl⟩
theorem dL_law_1410 : dc cL_law 1410 (.invokevirtual 168) 3 1413 := ⟨by decide +kernel, rfl⟩
theorem dL_law_1413 : dc cL_law 1413 (.if_icmp .eq 622) 3 1416 := ⟨by decide +kernel, rfl⟩
theorem dL_law_1416 : dc cL_law 1416 (.iconst 0) 1 1417 := ⟨by decide +kernel, rfl⟩
theorem dL_law_1417 : dc cL_law 1417 (.ireturn) 1 1418 := ⟨by decide +kernel, rfl⟩
theorem dL_law_1418 : dc cL_law 1418 (.aload_n 1) 1 1419 := ⟨by decide +kernel, rfl⟩
theorem dL_law_1419 : dc cL_law 1419 (.aload_n 0) 1 1420 := ⟨by decide +kernel, rfl⟩
theorem dL_law_1420 : dc cL_law 1420 (.iload_n 3) 1 1421 := ⟨by decide +kernel, rfl⟩
theorem dL_law_1421 : dc cL_law 1421 (.iconst 1) 1 1422 := ⟨by decide +kernel, rfl⟩
theorem dL_law_1422 : dc cL_law 1422 (.iadd) 1 1423 := ⟨by decide +kernel, rfl⟩
theorem dL_law_1423 : dc cL_law 1423 (.iaload) 1 1424 := ⟨by decide +kernel, rfl⟩
theorem dL_law_1424 : dc cL_law 1424 (.aload_n 0) 1 1425 := ⟨by decide +kernel, rfl⟩
theorem dL_law_1425 : dc cL_law 1425 (.iload_n 3) 1 1426 := ⟨by decide +kernel, rfl⟩
theorem dL_law_1426 : dc cL_law 1426 (.iconst 2) 1 1427 := ⟨by decide +kernel, rfl⟩
theorem dL_law_1427 : dc cL_law 1427 (.iadd) 1 1428 := ⟨by decide +kernel, rfl⟩
theorem dL_law_1428 : dc cL_law 1428 (.iaload) 1 1429 := ⟨by decide +kernel, rfl⟩
theorem dL_law_1429 : dc cL_law 1429 (.invokevirtual 169) 3 1432 := ⟨by decide +kernel, rfl⟩
theorem dL_law_1432 : dc cL_law 1432 (.aload_n 2) 1 1433 := ⟨by decide +kernel, rfl⟩
theorem dL_law_1433 : dc cL_law 1433 (.aload_n 0) 1 1434 := ⟨by decide +kernel, rfl⟩
theorem dL_law_1434 : dc cL_law 1434 (.iload_n 3) 1 1435 := ⟨by decide +kernel, rfl⟩
theorem dL_law_1435 : dc cL_law 1435 (.iconst 1) 1 1436 := ⟨by decide +kernel, rfl⟩
theorem dL_law_1436 : dc cL_law 1436 (.iadd) 1 1437 := ⟨by decide +kernel, rfl⟩
theorem dL_law_1437 : dc cL_law 1437 (.iaload) 1 1438 := ⟨by decide +kernel, rfl⟩
theorem dL_law_1438 : dc cL_law 1438 (.aload_n 0) 1 1439 := ⟨by decide +kernel, rfl⟩
theorem dL_law_1439 : dc cL_law 1439 (.iload_n 3) 1 1440 := ⟨by decide +kernel, rfl⟩
theorem dL_law_1440 : dc cL_law 1440 (.iconst 2) 1 1441 := ⟨by decide +kernel, rfl⟩
theorem dL_law_1441 : dc cL_law 1441 (.iadd) 1 1442 := ⟨by decide +kernel, rfl⟩
theorem dL_law_1442 : dc cL_law 1442 (.iaload) 1 1443 := ⟨by decide +kernel, rfl⟩
theorem dL_law_1443 : dc cL_law 1443 (.invokevirtual 172) 3 1446 := ⟨by decide +kernel, rfl⟩
theorem dL_law_1446 : dc cL_law 1446 (.if_icmp .eq 589) 3 1449 := ⟨by decide +kernel, rfl⟩
theorem dL_law_1449 : dc cL_law 1449 (.iconst 0) 1 1450 := ⟨by decide +kernel, rfl⟩
theorem dL_law_1450 : dc cL_law 1450 (.ireturn) 1 1451 := ⟨by decide +kernel, rfl⟩
theorem dL_law_1451 : dc cL_law 1451 (.aload_n 1) 1 1452 := ⟨by decide +kernel, rfl⟩
theorem dL_law_1452 : dc cL_law 1452 (.aload_n 0) 1 1453 := ⟨by decide +kernel, rfl⟩
theorem dL_law_1453 : dc cL_law 1453 (.iload_n 3) 1 1454 := ⟨by decide +kernel, rfl⟩
theorem dL_law_1454 : dc cL_law 1454 (.iconst 1) 1 1455 := ⟨by decide +kernel, rfl⟩
theorem dL_law_1455 : dc cL_law 1455 (.iadd) 1 1456 := ⟨by decide +kernel, rfl⟩
theorem dL_law_1456 : dc cL_law 1456 (.iaload) 1 1457 := ⟨by decide +kernel, rfl⟩
theorem dL_law_1457 : dc cL_law 1457 (.aload_n 0) 1 1458 := ⟨by decide +kernel, rfl⟩
theorem dL_law_1458 : dc cL_law 1458 (.iload_n 3) 1 1459 := ⟨by decide +kernel, rfl⟩
theorem dL_law_1459 : dc cL_law 1459 (.iconst 2) 1 1460 := ⟨by decide +kernel, rfl⟩
theorem dL_law_1460 : dc cL_law 1460 (.iadd) 1 1461 := ⟨by decide +kernel, rfl⟩
theorem dL_law_1461 : dc cL_law 1461 (.iaload) 1 1462 := ⟨by decide +kernel, rfl⟩
theorem dL_law_1462 : dc cL_law 1462 (.invokevirtual 173) 3 1465 := ⟨by decide +kernel, rfl⟩
theorem dL_law_1465 : dc cL_law 1465 (.aload_n 2) 1 1466 := ⟨by decide +kernel, rfl⟩
theorem dL_law_1466 : dc cL_law 1466 (.aload_n 0) 1 1467 := ⟨by decide +kernel, rfl⟩
theorem dL_law_1467 : dc cL_law 1467 (.iload_n 3) 1 1468 := ⟨by decide +kernel, rfl⟩
theorem dL_law_1468 : dc cL_law 1468 (.iconst 1) 1 1469 := ⟨by decide +kernel, rfl⟩
theorem dL_law_1469 : dc cL_law 1469 (.iadd) 1 1470 := ⟨by decide +kernel, rfl⟩
theorem dL_law_1470 : dc cL_law 1470 (.iaload) 1 1471 := ⟨by decide +kernel, rfl⟩
theorem dL_law_1471 : dc cL_law 1471 (.aload_n 0) 1 1472 := ⟨by decide +kernel, rfl⟩
theorem dL_law_1472 : dc cL_law 1472 (.iload_n 3) 1 1473 := ⟨by decide +kernel, rfl⟩
theorem dL_law_1473 : dc cL_law 1473 (.iconst 2) 1 1474 := ⟨by decide +kernel, rfl⟩
theorem dL_law_1474 : dc cL_law 1474 (.iadd) 1 1475 := ⟨by decide +kernel, rfl⟩
theorem dL_law_1475 : dc cL_law 1475 (.iaload) 1 1476 := ⟨by decide +kernel, rfl⟩
theorem dL_law_1476 : dc cL_law 1476 (.invokevirtual 176) 3 1479 := ⟨by decide +kernel, rfl⟩
theorem dL_law_1479 : dc cL_law 1479 (.if_icmp .eq 556) 3 1482 := ⟨by decide +kernel, rfl⟩
theorem dL_law_1482 : dc cL_law 1482 (.iconst 0) 1 1483 := ⟨by decide +kernel, rfl⟩
theorem dL_law_1483 : dc cL_law 1483 (.ireturn) 1 1484 := ⟨by decide +kernel, rfl⟩
theorem dL_law_1484 : dc cL_law 1484 (.aload_n 1) 1 1485 := ⟨by decide +kernel, rfl⟩
theorem dL_law_1485 : dc cL_law 1485 (.aload_n 0) 1 1486 := ⟨by decide +kernel, rfl⟩
theorem dL_law_1486 : dc cL_law 1486 (.iload_n 3) 1 1487 := ⟨by decide +kernel, rfl⟩
theorem dL_law_1487 : dc cL_law 1487 (.iconst 1) 1 1488 := ⟨by decide +kernel, rfl⟩
theorem dL_law_1488 : dc cL_law 1488 (.iadd) 1 1489 := ⟨by decide +kernel, rfl⟩
theorem dL_law_1489 : dc cL_law 1489 (.iaload) 1 1490 := ⟨by decide +kernel, rfl⟩
theorem dL_law_1490 : dc cL_law 1490 (.aload_n 0) 1 1491 := ⟨by decide +kernel, rfl⟩
theorem dL_law_1491 : dc cL_law 1491 (.iload_n 3) 1 1492 := ⟨by decide +kernel, rfl⟩
theorem dL_law_1492 : dc cL_law 1492 (.iconst 2) 1 1493 := ⟨by decide +kernel, rfl⟩
theorem dL_law_1493 : dc cL_law 1493 (.iadd) 1 1494 := ⟨by decide +kernel, rfl⟩
theorem dL_law_1494 : dc cL_law 1494 (.iaload) 1 1495 := ⟨by decide +kernel, rfl⟩
theorem dL_law_1495 : dc cL_law 1495 (.aload_n 0) 1 1496 := ⟨by decide +kernel, rfl⟩
theorem dL_law_1496 : dc cL_law 1496 (.iload_n 3) 1 1497 := ⟨by decide +kernel, rfl⟩
theorem dL_law_1497 : dc cL_law 1497 (.iconst 3) 1 1498 := ⟨by decide +kernel, rfl⟩
theorem dL_law_1498 : dc cL_law 1498 (.iadd) 1 1499 := ⟨by decide +kernel, rfl⟩
theorem dL_law_1499 : dc cL_law 1499 (.iaload) 1 1500 := ⟨by decide +kernel, rfl⟩
theorem dL_law_1500 : dc cL_law 1500 (.invokevirtual 177) 3 1503 := ⟨by decide +kernel, rfl⟩
theorem dL_law_1503 : dc cL_law 1503 (.aload_n 2) 1 1504 := ⟨by decide +kernel, rfl⟩
theorem dL_law_1504 : dc cL_law 1504 (.aload_n 0) 1 1505 := ⟨by decide +kernel, rfl⟩
theorem dL_law_1505 : dc cL_law 1505 (.iload_n 3) 1 1506 := ⟨by decide +kernel, rfl⟩
theorem dL_law_1506 : dc cL_law 1506 (.iconst 1) 1 1507 := ⟨by decide +kernel, rfl⟩
theorem dL_law_1507 : dc cL_law 1507 (.iadd) 1 1508 := ⟨by decide +kernel, rfl⟩
theorem dL_law_1508 : dc cL_law 1508 (.iaload) 1 1509 := ⟨by decide +kernel, rfl⟩
theorem dL_law_1509 : dc cL_law 1509 (.aload_n 0) 1 1510 := ⟨by decide +kernel, rfl⟩
theorem dL_law_1510 : dc cL_law 1510 (.iload_n 3) 1 1511 := ⟨by decide +kernel, rfl⟩
theorem dL_law_1511 : dc cL_law 1511 (.iconst 2) 1 1512 := ⟨by decide +kernel, rfl⟩
theorem dL_law_1512 : dc cL_law 1512 (.iadd) 1 1513 := ⟨by decide +kernel, rfl⟩
theorem dL_law_1513 : dc cL_law 1513 (.iaload) 1 1514 := ⟨by decide +kernel, rfl⟩
theorem dL_law_1514 : dc cL_law 1514 (.aload_n 0) 1 1515 := ⟨by decide +kernel, rfl⟩
theorem dL_law_1515 : dc cL_law 1515 (.iload_n 3) 1 1516 := ⟨by decide +kernel, rfl⟩
theorem dL_law_1516 : dc cL_law 1516 (.iconst 3) 1 1517 := ⟨by decide +kernel, rfl⟩
theorem dL_law_1517 : dc cL_law 1517 (.iadd) 1 1518 := ⟨by decide +kernel, rfl⟩
theorem dL_law_1518 : dc cL_law 1518 (.iaload) 1 1519 := ⟨by decide +kernel, rfl⟩
theorem dL_law_1519 : dc cL_law 1519 (.invokevirtual 180) 3 1522 := ⟨by decide +kernel, rfl⟩
theorem dL_law_1522 : dc cL_law 1522 (.if_icmp .eq 513) 3 1525 := ⟨by decide +kernel, rfl⟩
theorem dL_law_1525 : dc cL_law 1525 (.iconst 0) 1 1526 := ⟨by decide +kernel, rfl⟩
theorem dL_law_1526 : dc cL_law 1526 (.ireturn) 1 1527 := ⟨by decide +kernel, rfl⟩
theorem dL_law_1527 : dc cL_law 1527 (.aload_n 1) 1 1528 := ⟨by decide +kernel, rfl⟩
theorem dL_law_1528 : dc cL_law 1528 (.aload_n 0) 1 1529 := ⟨by decide +kernel, rfl⟩
theorem dL_law_1529 : dc cL_law 1529 (.iload_n 3) 1 1530 := ⟨by decide +kernel, rfl⟩
theorem dL_law_1530 : dc cL_law 1530 (.iconst 1) 1 1531 := ⟨by decide +kernel, rfl⟩
theorem dL_law_1531 : dc cL_law 1531 (.iadd) 1 1532 := ⟨by decide +kernel, rfl⟩
theorem dL_law_1532 : dc cL_law 1532 (.iaload) 1 1533 := ⟨by decide +kernel, rfl⟩
theorem dL_law_1533 : dc cL_law 1533 (.aload_n 0) 1 1534 := ⟨by decide +kernel, rfl⟩
theorem dL_law_1534 : dc cL_law 1534 (.iload_n 3) 1 1535 := ⟨by decide +kernel, rfl⟩
theorem dL_law_1535 : dc cL_law 1535 (.iconst 2) 1 1536 := ⟨by decide +kernel, rfl⟩
theorem dL_law_1536 : dc cL_law 1536 (.iadd) 1 1537 := ⟨by decide +kernel, rfl⟩
theorem dL_law_1537 : dc cL_law 1537 (.iaload) 1 1538 := ⟨by decide +kernel, rfl⟩
theorem dL_law_1538 : dc cL_law 1538 (.invokevirtual 181) 3 1541 := ⟨by decide +kernel, rfl⟩
theorem dL_law_1541 : dc cL_law 1541 (.aload_n 2) 1 1542 := ⟨by decide +kernel, rfl⟩
theorem dL_law_1542 : dc cL_law 1542 (.aload_n 0) 1 1543 := ⟨by decide +kernel, rfl⟩
theorem dL_law_1543 : dc cL_law 1543 (.iload_n 3) 1 1544 := ⟨by decide +kernel, rfl⟩
theorem dL_law_1544 : dc cL_law 1544 (.iconst 1) 1 1545 := ⟨by decide +kernel, rfl⟩
theorem dL_law_1545 : dc cL_law 1545 (.iadd) 1 1546 := ⟨by decide +kernel, rfl⟩
theorem dL_law_1546 : dc cL_law 1546 (.iaload) 1 1547 := ⟨by decide +kernel, rfl⟩
theorem dL_law_1547 : dc cL_law 1547 (.aload_n 0) 1 1548 := ⟨by decide +kernel, rfl⟩
theorem dL_law_1548 : dc cL_law 1548 (.iload_n 3) 1 1549 := ⟨by decide +kernel, rfl⟩
theorem dL_law_1549 : dc cL_law 1549 (.iconst 2) 1 1550 := ⟨by decide +kernel, rfl⟩
theorem dL_law_1550 : dc cL_law 1550 (.iadd) 1 1551 := ⟨by decide +kernel, rfl⟩
theorem dL_law_1551 : dc cL_law 1551 (.iaload) 1 1552 := ⟨by decide +kernel, rfl⟩
theorem dL_law_1552 : dc cL_law 1552 (.invokevirtual 184) 3 1555 := ⟨by decide +kernel, rfl⟩
theorem dL_law_1555 : dc cL_law 1555 (.if_icmp .eq 480) 3 1558 := ⟨by decide +kernel, rfl⟩
theorem dL_law_1558 : dc cL_law 1558 (.iconst 0) 1 1559 := ⟨by decide +kernel, rfl⟩
theorem dL_law_1559 : dc cL_law 1559 (.ireturn) 1 1560 := ⟨by decide +kernel, rfl⟩
theorem dL_law_1560 : dc cL_law 1560 (.aload_n 1) 1 1561 := ⟨by decide +kernel, rfl⟩
theorem dL_law_1561 : dc cL_law 1561 (.aload_n 0) 1 1562 := ⟨by decide +kernel, rfl⟩
theorem dL_law_1562 : dc cL_law 1562 (.iload_n 3) 1 1563 := ⟨by decide +kernel, rfl⟩
theorem dL_law_1563 : dc cL_law 1563 (.iconst 1) 1 1564 := ⟨by decide +kernel, rfl⟩
theorem dL_law_1564 : dc cL_law 1564 (.iadd) 1 1565 := ⟨by decide +kernel, rfl⟩
theorem dL_law_1565 : dc cL_law 1565 (.iaload) 1 1566 := ⟨by decide +kernel, rfl⟩
theorem dL_law_1566 : dc cL_law 1566 (.aload_n 0) 1 1567 := ⟨by decide +kernel, rfl⟩
theorem dL_law_1567 : dc cL_law 1567 (.iload_n 3) 1 1568 := ⟨by decide +kernel, rfl⟩
theorem dL_law_1568 : dc cL_law 1568 (.iconst 2) 1 1569 := ⟨by decide +kernel, rfl⟩
theorem dL_law_1569 : dc cL_law 1569 (.iadd) 1 1570 := ⟨by decide +kernel, rfl⟩
theorem dL_law_1570 : dc cL_law 1570 (.iaload) 1 1571 := ⟨by decide +kernel, rfl⟩
theorem dL_law_1571 : dc cL_law 1571 (.invokevirtual 185) 3 1574 := ⟨by decide +kernel, rfl⟩
theorem dL_law_1574 : dc cL_law 1574 (.aload_n 2) 1 1575 := ⟨by decide +kernel, rfl⟩
theorem dL_law_1575 : dc cL_law 1575 (.aload_n 0) 1 1576 := ⟨by decide +kernel, rfl⟩
theorem dL_law_1576 : dc cL_law 1576 (.iload_n 3) 1 1577 := ⟨by decide +kernel, rfl⟩
theorem dL_law_1577 : dc cL_law 1577 (.iconst 1) 1 1578 := ⟨by decide +kernel, rfl⟩
theorem dL_law_1578 : dc cL_law 1578 (.iadd) 1 1579 := ⟨by decide +kernel, rfl⟩
theorem dL_law_1579 : dc cL_law 1579 (.iaload) 1 1580 := ⟨by decide +kernel, rfl⟩
theorem dL_law_1580 : dc cL_law 1580 (.aload_n 0) 1 1581 := ⟨by decide +kernel, rfl⟩
theorem dL_law_1581 : dc cL_law 1581 (.iload_n 3) 1 1582 := ⟨by decide +kernel, rfl⟩
theorem dL_law_1582 : dc cL_law 1582 (.iconst 2) 1 1583 := ⟨by decide +kernel, rfl⟩
theorem dL_law_1583 : dc cL_law 1583 (.iadd) 1 1584 := ⟨by decide +kernel, rfl⟩
theorem dL_law_1584 : dc cL_law 1584 (.iaload) 1 1585 := ⟨by decide +kernel, rfl⟩
theorem dL_law_1585 : dc cL_law 1585 (.invokevirtual 188) 3 1588 := ⟨by decide +kernel, rfl⟩
theorem dL_law_1588 : dc cL_law 1588 (.if_icmp .eq 447) 3 1591 := ⟨by decide +kernel, rfl⟩
theorem dL_law_1591 : dc cL_law 1591 (.iconst 0) 1 1592 := ⟨by decide +kernel, rfl⟩
theorem dL_law_1592 : dc cL_law 1592 (.ireturn) 1 1593 := ⟨by decide +kernel, rfl⟩
theorem dL_law_1593 : dc cL_law 1593 (.aload_n 1) 1 1594 := ⟨by decide +kernel, rfl⟩
theorem dL_law_1594 : dc cL_law 1594 (.aload_n 0) 1 1595 := ⟨by decide +kernel, rfl⟩
theorem dL_law_1595 : dc cL_law 1595 (.iload_n 3) 1 1596 := ⟨by decide +kernel, rfl⟩
theorem dL_law_1596 : dc cL_law 1596 (.iconst 1) 1 1597 := ⟨by decide +kernel, rfl⟩
theorem dL_law_1597 : dc cL_law 1597 (.iadd) 1 1598 := ⟨by decide +kernel, rfl⟩
theorem dL_law_1598 : dc cL_law 1598 (.iaload) 1 1599 := ⟨by decide +kernel, rfl⟩
theorem dL_law_1599 : dc cL_law 1599 (.aload_n 0) 1 1600 := ⟨by decide +kernel, rfl⟩
theorem dL_law_1600 : dc cL_law 1600 (.iload_n 3) 1 1601 := ⟨by decide +kernel, rfl⟩
theorem dL_law_1601 : dc cL_law 1601 (.iconst 2) 1 1602 := ⟨by decide +kernel, rfl⟩
theorem dL_law_1602 : dc cL_law 1602 (.iadd) 1 1603 := ⟨by decide +kernel, rfl⟩
theorem dL_law_1603 : dc cL_law 1603 (.iaload) 1 1604 := ⟨by decide +kernel, rfl⟩
theorem dL_law_1604 : dc cL_law 1604 (.invokevirtual 189) 3 1607 := ⟨by decide +kernel, rfl⟩
theorem dL_law_1607 : dc cL_law 1607 (.aload_n 2) 1 1608 := ⟨by decide +kernel, rfl⟩
theorem dL_law_1608 : dc cL_law 1608 (.aload_n 0) 1 1609 := ⟨by decide +kernel, rfl⟩
theorem dL_law_1609 : dc cL_law 1609 (.iload_n 3) 1 1610 := ⟨by decide +kernel, rfl⟩
theorem dL_law_1610 : dc cL_law 1610 (.iconst 1) 1 1611 := ⟨by decide +kernel, rfl⟩
theorem dL_law_1611 : dc cL_law 1611 (.iadd) 1 1612 := ⟨by decide +kernel, rfl⟩
theorem dL_law_1612 : dc cL_law 1612 (.iaload) 1 1613 := ⟨by decide +kernel, rfl⟩
theorem dL_law_1613 : dc cL_law 1613 (.aload_n 0) 1 1614 := ⟨by decide +kernel, rfl⟩
theorem dL_law_1614 : dc cL_law 1614 (.iload_n 3) 1 1615 := ⟨by decide +kernel, rfl⟩
theorem dL_law_1615 : dc cL_law 1615 (.iconst 2) 1 1616 := ⟨by decide +kernel, rfl⟩
theorem dL_law_1616 : dc cL_law 1616 (.iadd) 1 1617 := ⟨by decide +kernel, rfl⟩
theorem dL_law_1617 : dc cL_law 1617 (.iaload) 1 1618 := ⟨by decide +kernel, rfl⟩
theorem dL_law_1618 : dc cL_law 1618 (.invokevirtual 192) 3 1621 := ⟨by decide +kernel, rfl⟩
theorem dL_law_1621 : dc cL_law 1621 (.if_icmp .eq 414) 3 1624 := ⟨by decide +kernel, rfl⟩
theorem dL_law_1624 : dc cL_law 1624 (.iconst 0) 1 1625 := ⟨by decide +kernel, rfl⟩
theorem dL_law_1625 : dc cL_law 1625 (.ireturn) 1 1626 := ⟨by decide +kernel, rfl⟩
theorem dL_law_1626 : dc cL_law 1626 (.aload_n 1) 1 1627 := ⟨by decide +kernel, rfl⟩
theorem dL_law_1627 : dc cL_law 1627 (.aload_n 0) 1 1628 := ⟨by decide +kernel, rfl⟩
theorem dL_law_1628 : dc cL_law 1628 (.iload_n 3) 1 1629 := ⟨by decide +kernel, rfl⟩
theorem dL_law_1629 : dc cL_law 1629 (.iconst 1) 1 1630 := ⟨by decide +kernel, rfl⟩
theorem dL_law_1630 : dc cL_law 1630 (.iadd) 1 1631 := ⟨by decide +kernel, rfl⟩
theorem dL_law_1631 : dc cL_law 1631 (.iaload) 1 1632 := ⟨by decide +kernel, rfl⟩
theorem dL_law_1632 : dc cL_law 1632 (.aload_n 0) 1 1633 := ⟨by decide +kernel, rfl⟩
theorem dL_law_1633 : dc cL_law 1633 (.iload_n 3) 1 1634 := ⟨by decide +kernel, rfl⟩
theorem dL_law_1634 : dc cL_law 1634 (.iconst 2) 1 1635 := ⟨by decide +kernel, rfl⟩
theorem dL_law_1635 : dc cL_law 1635 (.iadd) 1 1636 := ⟨by decide +kernel, rfl⟩
theorem dL_law_1636 : dc cL_law 1636 (.iaload) 1 1637 := ⟨by decide +kernel, rfl⟩
theorem dL_law_1637 : dc cL_law 1637 (.invokevirtual 193) 3 1640 := ⟨by decide +kernel, rfl⟩
theorem dL_law_1640 : dc cL_law 1640 (.aload_n 2) 1 1641 := ⟨by decide +kernel, rfl⟩
theorem dL_law_1641 : dc cL_law 1641 (.aload_n 0) 1 1642 := ⟨by decide +kernel, rfl⟩
theorem dL_law_1642 : dc cL_law 1642 (.iload_n 3) 1 1643 := ⟨by decide +kernel, rfl⟩
theorem dL_law_1643 : dc cL_law 1643 (.iconst 1) 1 1644 := ⟨by decide +kernel, rfl⟩
theorem dL_law_1644 : dc cL_law 1644 (.iadd) 1 1645 := ⟨by decide +kernel, rfl⟩
theorem dL_law_1645 : dc cL_law 1645 (.iaload) 1 1646 := ⟨by decide +kernel, rfl⟩
theorem dL_law_1646 : dc cL_law 1646 (.aload_n 0) 1 1647 := ⟨by decide +kernel, rfl⟩
theorem dL_law_1647 : dc cL_law 1647 (.iload_n 3) 1 1648 := ⟨by decide +kernel, rfl⟩
theorem dL_law_1648 : dc cL_law 1648 (.iconst 2) 1 1649 := ⟨by decide +kernel, rfl⟩
theorem dL_law_1649 : dc cL_law 1649 (.iadd) 1 1650 := ⟨by decide +kernel, rfl⟩
theorem dL_law_1650 : dc cL_law 1650 (.iaload) 1 1651 := ⟨by decide +kernel, rfl⟩
theorem dL_law_1651 : dc cL_law 1651 (.invokevirtual 196) 3 1654 := ⟨by decide +kernel, rfl⟩
theorem dL_law_1654 : dc cL_law 1654 (.if_icmp .eq 381) 3 1657 := ⟨by decide +kernel, rfl⟩
theorem dL_law_1657 : dc cL_law 1657 (.iconst 0) 1 1658 := ⟨by decide +kernel, rfl⟩
theorem dL_law_1658 : dc cL_law 1658 (.ireturn) 1 1659 := ⟨by decide +kernel, rfl⟩
theorem dL_law_1659 : dc cL_law 1659 (.aload_n 1) 1 1660 := ⟨by decide +kernel, rfl⟩
theorem dL_law_1660 : dc cL_law 1660 (.aload_n 0) 1 1661 := ⟨by decide +kernel, rfl⟩
theorem dL_law_1661 : dc cL_law 1661 (.iload_n 3) 1 1662 := ⟨by decide +kernel, rfl⟩
theorem dL_law_1662 : dc cL_law 1662 (.iconst 1) 1 1663 := ⟨by decide +kernel, rfl⟩
theorem dL_law_1663 : dc cL_law 1663 (.iadd) 1 1664 := ⟨by decide +kernel, rfl⟩
theorem dL_law_1664 : dc cL_law 1664 (.iaload) 1 1665 := ⟨by decide +kernel, rfl⟩
theorem dL_law_1665 : dc cL_law 1665 (.aload_n 0) 1 1666 := ⟨by decide +kernel, rfl⟩
theorem dL_law_1666 : dc cL_law 1666 (.iload_n 3) 1 1667 := ⟨by decide +kernel, rfl⟩
theorem dL_law_1667 : dc cL_law 1667 (.iconst 2) 1 1668 := ⟨by decide +kernel, rfl⟩
theorem dL_law_1668 : dc cL_law 1668 (.iadd) 1 1669 := ⟨by decide +kernel, rfl⟩
theorem dL_law_1669 : dc cL_law 1669 (.iaload) 1 1670 := ⟨by decide +kernel, rfl⟩
theorem dL_law_1670 : dc cL_law 1670 (.aload_n 0) 1 1671 := ⟨by decide +kernel, rfl⟩
theorem dL_law_1671 : dc cL_law 1671 (.iload_n 3) 1 1672 := ⟨by decide +kernel, rfl⟩
theorem dL_law_1672 : dc cL_law 1672 (.iconst 3) 1 1673 := ⟨by decide +kernel, rfl⟩
theorem dL_law_1673 : dc cL_law 1673 (.iadd) 1 1674 := ⟨by decide +kernel, rfl⟩
theorem dL_law_1674 : dc cL_law 1674 (.iaload) 1 1675 := ⟨by decide +kernel, rfl⟩
theorem dL_law_1675 : dc cL_law 1675 (.aload_n 0) 1 1676 := ⟨by decide +kernel, rfl⟩
theorem dL_law_1676 : dc cL_law 1676 (.iload_n 3) 1 1677 := ⟨by decide +kernel, rfl⟩
theorem dL_law_1677 : dc cL_law 1677 (.iconst 4) 1 1678 := ⟨by decide +kernel, rfl⟩
theorem dL_law_1678 : dc cL_law 1678 (.iadd) 1 1679 := ⟨by decide +kernel, rfl⟩
theorem dL_law_1679 : dc cL_law 1679 (.iaload) 1 1680 := ⟨by decide +kernel, rfl⟩
theorem dL_law_1680 : dc cL_law 1680 (.invokevirtual 197) 3 1683 := ⟨by decide +kernel, rfl⟩
theorem dL_law_1683 : dc cL_law 1683 (.aload_n 2) 1 1684 := ⟨by decide +kernel, rfl⟩
theorem dL_law_1684 : dc cL_law 1684 (.aload_n 0) 1 1685 := ⟨by decide +kernel, rfl⟩
theorem dL_law_1685 : dc cL_law 1685 (.iload_n 3) 1 1686 := ⟨by decide +kernel, rfl⟩
theorem dL_law_1686 : dc cL_law 1686 (.iconst 1) 1 1687 := ⟨by decide +kernel, rfl⟩
theorem dL_law_1687 : dc cL_law 1687 (.iadd) 1 1688 := ⟨by decide +kernel, rfl⟩
theorem dL_law_1688 : dc cL_law 1688 (.iaload) 1 1689 := ⟨by decide +kernel, rfl⟩
theorem dL_law_1689 : dc cL_law 1689 (.aload_n 0) 1 1690 := ⟨by decide +kernel, rfl⟩
theorem dL_law_1690 : dc cL_law 1690 (.iload_n 3) 1 1691 := ⟨by decide +kernel, rfl⟩
theorem dL_law_1691 : dc cL_law 1691 (.iconst 2) 1 1692 := ⟨by decide +kernel, rfl⟩
theorem dL_law_1692 : dc cL_law 1692 (.iadd) 1 1693 := ⟨by decide +kernel, rfl⟩
theorem dL_law_1693 : dc cL_law 1693 (.iaload) 1 1694 := ⟨by decide +kernel, rfl⟩
theorem dL_law_1694 : dc cL_law 1694 (.aload_n 0) 1 1695 := ⟨by decide +kernel, rfl⟩
theorem dL_law_1695 : dc cL_law 1695 (.iload_n 3) 1 1696 := ⟨by decide +kernel, rfl⟩
theorem dL_law_1696 : dc cL_law 1696 (.iconst 3) 1 1697 := ⟨by decide +kernel, rfl⟩
theorem dL_law_1697 : dc cL_law 1697 (.iadd) 1 1698 := ⟨by decide +kernel, rfl⟩
theorem dL_law_1698 : dc cL_law 1698 (.iaload) 1 1699 := ⟨by decide +kernel, rfl⟩
theorem dL_law_1699 : dc cL_law 1699 (.aload_n 0) 1 1700 := ⟨by decide +kernel, rfl⟩
theorem dL_law_1700 : dc cL_law 1700 (.iload_n 3) 1 1701 := ⟨by decide +kernel, rfl⟩
theorem dL_law_1701 : dc cL_law 1701 (.iconst 4) 1 1702 := ⟨by decide +kernel, rfl⟩
theorem dL_law_1702 : dc cL_law 1702 (.iadd) 1 1703 := ⟨by decide +kernel, rfl⟩
theorem dL_law_1703 : dc cL_law 1703 (.iaload) 1 1704 := ⟨by decide +kernel, rfl⟩
theorem dL_law_1704 : dc cL_law 1704 (.invokevirtual 201) 3 1707 := ⟨by decide +kernel, rfl⟩
theorem dL_law_1707 : dc cL_law 1707 (.lcmp) 1 1708 := ⟨by decide +kernel, rfl⟩
theorem dL_law_1708 : dc cL_law 1708 (.ifCond .eq 327) 3 1711 := ⟨by decide +kernel, rfl⟩
theorem dL_law_1711 : dc cL_law 1711 (.iconst 0) 1 1712 := ⟨by decide +kernel, rfl⟩
theorem dL_law_1712 : dc cL_law 1712 (.ireturn) 1 1713 := ⟨by decide +kernel, rfl⟩
theorem dL_law_1713 : dc cL_law 1713 (.aload_n 1) 1 1714 := ⟨by decide +kernel, rfl⟩
theorem dL_law_1714 : dc cL_law 1714 (.aload_n 0) 1 1715 := ⟨by decide +kernel, rfl⟩
theorem dL_law_1715 : dc cL_law 1715 (.iload_n 3) 1 1716 := ⟨by decide +kernel, rfl⟩
theorem dL_law_1716 : dc cL_law 1716 (.iconst 1) 1 1717 := ⟨by decide +kernel, rfl⟩
theorem dL_law_1717 : dc cL_law 1717 (.iadd) 1 1718 := ⟨by decide +kernel, rfl⟩
theorem dL_law_1718 : dc cL_law 1718 (.iaload) 1 1719 := ⟨by decide +kernel, rfl⟩
theorem dL_law_1719 : dc cL_law 1719 (.invokevirtual 202) 3 1722 := ⟨by decide +kernel, rfl⟩
theorem dL_law_1722 : dc cL_law 1722 (.aload_n 2) 1 1723 := ⟨by decide +kernel, rfl⟩
theorem dL_law_1723 : dc cL_law 1723 (.aload_n 0) 1 1724 := ⟨by decide +kernel, rfl⟩
theorem dL_law_1724 : dc cL_law 1724 (.iload_n 3) 1 1725 := ⟨by decide +kernel, rfl⟩
theorem dL_law_1725 : dc cL_law 1725 (.iconst 1) 1 1726 := ⟨by decide +kernel, rfl⟩
theorem dL_law_1726 : dc cL_law 1726 (.iadd) 1 1727 := ⟨by decide +kernel, rfl⟩
theorem dL_law_1727 : dc cL_law 1727 (.iaload) 1 1728 := ⟨by decide +kernel, rfl⟩
theorem dL_law_1728 : dc cL_law 1728 (.invokevirtual 205) 3 1731 := ⟨by decide +kernel, rfl⟩
theorem dL_law_1731 : dc cL_law 1731 (.if_icmp .eq 304) 3 1734 := ⟨by decide +kernel, rfl⟩
theorem dL_law_1734 : dc cL_law 1734 (.iconst 0) 1 1735 := ⟨by decide +kernel, rfl⟩
theorem dL_law_1735 : dc cL_law 1735 (.ireturn) 1 1736 := ⟨by decide +kernel, rfl⟩
theorem dL_law_1736 : dc cL_law 1736 (.aload_n 1) 1 1737 := ⟨by decide +kernel, rfl⟩
theorem dL_law_1737 : dc cL_law 1737 (.invokevirtual 206) 3 1740 := ⟨by decide +kernel, rfl⟩
theorem dL_law_1740 : dc cL_law 1740 (.aload_n 2) 1 1741 := ⟨by decide +kernel, rfl⟩
theorem dL_law_1741 : dc cL_law 1741 (.invokevirtual 209) 3 1744 := ⟨by decide +kernel, rfl⟩
theorem dL_law_1744 : dc cL_law 1744 (.if_icmp .eq 291) 3 1747 := ⟨by decide +kernel, rfl⟩
theorem dL_law_1747 : dc cL_law 1747 (.iconst 0) 1 1748 := ⟨by decide +kernel, rfl⟩
theorem dL_law_1748 : dc cL_law 1748 (.ireturn) 1 1749 := ⟨by decide +kernel, rfl⟩
theorem dL_law_1749 : dc cL_law 1749 (.aload_n 1) 1 1750 := ⟨by decide +kernel, rfl⟩
theorem dL_law_1750 : dc cL_law 1750 (.invokevirtual 210) 3 1753 := ⟨by decide +kernel, rfl⟩
theorem dL_law_1753 : dc cL_law 1753 (.aload_n 2) 1 1754 := ⟨by decide +kernel, rfl⟩
theorem dL_law_1754 : dc cL_law 1754 (.invokevirtual 213) 3 1757 := ⟨by decide +kernel, rfl⟩
theorem dL_law_1757 : dc cL_law 1757 (.if_icmp .eq 278) 3 1760 := ⟨by decide +kernel, rfl⟩
theorem dL_law_1760 : dc cL_law 1760 (.iconst 0) 1 1761 := ⟨by decide +kernel, rfl⟩
theorem dL_law_1761 : dc cL_law 1761 (.ireturn) 1 1762 := ⟨by decide +kernel, rfl⟩
theorem dL_law_1762 : dc cL_law 1762 (.aload_n 1) 1 1763 := ⟨by decide +kernel, rfl⟩
theorem dL_law_1763 : dc cL_law 1763 (.aload_n 0) 1 1764 := ⟨by decide +kernel, rfl⟩
theorem dL_law_1764 : dc cL_law 1764 (.iload_n 3) 1 1765 := ⟨by decide +kernel, rfl⟩
theorem dL_law_1765 : dc cL_law 1765 (.iconst 1) 1 1766 := ⟨by decide +kernel, rfl⟩
theorem dL_law_1766 : dc cL_law 1766 (.iadd) 1 1767 := ⟨by decide +kernel, rfl⟩
theorem dL_law_1767 : dc cL_law 1767 (.iaload) 1 1768 := ⟨by decide +kernel, rfl⟩
theorem dL_law_1768 : dc cL_law 1768 (.invokevirtual 214) 3 1771 := ⟨by decide +kernel, rfl⟩
theorem dL_law_1771 : dc cL_law 1771 (.aload_n 2) 1 1772 := ⟨by decide +kernel, rfl⟩
theorem dL_law_1772 : dc cL_law 1772 (.aload_n 0) 1 1773 := ⟨by decide +kernel, rfl⟩
theorem dL_law_1773 : dc cL_law 1773 (.iload_n 3) 1 1774 := ⟨by decide +kernel, rfl⟩
theorem dL_law_1774 : dc cL_law 1774 (.iconst 1) 1 1775 := ⟨by decide +kernel, rfl⟩
theorem dL_law_1775 : dc cL_law 1775 (.iadd) 1 1776 := ⟨by decide +kernel, rfl⟩
theorem dL_law_1776 : dc cL_law 1776 (.iaload) 1 1777 := ⟨by decide +kernel, rfl⟩
theorem dL_law_1777 : dc cL_law 1777 (.invokevirtual 217) 3 1780 := ⟨by decide +kernel, rfl⟩
theorem dL_law_1780 : dc cL_law 1780 (.if_icmp .eq 255) 3 1783 := ⟨by decide +kernel, rfl⟩
theorem dL_law_1783 : dc cL_law 1783 (.iconst 0) 1 1784 := ⟨by decide +kernel, rfl⟩
theorem dL_law_1784 : dc cL_law 1784 (.ireturn) 1 1785 := ⟨by decide +kernel, rfl⟩
theorem dL_law_1785 : dc cL_law 1785 (.aload_n 1) 1 1786 := ⟨by decide +kernel, rfl⟩
theorem dL_law_1786 : dc cL_law 1786 (.aload_n 0) 1 1787 := ⟨by decide +kernel, rfl⟩
theorem dL_law_1787 : dc cL_law 1787 (.iload_n 3) 1 1788 := ⟨by decide +kernel, rfl⟩
theorem dL_law_1788 : dc cL_law 1788 (.iconst 1) 1 1789 := ⟨by decide +kernel, rfl⟩
theorem dL_law_1789 : dc cL_law 1789 (.iadd) 1 1790 := ⟨by decide +kernel, rfl⟩
theorem dL_law_1790 : dc cL_law 1790 (.iaload) 1 1791 := ⟨by decide +kernel, rfl⟩
theorem dL_law_1791 : dc cL_law 1791 (.aload_n 0) 1 1792 := ⟨by decide +kernel, rfl⟩
theorem dL_law_1792 : dc cL_law 1792 (.iload_n 3) 1 1793 := ⟨by decide +kernel, rfl⟩
theorem dL_law_1793 : dc cL_law 1793 (.iconst 2) 1 1794 := ⟨by decide +kernel, rfl⟩
theorem dL_law_1794 : dc cL_law 1794 (.iadd) 1 1795 := ⟨by decide +kernel, rfl⟩
theorem dL_law_1795 : dc cL_law 1795 (.iaload) 1 1796 := ⟨by decide +kernel, rfl⟩
theorem dL_law_1796 : dc cL_law 1796 (.invokevirtual 218) 3 1799 := ⟨by decide +kernel, rfl⟩
theorem dL_law_1799 : dc cL_law 1799 (.aload_n 2) 1 1800 := ⟨by decide +kernel, rfl⟩
theorem dL_law_1800 : dc cL_law 1800 (.aload_n 0) 1 1801 := ⟨by decide +kernel, rfl⟩
theorem dL_law_1801 : dc cL_law 1801 (.iload_n 3) 1 1802 := ⟨by decide +kernel, rfl⟩
theorem dL_law_1802 : dc cL_law 1802 (.iconst 1) 1 1803 := ⟨by decide +kernel, rfl⟩
theorem dL_law_1803 : dc cL_law 1803 (.iadd) 1 1804 := ⟨by decide +kernel, rfl⟩
theorem dL_law_1804 : dc cL_law 1804 (.iaload) 1 1805 := ⟨by decide +kernel, rfl⟩
theorem dL_law_1805 : dc cL_law 1805 (.aload_n 0) 1 1806 := ⟨by decide +kernel, rfl⟩
theorem dL_law_1806 : dc cL_law 1806 (.iload_n 3) 1 1807 := ⟨by decide +kernel, rfl⟩
theorem dL_law_1807 : dc cL_law 1807 (.iconst 2) 1 1808 := ⟨by decide +kernel, rfl⟩
theorem dL_law_1808 : dc cL_law 1808 (.iadd) 1 1809 := ⟨by decide +kernel, rfl⟩
theorem dL_law_1809 : dc cL_law 1809 (.iaload) 1 1810 := ⟨by decide +kernel, rfl⟩
theorem dL_law_1810 : dc cL_law 1810 (.invokevirtual 221) 3 1813 := ⟨by decide +kernel, rfl⟩
theorem dL_law_1813 : dc cL_law 1813 (.if_icmp .eq 222) 3 1816 := ⟨by decide +kernel, rfl⟩
theorem dL_law_1816 : dc cL_law 1816 (.iconst 0) 1 1817 := ⟨by decide +kernel, rfl⟩
theorem dL_law_1817 : dc cL_law 1817 (.ireturn) 1 1818 := ⟨by decide +kernel, rfl⟩
theorem dL_law_1818 : dc cL_law 1818 (.aload_n 1) 1 1819 := ⟨by decide +kernel, rfl⟩
theorem dL_law_1819 : dc cL_law 1819 (.aload_n 0) 1 1820 := ⟨by decide +kernel, rfl⟩
theorem dL_law_1820 : dc cL_law 1820 (.iload_n 3) 1 1821 := ⟨by decide +kernel, rfl⟩
theorem dL_law_1821 : dc cL_law 1821 (.iconst 1) 1 1822 := ⟨by decide +kernel, rfl⟩
theorem dL_law_1822 : dc cL_law 1822 (.iadd) 1 1823 := ⟨by decide +kernel, rfl⟩
theorem dL_law_1823 : dc cL_law 1823 (.iaload) 1 1824 := ⟨by decide +kernel, rfl⟩
theorem dL_law_1824 : dc cL_law 1824 (.invokevirtual 222) 3 1827 := ⟨by decide +kernel, rfl⟩
theorem dL_law_1827 : dc cL_law 1827 (.aload_n 2) 1 1828 := ⟨by decide +kernel, rfl⟩
theorem dL_law_1828 : dc cL_law 1828 (.aload_n 0) 1 1829 := ⟨by decide +kernel, rfl⟩
theorem dL_law_1829 : dc cL_law 1829 (.iload_n 3) 1 1830 := ⟨by decide +kernel, rfl⟩
theorem dL_law_1830 : dc cL_law 1830 (.iconst 1) 1 1831 := ⟨by decide +kernel, rfl⟩
theorem dL_law_1831 : dc cL_law 1831 (.iadd) 1 1832 := ⟨by decide +kernel, rfl⟩
theorem dL_law_1832 : dc cL_law 1832 (.iaload) 1 1833 := ⟨by decide +kernel, rfl⟩
theorem dL_law_1833 : dc cL_law 1833 (.invokevirtual 225) 3 1836 := ⟨by decide +kernel, rfl⟩
theorem dL_law_1836 : dc cL_law 1836 (.if_icmp .eq 199) 3 1839 := ⟨by decide +kernel, rfl⟩
theorem dL_law_1839 : dc cL_law 1839 (.iconst 0) 1 1840 := ⟨by decide +kernel, rfl⟩
theorem dL_law_1840 : dc cL_law 1840 (.ireturn) 1 1841 := ⟨by decide +kernel, rfl⟩
theorem dL_law_1841 : dc cL_law 1841 (.aload_n 1) 1 1842 := ⟨by decide +kernel, rfl⟩
theorem dL_law_1842 : dc cL_law 1842 (.aload_n 0) 1 1843 := ⟨by decide +kernel, rfl⟩
theorem dL_law_1843 : dc cL_law 1843 (.iload_n 3) 1 1844 := ⟨by decide +kernel, rfl⟩
theorem dL_law_1844 : dc cL_law 1844 (.iconst 1) 1 1845 := ⟨by decide +kernel, rfl⟩
theorem dL_law_1845 : dc cL_law 1845 (.iadd) 1 1846 := ⟨by decide +kernel, rfl⟩
theorem dL_law_1846 : dc cL_law 1846 (.iaload) 1 1847 := ⟨by decide +kernel, rfl⟩
theorem dL_law_1847 : dc cL_law 1847 (.aload_n 0) 1 1848 := ⟨by decide +kernel, rfl⟩
theorem dL_law_1848 : dc cL_law 1848 (.iload_n 3) 1 1849 := ⟨by decide +kernel, rfl⟩
theorem dL_law_1849 : dc cL_law 1849 (.iconst 2) 1 1850 := ⟨by decide +kernel, rfl⟩
theorem dL_law_1850 : dc cL_law 1850 (.iadd) 1 1851 := ⟨by decide +kernel, rfl⟩
theorem dL_law_1851 : dc cL_law 1851 (.iaload) 1 1852 := ⟨by decide +kernel, rfl⟩
theorem dL_law_1852 : dc cL_law 1852 (.aload_n 0) 1 1853 := ⟨by decide +kernel, rfl⟩
theorem dL_law_1853 : dc cL_law 1853 (.iload_n 3) 1 1854 := ⟨by decide +kernel, rfl⟩
theorem dL_law_1854 : dc cL_law 1854 (.iconst 3) 1 1855 := ⟨by decide +kernel, rfl⟩
theorem dL_law_1855 : dc cL_law 1855 (.iadd) 1 1856 := ⟨by decide +kernel, rfl⟩
theorem dL_law_1856 : dc cL_law 1856 (.iaload) 1 1857 := ⟨by decide +kernel, rfl⟩
theorem dL_law_1857 : dc cL_law 1857 (.invokevirtual 226) 3 1860 := ⟨by decide +kernel, rfl⟩
theorem dL_law_1860 : dc cL_law 1860 (.aload_n 2) 1 1861 := ⟨by decide +kernel, rfl⟩
theorem dL_law_1861 : dc cL_law 1861 (.aload_n 0) 1 1862 := ⟨by decide +kernel, rfl⟩
theorem dL_law_1862 : dc cL_law 1862 (.iload_n 3) 1 1863 := ⟨by decide +kernel, rfl⟩
theorem dL_law_1863 : dc cL_law 1863 (.iconst 1) 1 1864 := ⟨by decide +kernel, rfl⟩
theorem dL_law_1864 : dc cL_law 1864 (.iadd) 1 1865 := ⟨by decide +kernel, rfl⟩
theorem dL_law_1865 : dc cL_law 1865 (.iaload) 1 1866 := ⟨by decide +kernel, rfl⟩
theorem dL_law_1866 : dc cL_law 1866 (.aload_n 0) 1 1867 := ⟨by decide +kernel, rfl⟩
theorem dL_law_1867 : dc cL_law 1867 (.iload_n 3) 1 1868 := ⟨by decide +kernel, rfl⟩
theorem dL_law_1868 : dc cL_law 1868 (.iconst 2) 1 1869 := ⟨by decide +kernel, rfl⟩
theorem dL_law_1869 : dc cL_law 1869 (.iadd) 1 1870 := ⟨by decide +kernel, rfl⟩
theorem dL_law_1870 : dc cL_law 1870 (.iaload) 1 1871 := ⟨by decide +kernel, rfl⟩
theorem dL_law_1871 : dc cL_law 1871 (.aload_n 0) 1 1872 := ⟨by decide +kernel, rfl⟩
theorem dL_law_1872 : dc cL_law 1872 (.iload_n 3) 1 1873 := ⟨by decide +kernel, rfl⟩
theorem dL_law_1873 : dc cL_law 1873 (.iconst 3) 1 1874 := ⟨by decide +kernel, rfl⟩
theorem dL_law_1874 : dc cL_law 1874 (.iadd) 1 1875 := ⟨by decide +kernel, rfl⟩
theorem dL_law_1875 : dc cL_law 1875 (.iaload) 1 1876 := ⟨by decide +kernel, rfl⟩
theorem dL_law_1876 : dc cL_law 1876 (.invokevirtual 229) 3 1879 := ⟨by decide +kernel, rfl⟩
theorem dL_law_1879 : dc cL_law 1879 (.if_icmp .eq 156) 3 1882 := ⟨by decide +kernel, rfl⟩
theorem dL_law_1882 : dc cL_law 1882 (.iconst 0) 1 1883 := ⟨by decide +kernel, rfl⟩
theorem dL_law_1883 : dc cL_law 1883 (.ireturn) 1 1884 := ⟨by decide +kernel, rfl⟩
theorem dL_law_1884 : dc cL_law 1884 (.aload_n 1) 1 1885 := ⟨by decide +kernel, rfl⟩
theorem dL_law_1885 : dc cL_law 1885 (.aload_n 0) 1 1886 := ⟨by decide +kernel, rfl⟩
theorem dL_law_1886 : dc cL_law 1886 (.iload_n 3) 1 1887 := ⟨by decide +kernel, rfl⟩
theorem dL_law_1887 : dc cL_law 1887 (.iconst 1) 1 1888 := ⟨by decide +kernel, rfl⟩
theorem dL_law_1888 : dc cL_law 1888 (.iadd) 1 1889 := ⟨by decide +kernel, rfl⟩
theorem dL_law_1889 : dc cL_law 1889 (.iaload) 1 1890 := ⟨by decide +kernel, rfl⟩
theorem dL_law_1890 : dc cL_law 1890 (.invokevirtual 230) 3 1893 := ⟨by decide +kernel, rfl⟩
theorem dL_law_1893 : dc cL_law 1893 (.aload_n 2) 1 1894 := ⟨by decide +kernel, rfl⟩
theorem dL_law_1894 : dc cL_law 1894 (.aload_n 0) 1 1895 := ⟨by decide +kernel, rfl⟩
theorem dL_law_1895 : dc cL_law 1895 (.iload_n 3) 1 1896 := ⟨by decide +kernel, rfl⟩
theorem dL_law_1896 : dc cL_law 1896 (.iconst 1) 1 1897 := ⟨by decide +kernel, rfl⟩
theorem dL_law_1897 : dc cL_law 1897 (.iadd) 1 1898 := ⟨by decide +kernel, rfl⟩
theorem dL_law_1898 : dc cL_law 1898 (.iaload) 1 1899 := ⟨by decide +kernel, rfl⟩
theorem dL_law_1899 : dc cL_law 1899 (.invokevirtual 233) 3 1902 := ⟨by decide +kernel, rfl⟩
theorem dL_law_1902 : dc cL_law 1902 (.if_icmp .eq 133) 3 1905 := ⟨by decide +kernel, rfl⟩
theorem dL_law_1905 : dc cL_law 1905 (.iconst 0) 1 1906 := ⟨by decide +kernel, rfl⟩
theorem dL_law_1906 : dc cL_law 1906 (.ireturn) 1 1907 := ⟨by decide +kernel, rfl⟩
theorem dL_law_1907 : dc cL_law 1907 (.aload_n 1) 1 1908 := ⟨by decide +kernel, rfl⟩
theorem dL_law_1908 : dc cL_law 1908 (.aload_n 0) 1 1909 := ⟨by decide +kernel, rfl⟩
theorem dL_law_1909 : dc cL_law 1909 (.iload_n 3) 1 1910 := ⟨by decide +kernel, rfl⟩
theorem dL_law_1910 : dc cL_law 1910 (.iconst 1) 1 1911 := ⟨by decide +kernel, rfl⟩
theorem dL_law_1911 : dc cL_law 1911 (.iadd) 1 1912 := ⟨by decide +kernel, rfl⟩
theorem dL_law_1912 : dc cL_law 1912 (.iaload) 1 1913 := ⟨by decide +kernel, rfl⟩
theorem dL_law_1913 : dc cL_law 1913 (.invokevirtual 234) 3 1916 := ⟨by decide +kernel, rfl⟩
theorem dL_law_1916 : dc cL_law 1916 (.aload_n 2) 1 1917 := ⟨by decide +kernel, rfl⟩
theorem dL_law_1917 : dc cL_law 1917 (.aload_n 0) 1 1918 := ⟨by decide +kernel, rfl⟩
theorem dL_law_1918 : dc cL_law 1918 (.iload_n 3) 1 1919 := ⟨by decide +kernel, rfl⟩
theorem dL_law_1919 : dc cL_law 1919 (.iconst 1) 1 1920 := ⟨by decide +kernel, rfl⟩
theorem dL_law_1920 : dc cL_law 1920 (.iadd) 1 1921 := ⟨by decide +kernel, rfl⟩
theorem dL_law_1921 : dc cL_law 1921 (.iaload) 1 1922 := ⟨by decide +kernel, rfl⟩
theorem dL_law_1922 : dc cL_law 1922 (.invokevirtual 237) 3 1925 := ⟨by decide +kernel, rfl⟩
theorem dL_law_1925 : dc cL_law 1925 (.if_icmp .eq 110) 3 1928 := ⟨by decide +kernel, rfl⟩
theorem dL_law_1928 : dc cL_law 1928 (.iconst 0) 1 1929 := ⟨by decide +kernel, rfl⟩
theorem dL_law_1929 : dc cL_law 1929 (.ireturn) 1 1930 := ⟨by decide +kernel, rfl⟩
theorem dL_law_1930 : dc cL_law 1930 (.aload_n 1) 1 1931 := ⟨by decide +kernel, rfl⟩
theorem dL_law_1931 : dc cL_law 1931 (.aload_n 0) 1 1932 := ⟨by decide +kernel, rfl⟩
theorem dL_law_1932 : dc cL_law 1932 (.iload_n 3) 1 1933 := ⟨by decide +kernel, rfl⟩
theorem dL_law_1933 : dc cL_law 1933 (.iconst 1) 1 1934 := ⟨by decide +kernel, rfl⟩
theorem dL_law_1934 : dc cL_law 1934 (.iadd) 1 1935 := ⟨by decide +kernel, rfl⟩
theorem dL_law_1935 : dc cL_law 1935 (.iaload) 1 1936 := ⟨by decide +kernel, rfl⟩
theorem dL_law_1936 : dc cL_law 1936 (.invokevirtual 238) 3 1939 := ⟨by decide +kernel, rfl⟩
theorem dL_law_1939 : dc cL_law 1939 (.aload_n 2) 1 1940 := ⟨by decide +kernel, rfl⟩
theorem dL_law_1940 : dc cL_law 1940 (.aload_n 0) 1 1941 := ⟨by decide +kernel, rfl⟩
theorem dL_law_1941 : dc cL_law 1941 (.iload_n 3) 1 1942 := ⟨by decide +kernel, rfl⟩
theorem dL_law_1942 : dc cL_law 1942 (.iconst 1) 1 1943 := ⟨by decide +kernel, rfl⟩
theorem dL_law_1943 : dc cL_law 1943 (.iadd) 1 1944 := ⟨by decide +kernel, rfl⟩
theorem dL_law_1944 : dc cL_law 1944 (.iaload) 1 1945 := ⟨by decide +kernel, rfl⟩
theorem dL_law_1945 : dc cL_law 1945 (.invokevirtual 241) 3 1948 := ⟨by decide +kernel, rfl⟩
theorem dL_law_1948 : dc cL_law 1948 (.if_icmp .eq 87) 3 1951 := ⟨by decide +kernel, rfl⟩
theorem dL_law_1951 : dc cL_law 1951 (.iconst 0) 1 1952 := ⟨by decide +kernel, rfl⟩
theorem dL_law_1952 : dc cL_law 1952 (.ireturn) 1 1953 := ⟨by decide +kernel, rfl⟩
theorem dL_law_1953 : dc cL_law 1953 (.aload_n 1) 1 1954 := ⟨by decide +kernel, rfl⟩
theorem dL_law_1954 : dc cL_law 1954 (.aload_n 0) 1 1955 := ⟨by decide +kernel, rfl⟩
theorem dL_law_1955 : dc cL_law 1955 (.iload_n 3) 1 1956 := ⟨by decide +kernel, rfl⟩
theorem dL_law_1956 : dc cL_law 1956 (.iconst 1) 1 1957 := ⟨by decide +kernel, rfl⟩
theorem dL_law_1957 : dc cL_law 1957 (.iadd) 1 1958 := ⟨by decide +kernel, rfl⟩
theorem dL_law_1958 : dc cL_law 1958 (.iaload) 1 1959 := ⟨by decide +kernel, rfl⟩
theorem dL_law_1959 : dc cL_law 1959 (.invokevirtual 242) 3 1962 := ⟨by decide +kernel, rfl⟩
theorem dL_law_1962 : dc cL_law 1962 (.aload_n 2) 1 1963 := ⟨by decide +kernel, rfl⟩
theorem dL_law_1963 : dc cL_law 1963 (.aload_n 0) 1 1964 := ⟨by decide +kernel, rfl⟩
theorem dL_law_1964 : dc cL_law 1964 (.iload_n 3) 1 1965 := ⟨by decide +kernel, rfl⟩
theorem dL_law_1965 : dc cL_law 1965 (.iconst 1) 1 1966 := ⟨by decide +kernel, rfl⟩
theorem dL_law_1966 : dc cL_law 1966 (.iadd) 1 1967 := ⟨by decide +kernel, rfl⟩
theorem dL_law_1967 : dc cL_law 1967 (.iaload) 1 1968 := ⟨by decide +kernel, rfl⟩
theorem dL_law_1968 : dc cL_law 1968 (.invokevirtual 245) 3 1971 := ⟨by decide +kernel, rfl⟩
theorem dL_law_1971 : dc cL_law 1971 (.if_icmp .eq 64) 3 1974 := ⟨by decide +kernel, rfl⟩
theorem dL_law_1974 : dc cL_law 1974 (.iconst 0) 1 1975 := ⟨by decide +kernel, rfl⟩
theorem dL_law_1975 : dc cL_law 1975 (.ireturn) 1 1976 := ⟨by decide +kernel, rfl⟩
theorem dL_law_1976 : dc cL_law 1976 (.aload_n 1) 1 1977 := ⟨by decide +kernel, rfl⟩
theorem dL_law_1977 : dc cL_law 1977 (.aload_n 0) 1 1978 := ⟨by decide +kernel, rfl⟩
theorem dL_law_1978 : dc cL_law 1978 (.iload_n 3) 1 1979 := ⟨by decide +kernel, rfl⟩
theorem dL_law_1979 : dc cL_law 1979 (.iconst 1) 1 1980 := ⟨by decide +kernel, rfl⟩
theorem dL_law_1980 : dc cL_law 1980 (.iadd) 1 1981 := ⟨by decide +kernel, rfl⟩
theorem dL_law_1981 : dc cL_law 1981 (.iaload) 1 1982 := ⟨by decide +kernel, rfl⟩
theorem dL_law_1982 : dc cL_law 1982 (.aload_n 0) 1 1983 := ⟨by decide +kernel, rfl⟩
theorem dL_law_1983 : dc cL_law 1983 (.iload_n 3) 1 1984 := ⟨by decide +kernel, rfl⟩
theorem dL_law_1984 : dc cL_law 1984 (.iconst 2) 1 1985 := ⟨by decide +kernel, rfl⟩
theorem dL_law_1985 : dc cL_law 1985 (.iadd) 1 1986 := ⟨by decide +kernel, rfl⟩
theorem dL_law_1986 : dc cL_law 1986 (.iaload) 1 1987 := ⟨by decide +kernel, rfl⟩
theorem dL_law_1987 : dc cL_law 1987 (.invokevirtual 246) 3 1990 := ⟨by decide +kernel, rfl⟩
theorem dL_law_1990 : dc cL_law 1990 (.aload_n 2) 1 1991 := ⟨by decide +kernel, rfl⟩
theorem dL_law_1991 : dc cL_law 1991 (.aload_n 0) 1 1992 := ⟨by decide +kernel, rfl⟩
theorem dL_law_1992 : dc cL_law 1992 (.iload_n 3) 1 1993 := ⟨by decide +kernel, rfl⟩
theorem dL_law_1993 : dc cL_law 1993 (.iconst 1) 1 1994 := ⟨by decide +kernel, rfl⟩
theorem dL_law_1994 : dc cL_law 1994 (.iadd) 1 1995 := ⟨by decide +kernel, rfl⟩
theorem dL_law_1995 : dc cL_law 1995 (.iaload) 1 1996 := ⟨by decide +kernel, rfl⟩
theorem dL_law_1996 : dc cL_law 1996 (.aload_n 0) 1 1997 := ⟨by decide +kernel, rfl⟩
theorem dL_law_1997 : dc cL_law 1997 (.iload_n 3) 1 1998 := ⟨by decide +kernel, rfl⟩
theorem dL_law_1998 : dc cL_law 1998 (.iconst 2) 1 1999 := ⟨by decide +kernel, rfl⟩
theorem dL_law_1999 : dc cL_law 1999 (.iadd) 1 2000 := ⟨by decide +kernel, rfl⟩
theorem dL_law_2000 : dc cL_law 2000 (.iaload) 1 2001 := ⟨by decide +kernel, rfl⟩
theorem dL_law_2001 : dc cL_law 2001 (.invokevirtual 249) 3 2004 := ⟨by decide +kernel, rfl⟩
theorem dL_law_2004 : dc cL_law 2004 (.if_icmp .eq 31) 3 2007 := ⟨by decide +kernel, rfl⟩
theorem dL_law_2007 : dc cL_law 2007 (.iconst 0) 1 2008 := ⟨by decide +kernel, rfl⟩
theorem dL_law_2008 : dc cL_law 2008 (.ireturn) 1 2009 := ⟨by decide +kernel, rfl⟩
theorem dL_law_2009 : dc cL_law 2009 (.aload_n 1) 1 2010 := ⟨by decide +kernel, rfl⟩
theorem dL_law_2010 : dc cL_law 2010 (.invokevirtual 250) 3 2013 := ⟨by decide +kernel, rfl⟩
theorem dL_law_2013 : dc cL_law 2013 (.aload_n 2) 1 2014 := ⟨by decide +kernel, rfl⟩
theorem dL_law_2014 : dc cL_law 2014 (.invokevirtual 253) 3 2017 := ⟨by decide +kernel, rfl⟩
theorem dL_law_2017 : dc cL_law 2017 (.if_icmp .eq 18) 3 2020 := ⟨by decide +kernel, rfl⟩
theorem dL_law_2020 : dc cL_law 2020 (.iconst 0) 1 2021 := ⟨by decide +kernel, rfl⟩
theorem dL_law_2021 : dc cL_law 2021 (.ireturn) 1 2022 := ⟨by decide +kernel, rfl⟩
theorem dL_law_2022 : dc cL_law 2022 (.aload_n 1) 1 2023 := ⟨by decide +kernel, rfl⟩
theorem dL_law_2023 : dc cL_law 2023 (.invokevirtual 254) 3 2026 := ⟨by decide +kernel, rfl⟩
theorem dL_law_2026 : dc cL_law 2026 (.aload_n 2) 1 2027 := ⟨by decide +kernel, rfl⟩
theorem dL_law_2027 : dc cL_law 2027 (.invokevirtual 257) 3 2030 := ⟨by decide +kernel, rfl⟩
theorem dL_law_2030 : dc cL_law 2030 (.if_icmp .eq 5) 3 2033 := ⟨by decide +kernel, rfl⟩
theorem dL_law_2033 : dc cL_law 2033 (.iconst 0) 1 2034 := ⟨by decide +kernel, rfl⟩
theorem dL_law_2034 : dc cL_law 2034 (.ireturn) 1 2035 := ⟨by decide +kernel, rfl⟩
theorem dL_law_2035 : dc cL_law 2035 (.iinc 3 6) 3 2038 := ⟨by decide +kernel, rfl⟩
theorem dL_law_2038 : dc cL_law 2038 (.goto (-2020)) 3 2041 := ⟨by decide +kernel, rfl⟩
theorem dL_law_2041 : dc cL_law 2041 (.iconst 1) 1 2042 := ⟨by decide +kernel, rfl⟩
theorem dL_law_2042 : dc cL_law 2042 (.ireturn) 1 2043 := ⟨by decide +kernel, rfl⟩
set_option maxRecDepth 100000 in
set_option maxHeartbeats 4000000 in
theorem s_L_law_18 {ad : Nat → Nat} {cy : Nat → ClassId} {x : KX} (G : KG ad cy x cL_law "NoonGuidesLaw" 4 none 100) (Ln : Nat) (xs : Nat → Int32) {a1 : Nat} {a2 : Nat} {b : Nat} (GS : KS x b Ln xs) (GL : KLw x b) (h1 : kty a1 = 11) (h2 : kty a2 = 12) {o : KO} : ∀ (n : Nat) (w3 : Int32) (M : KM), lp_L_law_18 n Ln xs a1 a2 w3 M = some 1 → KV ad cy x o 18 [(0, .ref b), (1, .ref (ad a1)), (2, .ref (ad a2)), (3, .int w3)] [] M := by
  intro n
  induction n with
  | zero =>
    intro w3 M hf
    cases hf
  | succ n ih =>
    intro w3 M hf
    rw [lp_L_law_18] at hf
    refine v_iload_n G dL_law_18 3 rfl ?_
    refine v_aload_n G dL_law_19 0 rfl ?_
    refine v_slen G GS dL_law_20 ?_
    refine v_bipush (6 : Int32) G dL_law_21 (by decide) ?_
    refine v_isub G dL_law_23 ?_
    refine v_icmp_gt 2041 G dL_law_24 (by decide) (fun h435 => ?_) (fun h435 => ?_)
    · replace hf := (if_pos h435).symm.trans hf
      refine v_iconst (1 : Int32) G dL_law_2041 (by decide) ?_
      exact v_law1 (rest := []) G GL dL_law_2042
    · replace hf := (if_neg h435).symm.trans hf
      refine v_aload_n G dL_law_27 0 rfl ?_
      refine v_iload_n G dL_law_28 3 rfl ?_
      obtain ⟨g1, hf⟩ := gd_e hf
      refine v_sld G GS g1 dL_law_29 ?_
      refine v_bipush (63 : Int32) G dL_law_30 (by decide) ?_
      refine v_iand G dL_law_32 ?_
      refine v_nmi (fun v2 ev2 => ?_)
      replace hf := lt_e hf ev2
      obtain ⟨j2035, ej2035, hf⟩ := lt_j hf
      have hj2035 : ∀ (M3 : KM), j2035 M3 = some 1 → KV ad cy x o 2035 [(0, .ref b), (1, .ref (ad a1)), (2, .ref (ad a2)), (3, .int w3)] [] M3 := by
        intro M3 hf
        rw [ej2035] at hf
        obtain ⟨v4, ev4⟩ : ∃ q : Int32, q = w3 + (6 : Int32) := ⟨_, rfl⟩
        replace hf := lt_e hf ev4
        refine v_iinc v4 [(3, .int v4), (0, .ref b), (1, .ref (ad a1)), (2, .ref (ad a2))] G dL_law_2035 3 rfl (by rw [ev4]; rfl) (by decide) rfl ?_
        refine v_goto 18 G dL_law_2038 (by decide) ?_
        refine v_sub _ [1, 2, 3, 0] rfl ?_
        exact ih v4 M3 hf
      by_cases h8 : v2 = (0 : Int32)
      · replace hf := (if_pos h8).symm.trans hf
        refine v_tabIn (off := 243) 276 G dL_law_33 (by rw [h8]; decide) (by rw [h8]; decide) (by rw [h8]; rfl) (by decide) ?_
        refine v_aload_n G dL_law_276 1 rfl ?_
        obtain ⟨v5, hcv5⟩ : ∃ q, f_X11_status a1 M = q := ⟨_, rfl⟩
        replace hf := lt_e hf hcv5.symm
        refine v_callV [] G (c_X11_status h1 hcv5) h1 (by decide) rfl rfl rfl t_553 t_554 t_555 t_1 t_556 nm_X11_status (by decide) (by decide) rfl rfl (Nat.le_of_ble_eq_true rfl) dL_law_277 (kv_ri ?_)
        refine v_aload_n G dL_law_280 2 rfl ?_
        obtain ⟨v6, hcv6⟩ : ∃ q, f_X12_status a2 M = q := ⟨_, rfl⟩
        replace hf := lt_e hf hcv6.symm
        refine v_callV [] G (c_X12_status h2 hcv6) h2 (by decide) rfl rfl rfl t_1633 t_1634 t_1635 t_17 t_1636 nm_X12_status (by decide) (by decide) rfl rfl (Nat.le_of_ble_eq_true rfl) dL_law_281 (kv_ri ?_)
        refine v_icmp_eq 2035 G dL_law_284 (by decide) (fun h7 => ?_) (fun h7 => ?_)
        · replace hf := (if_pos h7).symm.trans hf
          refine v_sub _ [0, 1, 2, 3] rfl ?_
          exact hj2035 v6.2 hf
        · replace hf := (if_neg h7).symm.trans hf
          refine v_iconst (0 : Int32) G dL_law_287 (by decide) ?_
          exact absurd (Option.some.inj hf) (by decide)
      replace hf := (if_neg h8).symm.trans hf
      by_cases h12 : v2 = (1 : Int32)
      · replace hf := (if_pos h12).symm.trans hf
        refine v_tabIn (off := 256) 289 G dL_law_33 (by rw [h12]; decide) (by rw [h12]; decide) (by rw [h12]; rfl) (by decide) ?_
        refine v_aload_n G dL_law_289 1 rfl ?_
        obtain ⟨v9, hcv9⟩ : ∃ q, f_X11_top a1 M = q := ⟨_, rfl⟩
        replace hf := lt_e hf hcv9.symm
        refine v_callV [] G (c_X11_top h1 hcv9) h1 (by decide) rfl rfl rfl t_557 t_558 t_559 t_1 t_560 nm_X11_top (by decide) (by decide) rfl rfl (Nat.le_of_ble_eq_true rfl) dL_law_290 (kv_rl ?_)
        refine v_aload_n G dL_law_293 2 rfl ?_
        obtain ⟨v10, hcv10⟩ : ∃ q, f_X12_top a2 M = q := ⟨_, rfl⟩
        replace hf := lt_e hf hcv10.symm
        refine v_callV [] G (c_X12_top h2 hcv10) h2 (by decide) rfl rfl rfl t_1637 t_1638 t_1639 t_17 t_1640 nm_X12_top (by decide) (by decide) rfl rfl (Nat.le_of_ble_eq_true rfl) dL_law_294 (kv_rl ?_)
        refine v_lcmp G dL_law_297 ?_
        refine v_if_eq 2035 G dL_law_298 (by decide) (fun h11 => ?_) (fun h11 => ?_)
        · replace hf := (if_pos h11).symm.trans hf
          refine v_sub _ [0, 1, 2, 3] rfl ?_
          exact hj2035 v10.2 hf
        · replace hf := (if_neg h11).symm.trans hf
          refine v_iconst (0 : Int32) G dL_law_301 (by decide) ?_
          exact absurd (Option.some.inj hf) (by decide)
      replace hf := (if_neg h12).symm.trans hf
      by_cases h16 : v2 = (2 : Int32)
      · replace hf := (if_pos h16).symm.trans hf
        refine v_tabIn (off := 270) 303 G dL_law_33 (by rw [h16]; decide) (by rw [h16]; decide) (by rw [h16]; rfl) (by decide) ?_
        refine v_aload_n G dL_law_303 1 rfl ?_
        obtain ⟨v13, hcv13⟩ : ∃ q, f_X11_bottom a1 M = q := ⟨_, rfl⟩
        replace hf := lt_e hf hcv13.symm
        refine v_callV [] G (c_X11_bottom h1 hcv13) h1 (by decide) rfl rfl rfl t_561 t_562 t_563 t_1 t_564 nm_X11_bottom (by decide) (by decide) rfl rfl (Nat.le_of_ble_eq_true rfl) dL_law_304 (kv_rl ?_)
        refine v_aload_n G dL_law_307 2 rfl ?_
        obtain ⟨v14, hcv14⟩ : ∃ q, f_X12_bottom a2 M = q := ⟨_, rfl⟩
        replace hf := lt_e hf hcv14.symm
        refine v_callV [] G (c_X12_bottom h2 hcv14) h2 (by decide) rfl rfl rfl t_1641 t_1642 t_1643 t_17 t_1644 nm_X12_bottom (by decide) (by decide) rfl rfl (Nat.le_of_ble_eq_true rfl) dL_law_308 (kv_rl ?_)
        refine v_lcmp G dL_law_311 ?_
        refine v_if_eq 2035 G dL_law_312 (by decide) (fun h15 => ?_) (fun h15 => ?_)
        · replace hf := (if_pos h15).symm.trans hf
          refine v_sub _ [0, 1, 2, 3] rfl ?_
          exact hj2035 v14.2 hf
        · replace hf := (if_neg h15).symm.trans hf
          refine v_iconst (0 : Int32) G dL_law_315 (by decide) ?_
          exact absurd (Option.some.inj hf) (by decide)
      replace hf := (if_neg h16).symm.trans hf
      by_cases h26 : v2 = (3 : Int32)
      · replace hf := (if_pos h26).symm.trans hf
        refine v_tabIn (off := 284) 317 G dL_law_33 (by rw [h26]; decide) (by rw [h26]; decide) (by rw [h26]; rfl) (by decide) ?_
        refine v_aload_n G dL_law_317 1 rfl ?_
        refine v_aload_n G dL_law_318 0 rfl ?_
        refine v_iload_n G dL_law_319 3 rfl ?_
        refine v_iconst (1 : Int32) G dL_law_320 (by decide) ?_
        refine v_iadd G dL_law_321 ?_
        obtain ⟨g17, hf⟩ := gd_e hf
        refine v_sld G GS g17 dL_law_322 ?_
        refine v_aload_n G dL_law_323 0 rfl ?_
        refine v_iload_n G dL_law_324 3 rfl ?_
        refine v_iconst (2 : Int32) G dL_law_325 (by decide) ?_
        refine v_iadd G dL_law_326 ?_
        obtain ⟨g18, hf⟩ := gd_e hf
        refine v_sld G GS g18 dL_law_327 ?_
        refine v_aload_n G dL_law_328 0 rfl ?_
        refine v_iload_n G dL_law_329 3 rfl ?_
        refine v_iconst (3 : Int32) G dL_law_330 (by decide) ?_
        refine v_iadd G dL_law_331 ?_
        obtain ⟨g19, hf⟩ := gd_e hf
        refine v_sld G GS g19 dL_law_332 ?_
        obtain ⟨v20, hcv20, hf⟩ := bd_e hf
        refine v_callV [.int (xs ((w3 + (1 : Int32))).toNatClampNeg), .int (xs ((w3 + (2 : Int32))).toNatClampNeg), .int (xs ((w3 + (3 : Int32))).toNatClampNeg)] G (c_X11_tray n h1 hcv20) h1 (by decide) rfl rfl rfl t_565 t_566 t_567 t_1 t_568 nm_X11_tray (by decide) (by decide) rfl rfl (Nat.le_of_ble_eq_true rfl) dL_law_333 (kv_ri ?_)
        refine v_aload_n G dL_law_336 2 rfl ?_
        refine v_aload_n G dL_law_337 0 rfl ?_
        refine v_iload_n G dL_law_338 3 rfl ?_
        refine v_iconst (1 : Int32) G dL_law_339 (by decide) ?_
        refine v_iadd G dL_law_340 ?_
        obtain ⟨g21, hf⟩ := gd_e hf
        refine v_sld G GS g21 dL_law_341 ?_
        refine v_aload_n G dL_law_342 0 rfl ?_
        refine v_iload_n G dL_law_343 3 rfl ?_
        refine v_iconst (2 : Int32) G dL_law_344 (by decide) ?_
        refine v_iadd G dL_law_345 ?_
        obtain ⟨g22, hf⟩ := gd_e hf
        refine v_sld G GS g22 dL_law_346 ?_
        refine v_aload_n G dL_law_347 0 rfl ?_
        refine v_iload_n G dL_law_348 3 rfl ?_
        refine v_iconst (3 : Int32) G dL_law_349 (by decide) ?_
        refine v_iadd G dL_law_350 ?_
        obtain ⟨g23, hf⟩ := gd_e hf
        refine v_sld G GS g23 dL_law_351 ?_
        obtain ⟨v24, hcv24, hf⟩ := bd_e hf
        refine v_callV [.int (xs ((w3 + (1 : Int32))).toNatClampNeg), .int (xs ((w3 + (2 : Int32))).toNatClampNeg), .int (xs ((w3 + (3 : Int32))).toNatClampNeg)] G (c_X12_tray n h2 hcv24) h2 (by decide) rfl rfl rfl t_1645 t_1646 t_1647 t_17 t_1648 nm_X12_tray (by decide) (by decide) rfl rfl (Nat.le_of_ble_eq_true rfl) dL_law_352 (kv_ri ?_)
        refine v_icmp_eq 2035 G dL_law_355 (by decide) (fun h25 => ?_) (fun h25 => ?_)
        · replace hf := (if_pos h25).symm.trans hf
          refine v_sub _ [0, 1, 2, 3] rfl ?_
          exact hj2035 v24.2 hf
        · replace hf := (if_neg h25).symm.trans hf
          refine v_iconst (0 : Int32) G dL_law_358 (by decide) ?_
          exact absurd (Option.some.inj hf) (by decide)
      replace hf := (if_neg h26).symm.trans hf
      by_cases h38 : v2 = (4 : Int32)
      · replace hf := (if_pos h38).symm.trans hf
        refine v_tabIn (off := 327) 360 G dL_law_33 (by rw [h38]; decide) (by rw [h38]; decide) (by rw [h38]; rfl) (by decide) ?_
        refine v_aload_n G dL_law_360 1 rfl ?_
        refine v_aload_n G dL_law_361 0 rfl ?_
        refine v_iload_n G dL_law_362 3 rfl ?_
        refine v_iconst (1 : Int32) G dL_law_363 (by decide) ?_
        refine v_iadd G dL_law_364 ?_
        obtain ⟨g27, hf⟩ := gd_e hf
        refine v_sld G GS g27 dL_law_365 ?_
        refine v_aload_n G dL_law_366 0 rfl ?_
        refine v_iload_n G dL_law_367 3 rfl ?_
        refine v_iconst (2 : Int32) G dL_law_368 (by decide) ?_
        refine v_iadd G dL_law_369 ?_
        obtain ⟨g28, hf⟩ := gd_e hf
        refine v_sld G GS g28 dL_law_370 ?_
        refine v_aload_n G dL_law_371 0 rfl ?_
        refine v_iload_n G dL_law_372 3 rfl ?_
        refine v_iconst (3 : Int32) G dL_law_373 (by decide) ?_
        refine v_iadd G dL_law_374 ?_
        obtain ⟨g29, hf⟩ := gd_e hf
        refine v_sld G GS g29 dL_law_375 ?_
        refine v_i2l G dL_law_376 ?_
        refine v_bipush (32 : Int32) G dL_law_377 (by decide) ?_
        refine v_lshl G dL_law_379 ?_
        refine v_aload_n G dL_law_380 0 rfl ?_
        refine v_iload_n G dL_law_381 3 rfl ?_
        refine v_iconst (4 : Int32) G dL_law_382 (by decide) ?_
        refine v_iadd G dL_law_383 ?_
        obtain ⟨g30, hf⟩ := gd_e hf
        refine v_sld G GS g30 dL_law_384 ?_
        refine v_i2l G dL_law_385 ?_
        refine v_ldc2 G dL_law_386 t_2330 ?_
        refine v_land G dL_law_389 ?_
        refine v_lor G dL_law_390 ?_
        obtain ⟨v31, hcv31, hf⟩ := bd_e hf
        refine v_callV [.int (xs ((w3 + (1 : Int32))).toNatClampNeg), .int (xs ((w3 + (2 : Int32))).toNatClampNeg), .long ((((xs ((w3 + (3 : Int32))).toNatClampNeg)).toInt64 <<< (((32 : Int32)).toInt64 &&& 63)) ||| (((xs ((w3 + (4 : Int32))).toNatClampNeg)).toInt64 &&& (4294967295 : Int64)))] G (c_X11_write n h1 hcv31) h1 (by decide) rfl rfl rfl t_584 t_585 t_586 t_1 t_587 nm_X11_write (by decide) (by decide) rfl rfl (Nat.le_of_ble_eq_true rfl) dL_law_391 (kv_ri ?_)
        refine v_aload_n G dL_law_394 2 rfl ?_
        refine v_aload_n G dL_law_395 0 rfl ?_
        refine v_iload_n G dL_law_396 3 rfl ?_
        refine v_iconst (1 : Int32) G dL_law_397 (by decide) ?_
        refine v_iadd G dL_law_398 ?_
        obtain ⟨g32, hf⟩ := gd_e hf
        refine v_sld G GS g32 dL_law_399 ?_
        refine v_aload_n G dL_law_400 0 rfl ?_
        refine v_iload_n G dL_law_401 3 rfl ?_
        refine v_iconst (2 : Int32) G dL_law_402 (by decide) ?_
        refine v_iadd G dL_law_403 ?_
        obtain ⟨g33, hf⟩ := gd_e hf
        refine v_sld G GS g33 dL_law_404 ?_
        refine v_aload_n G dL_law_405 0 rfl ?_
        refine v_iload_n G dL_law_406 3 rfl ?_
        refine v_iconst (3 : Int32) G dL_law_407 (by decide) ?_
        refine v_iadd G dL_law_408 ?_
        obtain ⟨g34, hf⟩ := gd_e hf
        refine v_sld G GS g34 dL_law_409 ?_
        refine v_i2l G dL_law_410 ?_
        refine v_bipush (32 : Int32) G dL_law_411 (by decide) ?_
        refine v_lshl G dL_law_413 ?_
        refine v_aload_n G dL_law_414 0 rfl ?_
        refine v_iload_n G dL_law_415 3 rfl ?_
        refine v_iconst (4 : Int32) G dL_law_416 (by decide) ?_
        refine v_iadd G dL_law_417 ?_
        obtain ⟨g35, hf⟩ := gd_e hf
        refine v_sld G GS g35 dL_law_418 ?_
        refine v_i2l G dL_law_419 ?_
        refine v_ldc2 G dL_law_420 t_2330 ?_
        refine v_land G dL_law_423 ?_
        refine v_lor G dL_law_424 ?_
        obtain ⟨v36, hcv36, hf⟩ := bd_e hf
        refine v_callV [.int (xs ((w3 + (1 : Int32))).toNatClampNeg), .int (xs ((w3 + (2 : Int32))).toNatClampNeg), .long ((((xs ((w3 + (3 : Int32))).toNatClampNeg)).toInt64 <<< (((32 : Int32)).toInt64 &&& 63)) ||| (((xs ((w3 + (4 : Int32))).toNatClampNeg)).toInt64 &&& (4294967295 : Int64)))] G (c_X12_write n h2 hcv36) h2 (by decide) rfl rfl rfl t_1653 t_1654 t_1655 t_17 t_1656 nm_X12_write (by decide) (by decide) rfl rfl (Nat.le_of_ble_eq_true rfl) dL_law_425 (kv_ri ?_)
        refine v_icmp_eq 2035 G dL_law_428 (by decide) (fun h37 => ?_) (fun h37 => ?_)
        · replace hf := (if_pos h37).symm.trans hf
          refine v_sub _ [0, 1, 2, 3] rfl ?_
          exact hj2035 v36.2 hf
        · replace hf := (if_neg h37).symm.trans hf
          refine v_iconst (0 : Int32) G dL_law_431 (by decide) ?_
          exact absurd (Option.some.inj hf) (by decide)
      replace hf := (if_neg h38).symm.trans hf
      by_cases h46 : v2 = (5 : Int32)
      · replace hf := (if_pos h46).symm.trans hf
        refine v_tabIn (off := 400) 433 G dL_law_33 (by rw [h46]; decide) (by rw [h46]; decide) (by rw [h46]; rfl) (by decide) ?_
        refine v_aload_n G dL_law_433 1 rfl ?_
        refine v_aload_n G dL_law_434 0 rfl ?_
        refine v_iload_n G dL_law_435 3 rfl ?_
        refine v_iconst (1 : Int32) G dL_law_436 (by decide) ?_
        refine v_iadd G dL_law_437 ?_
        obtain ⟨g39, hf⟩ := gd_e hf
        refine v_sld G GS g39 dL_law_438 ?_
        refine v_aload_n G dL_law_439 0 rfl ?_
        refine v_iload_n G dL_law_440 3 rfl ?_
        refine v_iconst (2 : Int32) G dL_law_441 (by decide) ?_
        refine v_iadd G dL_law_442 ?_
        obtain ⟨g40, hf⟩ := gd_e hf
        refine v_sld G GS g40 dL_law_443 ?_
        obtain ⟨v41, hcv41, hf⟩ := bd_e hf
        refine v_callV [.int (xs ((w3 + (1 : Int32))).toNatClampNeg), .int (xs ((w3 + (2 : Int32))).toNatClampNeg)] G (c_X11_read n h1 hcv41) h1 (by decide) rfl rfl rfl t_608 t_609 t_610 t_1 t_611 nm_X11_read (by decide) (by decide) rfl rfl (Nat.le_of_ble_eq_true rfl) dL_law_444 (kv_rl ?_)
        refine v_aload_n G dL_law_447 2 rfl ?_
        refine v_aload_n G dL_law_448 0 rfl ?_
        refine v_iload_n G dL_law_449 3 rfl ?_
        refine v_iconst (1 : Int32) G dL_law_450 (by decide) ?_
        refine v_iadd G dL_law_451 ?_
        obtain ⟨g42, hf⟩ := gd_e hf
        refine v_sld G GS g42 dL_law_452 ?_
        refine v_aload_n G dL_law_453 0 rfl ?_
        refine v_iload_n G dL_law_454 3 rfl ?_
        refine v_iconst (2 : Int32) G dL_law_455 (by decide) ?_
        refine v_iadd G dL_law_456 ?_
        obtain ⟨g43, hf⟩ := gd_e hf
        refine v_sld G GS g43 dL_law_457 ?_
        obtain ⟨v44, hcv44, hf⟩ := bd_e hf
        refine v_callV [.int (xs ((w3 + (1 : Int32))).toNatClampNeg), .int (xs ((w3 + (2 : Int32))).toNatClampNeg)] G (c_X12_read n h2 hcv44) h2 (by decide) rfl rfl rfl t_1668 t_1669 t_1670 t_17 t_1671 nm_X12_read (by decide) (by decide) rfl rfl (Nat.le_of_ble_eq_true rfl) dL_law_458 (kv_rl ?_)
        refine v_lcmp G dL_law_461 ?_
        refine v_if_eq 2035 G dL_law_462 (by decide) (fun h45 => ?_) (fun h45 => ?_)
        · replace hf := (if_pos h45).symm.trans hf
          refine v_sub _ [0, 1, 2, 3] rfl ?_
          exact hj2035 v44.2 hf
        · replace hf := (if_neg h45).symm.trans hf
          refine v_iconst (0 : Int32) G dL_law_465 (by decide) ?_
          exact absurd (Option.some.inj hf) (by decide)
      replace hf := (if_neg h46).symm.trans hf
      by_cases h60 : v2 = (6 : Int32)
      · replace hf := (if_pos h60).symm.trans hf
        refine v_tabIn (off := 434) 467 G dL_law_33 (by rw [h60]; decide) (by rw [h60]; decide) (by rw [h60]; rfl) (by decide) ?_
        refine v_aload_n G dL_law_467 1 rfl ?_
        refine v_aload_n G dL_law_468 0 rfl ?_
        refine v_iload_n G dL_law_469 3 rfl ?_
        refine v_iconst (1 : Int32) G dL_law_470 (by decide) ?_
        refine v_iadd G dL_law_471 ?_
        obtain ⟨g47, hf⟩ := gd_e hf
        refine v_sld G GS g47 dL_law_472 ?_
        refine v_aload_n G dL_law_473 0 rfl ?_
        refine v_iload_n G dL_law_474 3 rfl ?_
        refine v_iconst (2 : Int32) G dL_law_475 (by decide) ?_
        refine v_iadd G dL_law_476 ?_
        obtain ⟨g48, hf⟩ := gd_e hf
        refine v_sld G GS g48 dL_law_477 ?_
        refine v_aload_n G dL_law_478 0 rfl ?_
        refine v_iload_n G dL_law_479 3 rfl ?_
        refine v_iconst (3 : Int32) G dL_law_480 (by decide) ?_
        refine v_iadd G dL_law_481 ?_
        obtain ⟨g49, hf⟩ := gd_e hf
        refine v_sld G GS g49 dL_law_482 ?_
        refine v_aload_n G dL_law_483 0 rfl ?_
        refine v_iload_n G dL_law_484 3 rfl ?_
        refine v_iconst (4 : Int32) G dL_law_485 (by decide) ?_
        refine v_iadd G dL_law_486 ?_
        obtain ⟨g50, hf⟩ := gd_e hf
        refine v_sld G GS g50 dL_law_487 ?_
        refine v_aload_n G dL_law_488 0 rfl ?_
        refine v_iload_n G dL_law_489 3 rfl ?_
        refine v_iconst (5 : Int32) G dL_law_490 (by decide) ?_
        refine v_iadd G dL_law_491 ?_
        obtain ⟨g51, hf⟩ := gd_e hf
        refine v_sld G GS g51 dL_law_492 ?_
        obtain ⟨v52, hcv52, hf⟩ := bd_e hf
        refine v_callV [.int (xs ((w3 + (1 : Int32))).toNatClampNeg), .int (xs ((w3 + (2 : Int32))).toNatClampNeg), .int (xs ((w3 + (3 : Int32))).toNatClampNeg), .int (xs ((w3 + (4 : Int32))).toNatClampNeg), .int (xs ((w3 + (5 : Int32))).toNatClampNeg)] G (c_X11_pour n h1 hcv52) h1 (by decide) rfl rfl rfl t_616 t_617 t_618 t_1 t_619 nm_X11_pour (by decide) (by decide) rfl rfl (Nat.le_of_ble_eq_true rfl) dL_law_493 (kv_ri ?_)
        refine v_aload_n G dL_law_496 2 rfl ?_
        refine v_aload_n G dL_law_497 0 rfl ?_
        refine v_iload_n G dL_law_498 3 rfl ?_
        refine v_iconst (1 : Int32) G dL_law_499 (by decide) ?_
        refine v_iadd G dL_law_500 ?_
        obtain ⟨g53, hf⟩ := gd_e hf
        refine v_sld G GS g53 dL_law_501 ?_
        refine v_aload_n G dL_law_502 0 rfl ?_
        refine v_iload_n G dL_law_503 3 rfl ?_
        refine v_iconst (2 : Int32) G dL_law_504 (by decide) ?_
        refine v_iadd G dL_law_505 ?_
        obtain ⟨g54, hf⟩ := gd_e hf
        refine v_sld G GS g54 dL_law_506 ?_
        refine v_aload_n G dL_law_507 0 rfl ?_
        refine v_iload_n G dL_law_508 3 rfl ?_
        refine v_iconst (3 : Int32) G dL_law_509 (by decide) ?_
        refine v_iadd G dL_law_510 ?_
        obtain ⟨g55, hf⟩ := gd_e hf
        refine v_sld G GS g55 dL_law_511 ?_
        refine v_aload_n G dL_law_512 0 rfl ?_
        refine v_iload_n G dL_law_513 3 rfl ?_
        refine v_iconst (4 : Int32) G dL_law_514 (by decide) ?_
        refine v_iadd G dL_law_515 ?_
        obtain ⟨g56, hf⟩ := gd_e hf
        refine v_sld G GS g56 dL_law_516 ?_
        refine v_aload_n G dL_law_517 0 rfl ?_
        refine v_iload_n G dL_law_518 3 rfl ?_
        refine v_iconst (5 : Int32) G dL_law_519 (by decide) ?_
        refine v_iadd G dL_law_520 ?_
        obtain ⟨g57, hf⟩ := gd_e hf
        refine v_sld G GS g57 dL_law_521 ?_
        obtain ⟨v58, hcv58, hf⟩ := bd_e hf
        refine v_callV [.int (xs ((w3 + (1 : Int32))).toNatClampNeg), .int (xs ((w3 + (2 : Int32))).toNatClampNeg), .int (xs ((w3 + (3 : Int32))).toNatClampNeg), .int (xs ((w3 + (4 : Int32))).toNatClampNeg), .int (xs ((w3 + (5 : Int32))).toNatClampNeg)] G (c_X12_pour n h2 hcv58) h2 (by decide) rfl rfl rfl t_1673 t_1674 t_1675 t_17 t_1676 nm_X12_pour (by decide) (by decide) rfl rfl (Nat.le_of_ble_eq_true rfl) dL_law_522 (kv_ri ?_)
        refine v_icmp_eq 2035 G dL_law_525 (by decide) (fun h59 => ?_) (fun h59 => ?_)
        · replace hf := (if_pos h59).symm.trans hf
          refine v_sub _ [0, 1, 2, 3] rfl ?_
          exact hj2035 v58.2 hf
        · replace hf := (if_neg h59).symm.trans hf
          refine v_iconst (0 : Int32) G dL_law_528 (by decide) ?_
          exact absurd (Option.some.inj hf) (by decide)
      replace hf := (if_neg h60).symm.trans hf
      by_cases h74 : v2 = (7 : Int32)
      · replace hf := (if_pos h74).symm.trans hf
        refine v_tabIn (off := 497) 530 G dL_law_33 (by rw [h74]; decide) (by rw [h74]; decide) (by rw [h74]; rfl) (by decide) ?_
        refine v_aload_n G dL_law_530 1 rfl ?_
        refine v_aload_n G dL_law_531 0 rfl ?_
        refine v_iload_n G dL_law_532 3 rfl ?_
        refine v_iconst (1 : Int32) G dL_law_533 (by decide) ?_
        refine v_iadd G dL_law_534 ?_
        obtain ⟨g61, hf⟩ := gd_e hf
        refine v_sld G GS g61 dL_law_535 ?_
        refine v_aload_n G dL_law_536 0 rfl ?_
        refine v_iload_n G dL_law_537 3 rfl ?_
        refine v_iconst (2 : Int32) G dL_law_538 (by decide) ?_
        refine v_iadd G dL_law_539 ?_
        obtain ⟨g62, hf⟩ := gd_e hf
        refine v_sld G GS g62 dL_law_540 ?_
        refine v_aload_n G dL_law_541 0 rfl ?_
        refine v_iload_n G dL_law_542 3 rfl ?_
        refine v_iconst (3 : Int32) G dL_law_543 (by decide) ?_
        refine v_iadd G dL_law_544 ?_
        obtain ⟨g63, hf⟩ := gd_e hf
        refine v_sld G GS g63 dL_law_545 ?_
        refine v_aload_n G dL_law_546 0 rfl ?_
        refine v_iload_n G dL_law_547 3 rfl ?_
        refine v_iconst (4 : Int32) G dL_law_548 (by decide) ?_
        refine v_iadd G dL_law_549 ?_
        obtain ⟨g64, hf⟩ := gd_e hf
        refine v_sld G GS g64 dL_law_550 ?_
        refine v_aload_n G dL_law_551 0 rfl ?_
        refine v_iload_n G dL_law_552 3 rfl ?_
        refine v_iconst (5 : Int32) G dL_law_553 (by decide) ?_
        refine v_iadd G dL_law_554 ?_
        obtain ⟨g65, hf⟩ := gd_e hf
        refine v_sld G GS g65 dL_law_555 ?_
        obtain ⟨v66, hcv66, hf⟩ := bd_e hf
        refine v_callV [.int (xs ((w3 + (1 : Int32))).toNatClampNeg), .int (xs ((w3 + (2 : Int32))).toNatClampNeg), .int (xs ((w3 + (3 : Int32))).toNatClampNeg), .int (xs ((w3 + (4 : Int32))).toNatClampNeg), .int (xs ((w3 + (5 : Int32))).toNatClampNeg)] G (c_X11_feed n h1 hcv66) h1 (by decide) rfl rfl rfl t_623 t_624 t_625 t_1 t_626 nm_X11_feed (by decide) (by decide) rfl rfl (Nat.le_of_ble_eq_true rfl) dL_law_556 (kv_ri ?_)
        refine v_aload_n G dL_law_559 2 rfl ?_
        refine v_aload_n G dL_law_560 0 rfl ?_
        refine v_iload_n G dL_law_561 3 rfl ?_
        refine v_iconst (1 : Int32) G dL_law_562 (by decide) ?_
        refine v_iadd G dL_law_563 ?_
        obtain ⟨g67, hf⟩ := gd_e hf
        refine v_sld G GS g67 dL_law_564 ?_
        refine v_aload_n G dL_law_565 0 rfl ?_
        refine v_iload_n G dL_law_566 3 rfl ?_
        refine v_iconst (2 : Int32) G dL_law_567 (by decide) ?_
        refine v_iadd G dL_law_568 ?_
        obtain ⟨g68, hf⟩ := gd_e hf
        refine v_sld G GS g68 dL_law_569 ?_
        refine v_aload_n G dL_law_570 0 rfl ?_
        refine v_iload_n G dL_law_571 3 rfl ?_
        refine v_iconst (3 : Int32) G dL_law_572 (by decide) ?_
        refine v_iadd G dL_law_573 ?_
        obtain ⟨g69, hf⟩ := gd_e hf
        refine v_sld G GS g69 dL_law_574 ?_
        refine v_aload_n G dL_law_575 0 rfl ?_
        refine v_iload_n G dL_law_576 3 rfl ?_
        refine v_iconst (4 : Int32) G dL_law_577 (by decide) ?_
        refine v_iadd G dL_law_578 ?_
        obtain ⟨g70, hf⟩ := gd_e hf
        refine v_sld G GS g70 dL_law_579 ?_
        refine v_aload_n G dL_law_580 0 rfl ?_
        refine v_iload_n G dL_law_581 3 rfl ?_
        refine v_iconst (5 : Int32) G dL_law_582 (by decide) ?_
        refine v_iadd G dL_law_583 ?_
        obtain ⟨g71, hf⟩ := gd_e hf
        refine v_sld G GS g71 dL_law_584 ?_
        obtain ⟨v72, hcv72, hf⟩ := bd_e hf
        refine v_callV [.int (xs ((w3 + (1 : Int32))).toNatClampNeg), .int (xs ((w3 + (2 : Int32))).toNatClampNeg), .int (xs ((w3 + (3 : Int32))).toNatClampNeg), .int (xs ((w3 + (4 : Int32))).toNatClampNeg), .int (xs ((w3 + (5 : Int32))).toNatClampNeg)] G (c_X12_feed n h2 hcv72) h2 (by decide) rfl rfl rfl t_1677 t_1678 t_1679 t_17 t_1680 nm_X12_feed (by decide) (by decide) rfl rfl (Nat.le_of_ble_eq_true rfl) dL_law_585 (kv_ri ?_)
        refine v_icmp_eq 2035 G dL_law_588 (by decide) (fun h73 => ?_) (fun h73 => ?_)
        · replace hf := (if_pos h73).symm.trans hf
          refine v_sub _ [0, 1, 2, 3] rfl ?_
          exact hj2035 v72.2 hf
        · replace hf := (if_neg h73).symm.trans hf
          refine v_iconst (0 : Int32) G dL_law_591 (by decide) ?_
          exact absurd (Option.some.inj hf) (by decide)
      replace hf := (if_neg h74).symm.trans hf
      by_cases h80 : v2 = (8 : Int32)
      · replace hf := (if_pos h80).symm.trans hf
        refine v_tabIn (off := 560) 593 G dL_law_33 (by rw [h80]; decide) (by rw [h80]; decide) (by rw [h80]; rfl) (by decide) ?_
        refine v_aload_n G dL_law_593 1 rfl ?_
        refine v_aload_n G dL_law_594 0 rfl ?_
        refine v_iload_n G dL_law_595 3 rfl ?_
        refine v_iconst (1 : Int32) G dL_law_596 (by decide) ?_
        refine v_iadd G dL_law_597 ?_
        obtain ⟨g75, hf⟩ := gd_e hf
        refine v_sld G GS g75 dL_law_598 ?_
        obtain ⟨v76, hcv76, hf⟩ := bd_e hf
        refine v_callV [.int (xs ((w3 + (1 : Int32))).toNatClampNeg)] G (c_X11_land n h1 hcv76) h1 (by decide) rfl rfl rfl t_631 t_632 t_633 t_1 t_634 nm_X11_land (by decide) (by decide) rfl rfl (Nat.le_of_ble_eq_true rfl) dL_law_599 (kv_ri ?_)
        refine v_aload_n G dL_law_602 2 rfl ?_
        refine v_aload_n G dL_law_603 0 rfl ?_
        refine v_iload_n G dL_law_604 3 rfl ?_
        refine v_iconst (1 : Int32) G dL_law_605 (by decide) ?_
        refine v_iadd G dL_law_606 ?_
        obtain ⟨g77, hf⟩ := gd_e hf
        refine v_sld G GS g77 dL_law_607 ?_
        obtain ⟨v78, hcv78, hf⟩ := bd_e hf
        refine v_callV [.int (xs ((w3 + (1 : Int32))).toNatClampNeg)] G (c_X12_land n h2 hcv78) h2 (by decide) rfl rfl rfl t_1689 t_1690 t_1691 t_17 t_1692 nm_X12_land (by decide) (by decide) rfl rfl (Nat.le_of_ble_eq_true rfl) dL_law_608 (kv_ri ?_)
        refine v_icmp_eq 2035 G dL_law_611 (by decide) (fun h79 => ?_) (fun h79 => ?_)
        · replace hf := (if_pos h79).symm.trans hf
          refine v_sub _ [0, 1, 2, 3] rfl ?_
          exact hj2035 v78.2 hf
        · replace hf := (if_neg h79).symm.trans hf
          refine v_iconst (0 : Int32) G dL_law_614 (by decide) ?_
          exact absurd (Option.some.inj hf) (by decide)
      replace hf := (if_neg h80).symm.trans hf
      by_cases h86 : v2 = (9 : Int32)
      · replace hf := (if_pos h86).symm.trans hf
        refine v_tabIn (off := 583) 616 G dL_law_33 (by rw [h86]; decide) (by rw [h86]; decide) (by rw [h86]; rfl) (by decide) ?_
        refine v_aload_n G dL_law_616 1 rfl ?_
        refine v_aload_n G dL_law_617 0 rfl ?_
        refine v_iload_n G dL_law_618 3 rfl ?_
        refine v_iconst (1 : Int32) G dL_law_619 (by decide) ?_
        refine v_iadd G dL_law_620 ?_
        obtain ⟨g81, hf⟩ := gd_e hf
        refine v_sld G GS g81 dL_law_621 ?_
        obtain ⟨v82, hcv82, hf⟩ := bd_e hf
        refine v_callV [.int (xs ((w3 + (1 : Int32))).toNatClampNeg)] G (c_X11_days n h1 hcv82) h1 (by decide) rfl rfl rfl t_850 t_851 t_852 t_1 t_853 nm_X11_days (by decide) (by decide) rfl rfl (Nat.le_of_ble_eq_true rfl) dL_law_622 (kv_ri ?_)
        refine v_aload_n G dL_law_625 2 rfl ?_
        refine v_aload_n G dL_law_626 0 rfl ?_
        refine v_iload_n G dL_law_627 3 rfl ?_
        refine v_iconst (1 : Int32) G dL_law_628 (by decide) ?_
        refine v_iadd G dL_law_629 ?_
        obtain ⟨g83, hf⟩ := gd_e hf
        refine v_sld G GS g83 dL_law_630 ?_
        obtain ⟨v84, hcv84, hf⟩ := bd_e hf
        refine v_callV [.int (xs ((w3 + (1 : Int32))).toNatClampNeg)] G (c_X12_days n h2 hcv84) h2 (by decide) rfl rfl rfl t_1897 t_1898 t_1899 t_17 t_1900 nm_X12_days (by decide) (by decide) rfl rfl (Nat.le_of_ble_eq_true rfl) dL_law_631 (kv_ri ?_)
        refine v_icmp_eq 2035 G dL_law_634 (by decide) (fun h85 => ?_) (fun h85 => ?_)
        · replace hf := (if_pos h85).symm.trans hf
          refine v_sub _ [0, 1, 2, 3] rfl ?_
          exact hj2035 v84.2 hf
        · replace hf := (if_neg h85).symm.trans hf
          refine v_iconst (0 : Int32) G dL_law_637 (by decide) ?_
          exact absurd (Option.some.inj hf) (by decide)
      replace hf := (if_neg h86).symm.trans hf
      by_cases h92 : v2 = (10 : Int32)
      · replace hf := (if_pos h92).symm.trans hf
        refine v_tabIn (off := 606) 639 G dL_law_33 (by rw [h92]; decide) (by rw [h92]; decide) (by rw [h92]; rfl) (by decide) ?_
        refine v_aload_n G dL_law_639 1 rfl ?_
        refine v_aload_n G dL_law_640 0 rfl ?_
        refine v_iload_n G dL_law_641 3 rfl ?_
        refine v_iconst (1 : Int32) G dL_law_642 (by decide) ?_
        refine v_iadd G dL_law_643 ?_
        obtain ⟨g87, hf⟩ := gd_e hf
        refine v_sld G GS g87 dL_law_644 ?_
        obtain ⟨v88, hcv88⟩ : ∃ q, f_X11_fault a1 (xs ((w3 + (1 : Int32))).toNatClampNeg) M = q := ⟨_, rfl⟩
        replace hf := lt_e hf hcv88.symm
        refine v_callV [.int (xs ((w3 + (1 : Int32))).toNatClampNeg)] G (c_X11_fault h1 hcv88) h1 (by decide) rfl rfl rfl t_945 t_946 t_947 t_1 t_948 nm_X11_fault (by decide) (by decide) rfl rfl (Nat.le_of_ble_eq_true rfl) dL_law_645 (kv_ri ?_)
        refine v_aload_n G dL_law_648 2 rfl ?_
        refine v_aload_n G dL_law_649 0 rfl ?_
        refine v_iload_n G dL_law_650 3 rfl ?_
        refine v_iconst (1 : Int32) G dL_law_651 (by decide) ?_
        refine v_iadd G dL_law_652 ?_
        obtain ⟨g89, hf⟩ := gd_e hf
        refine v_sld G GS g89 dL_law_653 ?_
        obtain ⟨v90, hcv90⟩ : ∃ q, f_X12_fault a2 (xs ((w3 + (1 : Int32))).toNatClampNeg) M = q := ⟨_, rfl⟩
        replace hf := lt_e hf hcv90.symm
        refine v_callV [.int (xs ((w3 + (1 : Int32))).toNatClampNeg)] G (c_X12_fault h2 hcv90) h2 (by decide) rfl rfl rfl t_1685 t_1686 t_1687 t_17 t_1688 nm_X12_fault (by decide) (by decide) rfl rfl (Nat.le_of_ble_eq_true rfl) dL_law_654 (kv_ri ?_)
        refine v_icmp_eq 2035 G dL_law_657 (by decide) (fun h91 => ?_) (fun h91 => ?_)
        · replace hf := (if_pos h91).symm.trans hf
          refine v_sub _ [0, 1, 2, 3] rfl ?_
          exact hj2035 v90.2 hf
        · replace hf := (if_neg h91).symm.trans hf
          refine v_iconst (0 : Int32) G dL_law_660 (by decide) ?_
          exact absurd (Option.some.inj hf) (by decide)
      replace hf := (if_neg h92).symm.trans hf
      by_cases h98 : v2 = (11 : Int32)
      · replace hf := (if_pos h98).symm.trans hf
        refine v_tabIn (off := 629) 662 G dL_law_33 (by rw [h98]; decide) (by rw [h98]; decide) (by rw [h98]; rfl) (by decide) ?_
        refine v_aload_n G dL_law_662 1 rfl ?_
        refine v_aload_n G dL_law_663 0 rfl ?_
        refine v_iload_n G dL_law_664 3 rfl ?_
        refine v_iconst (1 : Int32) G dL_law_665 (by decide) ?_
        refine v_iadd G dL_law_666 ?_
        obtain ⟨g93, hf⟩ := gd_e hf
        refine v_sld G GS g93 dL_law_667 ?_
        obtain ⟨v94, hcv94, hf⟩ := bd_e hf
        refine v_callV [.int (xs ((w3 + (1 : Int32))).toNatClampNeg)] G (c_X11_many n h1 hcv94) h1 (by decide) rfl rfl rfl t_949 t_950 t_951 t_1 t_952 nm_X11_many (by decide) (by decide) rfl rfl (Nat.le_of_ble_eq_true rfl) dL_law_668 (kv_ri ?_)
        refine v_aload_n G dL_law_671 2 rfl ?_
        refine v_aload_n G dL_law_672 0 rfl ?_
        refine v_iload_n G dL_law_673 3 rfl ?_
        refine v_iconst (1 : Int32) G dL_law_674 (by decide) ?_
        refine v_iadd G dL_law_675 ?_
        obtain ⟨g95, hf⟩ := gd_e hf
        refine v_sld G GS g95 dL_law_676 ?_
        obtain ⟨v96, hcv96, hf⟩ := bd_e hf
        refine v_callV [.int (xs ((w3 + (1 : Int32))).toNatClampNeg)] G (c_X12_many n h2 hcv96) h2 (by decide) rfl rfl rfl t_1921 t_1922 t_1923 t_17 t_1924 nm_X12_many (by decide) (by decide) rfl rfl (Nat.le_of_ble_eq_true rfl) dL_law_677 (kv_ri ?_)
        refine v_icmp_eq 2035 G dL_law_680 (by decide) (fun h97 => ?_) (fun h97 => ?_)
        · replace hf := (if_pos h97).symm.trans hf
          refine v_sub _ [0, 1, 2, 3] rfl ?_
          exact hj2035 v96.2 hf
        · replace hf := (if_neg h97).symm.trans hf
          refine v_iconst (0 : Int32) G dL_law_683 (by decide) ?_
          exact absurd (Option.some.inj hf) (by decide)
      replace hf := (if_neg h98).symm.trans hf
      by_cases h106 : v2 = (12 : Int32)
      · replace hf := (if_pos h106).symm.trans hf
        refine v_tabIn (off := 652) 685 G dL_law_33 (by rw [h106]; decide) (by rw [h106]; decide) (by rw [h106]; rfl) (by decide) ?_
        refine v_aload_n G dL_law_685 1 rfl ?_
        refine v_aload_n G dL_law_686 0 rfl ?_
        refine v_iload_n G dL_law_687 3 rfl ?_
        refine v_iconst (1 : Int32) G dL_law_688 (by decide) ?_
        refine v_iadd G dL_law_689 ?_
        obtain ⟨g99, hf⟩ := gd_e hf
        refine v_sld G GS g99 dL_law_690 ?_
        refine v_aload_n G dL_law_691 0 rfl ?_
        refine v_iload_n G dL_law_692 3 rfl ?_
        refine v_iconst (2 : Int32) G dL_law_693 (by decide) ?_
        refine v_iadd G dL_law_694 ?_
        obtain ⟨g100, hf⟩ := gd_e hf
        refine v_sld G GS g100 dL_law_695 ?_
        obtain ⟨v101, hcv101, hf⟩ := bd_e hf
        refine v_callV [.int (xs ((w3 + (1 : Int32))).toNatClampNeg), .int (xs ((w3 + (2 : Int32))).toNatClampNeg)] G (c_X11_road n h1 hcv101) h1 (by decide) rfl rfl rfl t_985 t_986 t_987 t_1 t_988 nm_X11_road (by decide) (by decide) rfl rfl (Nat.le_of_ble_eq_true rfl) dL_law_696 (kv_ri ?_)
        refine v_aload_n G dL_law_699 2 rfl ?_
        refine v_aload_n G dL_law_700 0 rfl ?_
        refine v_iload_n G dL_law_701 3 rfl ?_
        refine v_iconst (1 : Int32) G dL_law_702 (by decide) ?_
        refine v_iadd G dL_law_703 ?_
        obtain ⟨g102, hf⟩ := gd_e hf
        refine v_sld G GS g102 dL_law_704 ?_
        refine v_aload_n G dL_law_705 0 rfl ?_
        refine v_iload_n G dL_law_706 3 rfl ?_
        refine v_iconst (2 : Int32) G dL_law_707 (by decide) ?_
        refine v_iadd G dL_law_708 ?_
        obtain ⟨g103, hf⟩ := gd_e hf
        refine v_sld G GS g103 dL_law_709 ?_
        obtain ⟨v104, hcv104, hf⟩ := bd_e hf
        refine v_callV [.int (xs ((w3 + (1 : Int32))).toNatClampNeg), .int (xs ((w3 + (2 : Int32))).toNatClampNeg)] G (c_X12_road n h2 hcv104) h2 (by decide) rfl rfl rfl t_1946 t_1947 t_1948 t_17 t_1949 nm_X12_road (by decide) (by decide) rfl rfl (Nat.le_of_ble_eq_true rfl) dL_law_710 (kv_ri ?_)
        refine v_icmp_eq 2035 G dL_law_713 (by decide) (fun h105 => ?_) (fun h105 => ?_)
        · replace hf := (if_pos h105).symm.trans hf
          refine v_sub _ [0, 1, 2, 3] rfl ?_
          exact hj2035 v104.2 hf
        · replace hf := (if_neg h105).symm.trans hf
          refine v_iconst (0 : Int32) G dL_law_716 (by decide) ?_
          exact absurd (Option.some.inj hf) (by decide)
      replace hf := (if_neg h106).symm.trans hf
      by_cases h114 : v2 = (13 : Int32)
      · replace hf := (if_pos h114).symm.trans hf
        refine v_tabIn (off := 685) 718 G dL_law_33 (by rw [h114]; decide) (by rw [h114]; decide) (by rw [h114]; rfl) (by decide) ?_
        refine v_aload_n G dL_law_718 1 rfl ?_
        refine v_aload_n G dL_law_719 0 rfl ?_
        refine v_iload_n G dL_law_720 3 rfl ?_
        refine v_iconst (1 : Int32) G dL_law_721 (by decide) ?_
        refine v_iadd G dL_law_722 ?_
        obtain ⟨g107, hf⟩ := gd_e hf
        refine v_sld G GS g107 dL_law_723 ?_
        refine v_aload_n G dL_law_724 0 rfl ?_
        refine v_iload_n G dL_law_725 3 rfl ?_
        refine v_iconst (2 : Int32) G dL_law_726 (by decide) ?_
        refine v_iadd G dL_law_727 ?_
        obtain ⟨g108, hf⟩ := gd_e hf
        refine v_sld G GS g108 dL_law_728 ?_
        obtain ⟨v109, hcv109, hf⟩ := bd_e hf
        refine v_callV [.int (xs ((w3 + (1 : Int32))).toNatClampNeg), .int (xs ((w3 + (2 : Int32))).toNatClampNeg)] G (c_X11_roadOf n h1 hcv109) h1 (by decide) rfl rfl rfl t_993 t_994 t_995 t_1 t_996 nm_X11_roadOf (by decide) (by decide) rfl rfl (Nat.le_of_ble_eq_true rfl) dL_law_729 (kv_ri ?_)
        refine v_aload_n G dL_law_732 2 rfl ?_
        refine v_aload_n G dL_law_733 0 rfl ?_
        refine v_iload_n G dL_law_734 3 rfl ?_
        refine v_iconst (1 : Int32) G dL_law_735 (by decide) ?_
        refine v_iadd G dL_law_736 ?_
        obtain ⟨g110, hf⟩ := gd_e hf
        refine v_sld G GS g110 dL_law_737 ?_
        refine v_aload_n G dL_law_738 0 rfl ?_
        refine v_iload_n G dL_law_739 3 rfl ?_
        refine v_iconst (2 : Int32) G dL_law_740 (by decide) ?_
        refine v_iadd G dL_law_741 ?_
        obtain ⟨g111, hf⟩ := gd_e hf
        refine v_sld G GS g111 dL_law_742 ?_
        obtain ⟨v112, hcv112, hf⟩ := bd_e hf
        refine v_callV [.int (xs ((w3 + (1 : Int32))).toNatClampNeg), .int (xs ((w3 + (2 : Int32))).toNatClampNeg)] G (c_X12_roadOf n h2 hcv112) h2 (by decide) rfl rfl rfl t_1955 t_1956 t_1957 t_17 t_1958 nm_X12_roadOf (by decide) (by decide) rfl rfl (Nat.le_of_ble_eq_true rfl) dL_law_743 (kv_ri ?_)
        refine v_icmp_eq 2035 G dL_law_746 (by decide) (fun h113 => ?_) (fun h113 => ?_)
        · replace hf := (if_pos h113).symm.trans hf
          refine v_sub _ [0, 1, 2, 3] rfl ?_
          exact hj2035 v112.2 hf
        · replace hf := (if_neg h113).symm.trans hf
          refine v_iconst (0 : Int32) G dL_law_749 (by decide) ?_
          exact absurd (Option.some.inj hf) (by decide)
      replace hf := (if_neg h114).symm.trans hf
      by_cases h122 : v2 = (14 : Int32)
      · replace hf := (if_pos h122).symm.trans hf
        refine v_tabIn (off := 718) 751 G dL_law_33 (by rw [h122]; decide) (by rw [h122]; decide) (by rw [h122]; rfl) (by decide) ?_
        refine v_aload_n G dL_law_751 1 rfl ?_
        refine v_aload_n G dL_law_752 0 rfl ?_
        refine v_iload_n G dL_law_753 3 rfl ?_
        refine v_iconst (1 : Int32) G dL_law_754 (by decide) ?_
        refine v_iadd G dL_law_755 ?_
        obtain ⟨g115, hf⟩ := gd_e hf
        refine v_sld G GS g115 dL_law_756 ?_
        refine v_aload_n G dL_law_757 0 rfl ?_
        refine v_iload_n G dL_law_758 3 rfl ?_
        refine v_iconst (2 : Int32) G dL_law_759 (by decide) ?_
        refine v_iadd G dL_law_760 ?_
        obtain ⟨g116, hf⟩ := gd_e hf
        refine v_sld G GS g116 dL_law_761 ?_
        obtain ⟨v117, hcv117, hf⟩ := bd_e hf
        refine v_callV [.int (xs ((w3 + (1 : Int32))).toNatClampNeg), .int (xs ((w3 + (2 : Int32))).toNatClampNeg)] G (c_X11_person n h1 hcv117) h1 (by decide) rfl rfl rfl t_1006 t_1007 t_1008 t_1 t_1009 nm_X11_person (by decide) (by decide) rfl rfl (Nat.le_of_ble_eq_true rfl) dL_law_762 (kv_ri ?_)
        refine v_aload_n G dL_law_765 2 rfl ?_
        refine v_aload_n G dL_law_766 0 rfl ?_
        refine v_iload_n G dL_law_767 3 rfl ?_
        refine v_iconst (1 : Int32) G dL_law_768 (by decide) ?_
        refine v_iadd G dL_law_769 ?_
        obtain ⟨g118, hf⟩ := gd_e hf
        refine v_sld G GS g118 dL_law_770 ?_
        refine v_aload_n G dL_law_771 0 rfl ?_
        refine v_iload_n G dL_law_772 3 rfl ?_
        refine v_iconst (2 : Int32) G dL_law_773 (by decide) ?_
        refine v_iadd G dL_law_774 ?_
        obtain ⟨g119, hf⟩ := gd_e hf
        refine v_sld G GS g119 dL_law_775 ?_
        obtain ⟨v120, hcv120, hf⟩ := bd_e hf
        refine v_callV [.int (xs ((w3 + (1 : Int32))).toNatClampNeg), .int (xs ((w3 + (2 : Int32))).toNatClampNeg)] G (c_X12_person n h2 hcv120) h2 (by decide) rfl rfl rfl t_1967 t_1968 t_1969 t_17 t_1970 nm_X12_person (by decide) (by decide) rfl rfl (Nat.le_of_ble_eq_true rfl) dL_law_776 (kv_ri ?_)
        refine v_icmp_eq 2035 G dL_law_779 (by decide) (fun h121 => ?_) (fun h121 => ?_)
        · replace hf := (if_pos h121).symm.trans hf
          refine v_sub _ [0, 1, 2, 3] rfl ?_
          exact hj2035 v120.2 hf
        · replace hf := (if_neg h121).symm.trans hf
          refine v_iconst (0 : Int32) G dL_law_782 (by decide) ?_
          exact absurd (Option.some.inj hf) (by decide)
      replace hf := (if_neg h122).symm.trans hf
      by_cases h130 : v2 = (15 : Int32)
      · replace hf := (if_pos h130).symm.trans hf
        refine v_tabIn (off := 751) 784 G dL_law_33 (by rw [h130]; decide) (by rw [h130]; decide) (by rw [h130]; rfl) (by decide) ?_
        refine v_aload_n G dL_law_784 1 rfl ?_
        refine v_aload_n G dL_law_785 0 rfl ?_
        refine v_iload_n G dL_law_786 3 rfl ?_
        refine v_iconst (1 : Int32) G dL_law_787 (by decide) ?_
        refine v_iadd G dL_law_788 ?_
        obtain ⟨g123, hf⟩ := gd_e hf
        refine v_sld G GS g123 dL_law_789 ?_
        refine v_aload_n G dL_law_790 0 rfl ?_
        refine v_iload_n G dL_law_791 3 rfl ?_
        refine v_iconst (2 : Int32) G dL_law_792 (by decide) ?_
        refine v_iadd G dL_law_793 ?_
        obtain ⟨g124, hf⟩ := gd_e hf
        refine v_sld G GS g124 dL_law_794 ?_
        obtain ⟨v125, hcv125, hf⟩ := bd_e hf
        refine v_callV [.int (xs ((w3 + (1 : Int32))).toNatClampNeg), .int (xs ((w3 + (2 : Int32))).toNatClampNeg)] G (c_X11_gone n h1 hcv125) h1 (by decide) rfl rfl rfl t_1019 t_1020 t_1021 t_1 t_1022 nm_X11_gone (by decide) (by decide) rfl rfl (Nat.le_of_ble_eq_true rfl) dL_law_795 (kv_ri ?_)
        refine v_aload_n G dL_law_798 2 rfl ?_
        refine v_aload_n G dL_law_799 0 rfl ?_
        refine v_iload_n G dL_law_800 3 rfl ?_
        refine v_iconst (1 : Int32) G dL_law_801 (by decide) ?_
        refine v_iadd G dL_law_802 ?_
        obtain ⟨g126, hf⟩ := gd_e hf
        refine v_sld G GS g126 dL_law_803 ?_
        refine v_aload_n G dL_law_804 0 rfl ?_
        refine v_iload_n G dL_law_805 3 rfl ?_
        refine v_iconst (2 : Int32) G dL_law_806 (by decide) ?_
        refine v_iadd G dL_law_807 ?_
        obtain ⟨g127, hf⟩ := gd_e hf
        refine v_sld G GS g127 dL_law_808 ?_
        obtain ⟨v128, hcv128, hf⟩ := bd_e hf
        refine v_callV [.int (xs ((w3 + (1 : Int32))).toNatClampNeg), .int (xs ((w3 + (2 : Int32))).toNatClampNeg)] G (c_X12_gone n h2 hcv128) h2 (by decide) rfl rfl rfl t_1976 t_1977 t_1978 t_17 t_1979 nm_X12_gone (by decide) (by decide) rfl rfl (Nat.le_of_ble_eq_true rfl) dL_law_809 (kv_ri ?_)
        refine v_icmp_eq 2035 G dL_law_812 (by decide) (fun h129 => ?_) (fun h129 => ?_)
        · replace hf := (if_pos h129).symm.trans hf
          refine v_sub _ [0, 1, 2, 3] rfl ?_
          exact hj2035 v128.2 hf
        · replace hf := (if_neg h129).symm.trans hf
          refine v_iconst (0 : Int32) G dL_law_815 (by decide) ?_
          exact absurd (Option.some.inj hf) (by decide)
      replace hf := (if_neg h130).symm.trans hf
      by_cases h138 : v2 = (16 : Int32)
      · replace hf := (if_pos h138).symm.trans hf
        refine v_tabIn (off := 784) 817 G dL_law_33 (by rw [h138]; decide) (by rw [h138]; decide) (by rw [h138]; rfl) (by decide) ?_
        refine v_aload_n G dL_law_817 1 rfl ?_
        refine v_aload_n G dL_law_818 0 rfl ?_
        refine v_iload_n G dL_law_819 3 rfl ?_
        refine v_iconst (1 : Int32) G dL_law_820 (by decide) ?_
        refine v_iadd G dL_law_821 ?_
        obtain ⟨g131, hf⟩ := gd_e hf
        refine v_sld G GS g131 dL_law_822 ?_
        refine v_aload_n G dL_law_823 0 rfl ?_
        refine v_iload_n G dL_law_824 3 rfl ?_
        refine v_iconst (2 : Int32) G dL_law_825 (by decide) ?_
        refine v_iadd G dL_law_826 ?_
        obtain ⟨g132, hf⟩ := gd_e hf
        refine v_sld G GS g132 dL_law_827 ?_
        obtain ⟨v133, hcv133, hf⟩ := bd_e hf
        refine v_callV [.int (xs ((w3 + (1 : Int32))).toNatClampNeg), .int (xs ((w3 + (2 : Int32))).toNatClampNeg)] G (c_X11_owes n h1 hcv133) h1 (by decide) rfl rfl rfl t_1023 t_1024 t_1025 t_1 t_1026 nm_X11_owes (by decide) (by decide) rfl rfl (Nat.le_of_ble_eq_true rfl) dL_law_828 (kv_ri ?_)
        refine v_aload_n G dL_law_831 2 rfl ?_
        refine v_aload_n G dL_law_832 0 rfl ?_
        refine v_iload_n G dL_law_833 3 rfl ?_
        refine v_iconst (1 : Int32) G dL_law_834 (by decide) ?_
        refine v_iadd G dL_law_835 ?_
        obtain ⟨g134, hf⟩ := gd_e hf
        refine v_sld G GS g134 dL_law_836 ?_
        refine v_aload_n G dL_law_837 0 rfl ?_
        refine v_iload_n G dL_law_838 3 rfl ?_
        refine v_iconst (2 : Int32) G dL_law_839 (by decide) ?_
        refine v_iadd G dL_law_840 ?_
        obtain ⟨g135, hf⟩ := gd_e hf
        refine v_sld G GS g135 dL_law_841 ?_
        obtain ⟨v136, hcv136, hf⟩ := bd_e hf
        refine v_callV [.int (xs ((w3 + (1 : Int32))).toNatClampNeg), .int (xs ((w3 + (2 : Int32))).toNatClampNeg)] G (c_X12_owes n h2 hcv136) h2 (by decide) rfl rfl rfl t_1980 t_1981 t_1982 t_17 t_1983 nm_X12_owes (by decide) (by decide) rfl rfl (Nat.le_of_ble_eq_true rfl) dL_law_842 (kv_ri ?_)
        refine v_icmp_eq 2035 G dL_law_845 (by decide) (fun h137 => ?_) (fun h137 => ?_)
        · replace hf := (if_pos h137).symm.trans hf
          refine v_sub _ [0, 1, 2, 3] rfl ?_
          exact hj2035 v136.2 hf
        · replace hf := (if_neg h137).symm.trans hf
          refine v_iconst (0 : Int32) G dL_law_848 (by decide) ?_
          exact absurd (Option.some.inj hf) (by decide)
      replace hf := (if_neg h138).symm.trans hf
      by_cases h144 : v2 = (17 : Int32)
      · replace hf := (if_pos h144).symm.trans hf
        refine v_tabIn (off := 817) 850 G dL_law_33 (by rw [h144]; decide) (by rw [h144]; decide) (by rw [h144]; rfl) (by decide) ?_
        refine v_aload_n G dL_law_850 1 rfl ?_
        refine v_aload_n G dL_law_851 0 rfl ?_
        refine v_iload_n G dL_law_852 3 rfl ?_
        refine v_iconst (1 : Int32) G dL_law_853 (by decide) ?_
        refine v_iadd G dL_law_854 ?_
        obtain ⟨g139, hf⟩ := gd_e hf
        refine v_sld G GS g139 dL_law_855 ?_
        obtain ⟨v140, hcv140, hf⟩ := bd_e hf
        refine v_callV [.int (xs ((w3 + (1 : Int32))).toNatClampNeg)] G (c_X11_net n h1 hcv140) h1 (by decide) rfl rfl rfl t_1031 t_1032 t_1033 t_1 t_1034 nm_X11_net (by decide) (by decide) rfl rfl (Nat.le_of_ble_eq_true rfl) dL_law_856 (kv_ri ?_)
        refine v_aload_n G dL_law_859 2 rfl ?_
        refine v_aload_n G dL_law_860 0 rfl ?_
        refine v_iload_n G dL_law_861 3 rfl ?_
        refine v_iconst (1 : Int32) G dL_law_862 (by decide) ?_
        refine v_iadd G dL_law_863 ?_
        obtain ⟨g141, hf⟩ := gd_e hf
        refine v_sld G GS g141 dL_law_864 ?_
        obtain ⟨v142, hcv142, hf⟩ := bd_e hf
        refine v_callV [.int (xs ((w3 + (1 : Int32))).toNatClampNeg)] G (c_X12_net n h2 hcv142) h2 (by decide) rfl rfl rfl t_1984 t_1985 t_1986 t_17 t_1987 nm_X12_net (by decide) (by decide) rfl rfl (Nat.le_of_ble_eq_true rfl) dL_law_865 (kv_ri ?_)
        refine v_icmp_eq 2035 G dL_law_868 (by decide) (fun h143 => ?_) (fun h143 => ?_)
        · replace hf := (if_pos h143).symm.trans hf
          refine v_sub _ [0, 1, 2, 3] rfl ?_
          exact hj2035 v142.2 hf
        · replace hf := (if_neg h143).symm.trans hf
          refine v_iconst (0 : Int32) G dL_law_871 (by decide) ?_
          exact absurd (Option.some.inj hf) (by decide)
      replace hf := (if_neg h144).symm.trans hf
      by_cases h150 : v2 = (18 : Int32)
      · replace hf := (if_pos h150).symm.trans hf
        refine v_tabIn (off := 840) 873 G dL_law_33 (by rw [h150]; decide) (by rw [h150]; decide) (by rw [h150]; rfl) (by decide) ?_
        refine v_aload_n G dL_law_873 1 rfl ?_
        refine v_aload_n G dL_law_874 0 rfl ?_
        refine v_iload_n G dL_law_875 3 rfl ?_
        refine v_iconst (1 : Int32) G dL_law_876 (by decide) ?_
        refine v_iadd G dL_law_877 ?_
        obtain ⟨g145, hf⟩ := gd_e hf
        refine v_sld G GS g145 dL_law_878 ?_
        obtain ⟨v146, hcv146, hf⟩ := bd_e hf
        refine v_callV [.int (xs ((w3 + (1 : Int32))).toNatClampNeg)] G (c_X11_copyPlaces n h1 hcv146) h1 (by decide) rfl rfl rfl t_1039 t_1040 t_1041 t_1 t_1042 nm_X11_copyPlaces (by decide) (by decide) rfl rfl (Nat.le_of_ble_eq_true rfl) dL_law_879 (kv_ri ?_)
        refine v_aload_n G dL_law_882 2 rfl ?_
        refine v_aload_n G dL_law_883 0 rfl ?_
        refine v_iload_n G dL_law_884 3 rfl ?_
        refine v_iconst (1 : Int32) G dL_law_885 (by decide) ?_
        refine v_iadd G dL_law_886 ?_
        obtain ⟨g147, hf⟩ := gd_e hf
        refine v_sld G GS g147 dL_law_887 ?_
        obtain ⟨v148, hcv148, hf⟩ := bd_e hf
        refine v_callV [.int (xs ((w3 + (1 : Int32))).toNatClampNeg)] G (c_X12_copyPlaces n h2 hcv148) h2 (by decide) rfl rfl rfl t_1988 t_1989 t_1990 t_17 t_1991 nm_X12_copyPlaces (by decide) (by decide) rfl rfl (Nat.le_of_ble_eq_true rfl) dL_law_888 (kv_ri ?_)
        refine v_icmp_eq 2035 G dL_law_891 (by decide) (fun h149 => ?_) (fun h149 => ?_)
        · replace hf := (if_pos h149).symm.trans hf
          refine v_sub _ [0, 1, 2, 3] rfl ?_
          exact hj2035 v148.2 hf
        · replace hf := (if_neg h149).symm.trans hf
          refine v_iconst (0 : Int32) G dL_law_894 (by decide) ?_
          exact absurd (Option.some.inj hf) (by decide)
      replace hf := (if_neg h150).symm.trans hf
      by_cases h156 : v2 = (19 : Int32)
      · replace hf := (if_pos h156).symm.trans hf
        refine v_tabIn (off := 863) 896 G dL_law_33 (by rw [h156]; decide) (by rw [h156]; decide) (by rw [h156]; rfl) (by decide) ?_
        refine v_aload_n G dL_law_896 1 rfl ?_
        refine v_aload_n G dL_law_897 0 rfl ?_
        refine v_iload_n G dL_law_898 3 rfl ?_
        refine v_iconst (1 : Int32) G dL_law_899 (by decide) ?_
        refine v_iadd G dL_law_900 ?_
        obtain ⟨g151, hf⟩ := gd_e hf
        refine v_sld G GS g151 dL_law_901 ?_
        obtain ⟨v152, hcv152, hf⟩ := bd_e hf
        refine v_callV [.int (xs ((w3 + (1 : Int32))).toNatClampNeg)] G (c_X11_passes n h1 hcv152) h1 (by decide) rfl rfl rfl t_1043 t_1044 t_1045 t_1 t_1046 nm_X11_passes (by decide) (by decide) rfl rfl (Nat.le_of_ble_eq_true rfl) dL_law_902 (kv_ri ?_)
        refine v_aload_n G dL_law_905 2 rfl ?_
        refine v_aload_n G dL_law_906 0 rfl ?_
        refine v_iload_n G dL_law_907 3 rfl ?_
        refine v_iconst (1 : Int32) G dL_law_908 (by decide) ?_
        refine v_iadd G dL_law_909 ?_
        obtain ⟨g153, hf⟩ := gd_e hf
        refine v_sld G GS g153 dL_law_910 ?_
        obtain ⟨v154, hcv154, hf⟩ := bd_e hf
        refine v_callV [.int (xs ((w3 + (1 : Int32))).toNatClampNeg)] G (c_X12_passes n h2 hcv154) h2 (by decide) rfl rfl rfl t_1996 t_1997 t_1998 t_17 t_1999 nm_X12_passes (by decide) (by decide) rfl rfl (Nat.le_of_ble_eq_true rfl) dL_law_911 (kv_ri ?_)
        refine v_icmp_eq 2035 G dL_law_914 (by decide) (fun h155 => ?_) (fun h155 => ?_)
        · replace hf := (if_pos h155).symm.trans hf
          refine v_sub _ [0, 1, 2, 3] rfl ?_
          exact hj2035 v154.2 hf
        · replace hf := (if_neg h155).symm.trans hf
          refine v_iconst (0 : Int32) G dL_law_917 (by decide) ?_
          exact absurd (Option.some.inj hf) (by decide)
      replace hf := (if_neg h156).symm.trans hf
      by_cases h164 : v2 = (20 : Int32)
      · replace hf := (if_pos h164).symm.trans hf
        refine v_tabIn (off := 886) 919 G dL_law_33 (by rw [h164]; decide) (by rw [h164]; decide) (by rw [h164]; rfl) (by decide) ?_
        refine v_aload_n G dL_law_919 1 rfl ?_
        refine v_aload_n G dL_law_920 0 rfl ?_
        refine v_iload_n G dL_law_921 3 rfl ?_
        refine v_iconst (1 : Int32) G dL_law_922 (by decide) ?_
        refine v_iadd G dL_law_923 ?_
        obtain ⟨g157, hf⟩ := gd_e hf
        refine v_sld G GS g157 dL_law_924 ?_
        refine v_aload_n G dL_law_925 0 rfl ?_
        refine v_iload_n G dL_law_926 3 rfl ?_
        refine v_iconst (2 : Int32) G dL_law_927 (by decide) ?_
        refine v_iadd G dL_law_928 ?_
        obtain ⟨g158, hf⟩ := gd_e hf
        refine v_sld G GS g158 dL_law_929 ?_
        obtain ⟨v159, hcv159, hf⟩ := bd_e hf
        refine v_callV [.int (xs ((w3 + (1 : Int32))).toNatClampNeg), .int (xs ((w3 + (2 : Int32))).toNatClampNeg)] G (c_X11_go n h1 hcv159) h1 (by decide) rfl rfl rfl t_1101 t_1102 t_1103 t_1 t_1104 nm_X11_go (by decide) (by decide) rfl rfl (Nat.le_of_ble_eq_true rfl) dL_law_930 (kv_ri ?_)
        refine v_aload_n G dL_law_933 2 rfl ?_
        refine v_aload_n G dL_law_934 0 rfl ?_
        refine v_iload_n G dL_law_935 3 rfl ?_
        refine v_iconst (1 : Int32) G dL_law_936 (by decide) ?_
        refine v_iadd G dL_law_937 ?_
        obtain ⟨g160, hf⟩ := gd_e hf
        refine v_sld G GS g160 dL_law_938 ?_
        refine v_aload_n G dL_law_939 0 rfl ?_
        refine v_iload_n G dL_law_940 3 rfl ?_
        refine v_iconst (2 : Int32) G dL_law_941 (by decide) ?_
        refine v_iadd G dL_law_942 ?_
        obtain ⟨g161, hf⟩ := gd_e hf
        refine v_sld G GS g161 dL_law_943 ?_
        obtain ⟨v162, hcv162, hf⟩ := bd_e hf
        refine v_callV [.int (xs ((w3 + (1 : Int32))).toNatClampNeg), .int (xs ((w3 + (2 : Int32))).toNatClampNeg)] G (c_X12_go n h2 hcv162) h2 (by decide) rfl rfl rfl t_2027 t_2028 t_2029 t_17 t_2030 nm_X12_go (by decide) (by decide) rfl rfl (Nat.le_of_ble_eq_true rfl) dL_law_944 (kv_ri ?_)
        refine v_icmp_eq 2035 G dL_law_947 (by decide) (fun h163 => ?_) (fun h163 => ?_)
        · replace hf := (if_pos h163).symm.trans hf
          refine v_sub _ [0, 1, 2, 3] rfl ?_
          exact hj2035 v162.2 hf
        · replace hf := (if_neg h163).symm.trans hf
          refine v_iconst (0 : Int32) G dL_law_950 (by decide) ?_
          exact absurd (Option.some.inj hf) (by decide)
      replace hf := (if_neg h164).symm.trans hf
      by_cases h174 : v2 = (21 : Int32)
      · replace hf := (if_pos h174).symm.trans hf
        refine v_tabIn (off := 919) 952 G dL_law_33 (by rw [h174]; decide) (by rw [h174]; decide) (by rw [h174]; rfl) (by decide) ?_
        refine v_aload_n G dL_law_952 1 rfl ?_
        refine v_aload_n G dL_law_953 0 rfl ?_
        refine v_iload_n G dL_law_954 3 rfl ?_
        refine v_iconst (1 : Int32) G dL_law_955 (by decide) ?_
        refine v_iadd G dL_law_956 ?_
        obtain ⟨g165, hf⟩ := gd_e hf
        refine v_sld G GS g165 dL_law_957 ?_
        refine v_aload_n G dL_law_958 0 rfl ?_
        refine v_iload_n G dL_law_959 3 rfl ?_
        refine v_iconst (2 : Int32) G dL_law_960 (by decide) ?_
        refine v_iadd G dL_law_961 ?_
        obtain ⟨g166, hf⟩ := gd_e hf
        refine v_sld G GS g166 dL_law_962 ?_
        refine v_aload_n G dL_law_963 0 rfl ?_
        refine v_iload_n G dL_law_964 3 rfl ?_
        refine v_iconst (3 : Int32) G dL_law_965 (by decide) ?_
        refine v_iadd G dL_law_966 ?_
        obtain ⟨g167, hf⟩ := gd_e hf
        refine v_sld G GS g167 dL_law_967 ?_
        obtain ⟨v168, hcv168, hf⟩ := bd_e hf
        refine v_callV [.int (xs ((w3 + (1 : Int32))).toNatClampNeg), .int (xs ((w3 + (2 : Int32))).toNatClampNeg), .int (xs ((w3 + (3 : Int32))).toNatClampNeg)] G (c_X11_lead n h1 hcv168) h1 (by decide) rfl rfl rfl t_1127 t_1128 t_1129 t_1 t_1130 nm_X11_lead (by decide) (by decide) rfl rfl (Nat.le_of_ble_eq_true rfl) dL_law_968 (kv_ri ?_)
        refine v_aload_n G dL_law_971 2 rfl ?_
        refine v_aload_n G dL_law_972 0 rfl ?_
        refine v_iload_n G dL_law_973 3 rfl ?_
        refine v_iconst (1 : Int32) G dL_law_974 (by decide) ?_
        refine v_iadd G dL_law_975 ?_
        obtain ⟨g169, hf⟩ := gd_e hf
        refine v_sld G GS g169 dL_law_976 ?_
        refine v_aload_n G dL_law_977 0 rfl ?_
        refine v_iload_n G dL_law_978 3 rfl ?_
        refine v_iconst (2 : Int32) G dL_law_979 (by decide) ?_
        refine v_iadd G dL_law_980 ?_
        obtain ⟨g170, hf⟩ := gd_e hf
        refine v_sld G GS g170 dL_law_981 ?_
        refine v_aload_n G dL_law_982 0 rfl ?_
        refine v_iload_n G dL_law_983 3 rfl ?_
        refine v_iconst (3 : Int32) G dL_law_984 (by decide) ?_
        refine v_iadd G dL_law_985 ?_
        obtain ⟨g171, hf⟩ := gd_e hf
        refine v_sld G GS g171 dL_law_986 ?_
        obtain ⟨v172, hcv172, hf⟩ := bd_e hf
        refine v_callV [.int (xs ((w3 + (1 : Int32))).toNatClampNeg), .int (xs ((w3 + (2 : Int32))).toNatClampNeg), .int (xs ((w3 + (3 : Int32))).toNatClampNeg)] G (c_X12_lead n h2 hcv172) h2 (by decide) rfl rfl rfl t_2047 t_2048 t_2049 t_17 t_2050 nm_X12_lead (by decide) (by decide) rfl rfl (Nat.le_of_ble_eq_true rfl) dL_law_987 (kv_ri ?_)
        refine v_icmp_eq 2035 G dL_law_990 (by decide) (fun h173 => ?_) (fun h173 => ?_)
        · replace hf := (if_pos h173).symm.trans hf
          refine v_sub _ [0, 1, 2, 3] rfl ?_
          exact hj2035 v172.2 hf
        · replace hf := (if_neg h173).symm.trans hf
          refine v_iconst (0 : Int32) G dL_law_993 (by decide) ?_
          exact absurd (Option.some.inj hf) (by decide)
      replace hf := (if_neg h174).symm.trans hf
      by_cases h180 : v2 = (22 : Int32)
      · replace hf := (if_pos h180).symm.trans hf
        refine v_tabIn (off := 962) 995 G dL_law_33 (by rw [h180]; decide) (by rw [h180]; decide) (by rw [h180]; rfl) (by decide) ?_
        refine v_aload_n G dL_law_995 1 rfl ?_
        refine v_aload_n G dL_law_996 0 rfl ?_
        refine v_iload_n G dL_law_997 3 rfl ?_
        refine v_iconst (1 : Int32) G dL_law_998 (by decide) ?_
        refine v_iadd G dL_law_999 ?_
        obtain ⟨g175, hf⟩ := gd_e hf
        refine v_sld G GS g175 dL_law_1000 ?_
        obtain ⟨v176, hcv176, hf⟩ := bd_e hf
        refine v_callV [.int (xs ((w3 + (1 : Int32))).toNatClampNeg)] G (c_X11_turn n h1 hcv176) h1 (by decide) rfl rfl rfl t_1141 t_1142 t_1143 t_1 t_1144 nm_X11_turn (by decide) (by decide) rfl rfl (Nat.le_of_ble_eq_true rfl) dL_law_1001 (kv_ri ?_)
        refine v_aload_n G dL_law_1004 2 rfl ?_
        refine v_aload_n G dL_law_1005 0 rfl ?_
        refine v_iload_n G dL_law_1006 3 rfl ?_
        refine v_iconst (1 : Int32) G dL_law_1007 (by decide) ?_
        refine v_iadd G dL_law_1008 ?_
        obtain ⟨g177, hf⟩ := gd_e hf
        refine v_sld G GS g177 dL_law_1009 ?_
        obtain ⟨v178, hcv178, hf⟩ := bd_e hf
        refine v_callV [.int (xs ((w3 + (1 : Int32))).toNatClampNeg)] G (c_X12_turn n h2 hcv178) h2 (by decide) rfl rfl rfl t_2058 t_2059 t_2060 t_17 t_2061 nm_X12_turn (by decide) (by decide) rfl rfl (Nat.le_of_ble_eq_true rfl) dL_law_1010 (kv_ri ?_)
        refine v_icmp_eq 2035 G dL_law_1013 (by decide) (fun h179 => ?_) (fun h179 => ?_)
        · replace hf := (if_pos h179).symm.trans hf
          refine v_sub _ [0, 1, 2, 3] rfl ?_
          exact hj2035 v178.2 hf
        · replace hf := (if_neg h179).symm.trans hf
          refine v_iconst (0 : Int32) G dL_law_1016 (by decide) ?_
          exact absurd (Option.some.inj hf) (by decide)
      replace hf := (if_neg h180).symm.trans hf
      by_cases h190 : v2 = (23 : Int32)
      · replace hf := (if_pos h190).symm.trans hf
        refine v_tabIn (off := 985) 1018 G dL_law_33 (by rw [h190]; decide) (by rw [h190]; decide) (by rw [h190]; rfl) (by decide) ?_
        refine v_aload_n G dL_law_1018 1 rfl ?_
        refine v_aload_n G dL_law_1019 0 rfl ?_
        refine v_iload_n G dL_law_1020 3 rfl ?_
        refine v_iconst (1 : Int32) G dL_law_1021 (by decide) ?_
        refine v_iadd G dL_law_1022 ?_
        obtain ⟨g181, hf⟩ := gd_e hf
        refine v_sld G GS g181 dL_law_1023 ?_
        obtain ⟨j1032, ej1032, hf⟩ := lt_j hf
        have hj1032 : ∀ (x182 : Int32), j1032 x182 = some 1 → KV ad cy x o 1032 [(0, .ref b), (1, .ref (ad a1)), (2, .ref (ad a2)), (3, .int w3)] [.int x182, .ref (ad a1)] M := by
          intro x182 hf
          rw [ej1032] at hf
          obtain ⟨v183, hcv183, hf⟩ := bd_e hf
          refine v_callV [.int x182] G (c_X11_cloud n h1 hcv183) h1 (by decide) rfl rfl rfl t_1150 t_1151 t_1152 t_1 t_1153 nm_X11_cloud (by decide) (by decide) rfl rfl (Nat.le_of_ble_eq_true rfl) dL_law_1032 (kv_ri ?_)
          refine v_aload_n G dL_law_1035 2 rfl ?_
          refine v_aload_n G dL_law_1036 0 rfl ?_
          refine v_iload_n G dL_law_1037 3 rfl ?_
          refine v_iconst (1 : Int32) G dL_law_1038 (by decide) ?_
          refine v_iadd G dL_law_1039 ?_
          obtain ⟨g184, hf⟩ := gd_e hf
          refine v_sld G GS g184 dL_law_1040 ?_
          obtain ⟨j1049, ej1049, hf⟩ := lt_j hf
          have hj1049 : ∀ (x185 : Int32), j1049 x185 = some 1 → KV ad cy x o 1049 [(0, .ref b), (1, .ref (ad a1)), (2, .ref (ad a2)), (3, .int w3)] [.int x185, .ref (ad a2), .int v183.1] v183.2 := by
            intro x185 hf
            rw [ej1049] at hf
            obtain ⟨v186, hcv186, hf⟩ := bd_e hf
            refine v_callV [.int x185] G (c_X12_cloud n h2 hcv186) h2 (by decide) rfl rfl rfl t_2066 t_2067 t_2068 t_17 t_2069 nm_X12_cloud (by decide) (by decide) rfl rfl (Nat.le_of_ble_eq_true rfl) dL_law_1049 (kv_ri ?_)
            refine v_icmp_eq 2035 G dL_law_1052 (by decide) (fun h187 => ?_) (fun h187 => ?_)
            · replace hf := (if_pos h187).symm.trans hf
              refine v_sub _ [0, 1, 2, 3] rfl ?_
              exact hj2035 v186.2 hf
            · replace hf := (if_neg h187).symm.trans hf
              refine v_iconst (0 : Int32) G dL_law_1055 (by decide) ?_
              exact absurd (Option.some.inj hf) (by decide)
          refine v_if_eq 1048 G dL_law_1041 (by decide) (fun h188 => ?_) (fun h188 => ?_)
          · replace hf := (if_pos h188).symm.trans hf
            refine v_iconst (0 : Int32) G dL_law_1048 (by decide) ?_
            refine v_sub _ [0, 1, 2, 3] rfl ?_
            exact hj1049 (0 : Int32) hf
          · replace hf := (if_neg h188).symm.trans hf
            refine v_iconst (1 : Int32) G dL_law_1044 (by decide) ?_
            refine v_goto 1049 G dL_law_1045 (by decide) ?_
            refine v_sub _ [0, 1, 2, 3] rfl ?_
            exact hj1049 (1 : Int32) hf
        refine v_if_eq 1031 G dL_law_1024 (by decide) (fun h189 => ?_) (fun h189 => ?_)
        · replace hf := (if_pos h189).symm.trans hf
          refine v_iconst (0 : Int32) G dL_law_1031 (by decide) ?_
          refine v_sub _ [0, 1, 2, 3] rfl ?_
          exact hj1032 (0 : Int32) hf
        · replace hf := (if_neg h189).symm.trans hf
          refine v_iconst (1 : Int32) G dL_law_1027 (by decide) ?_
          refine v_goto 1032 G dL_law_1028 (by decide) ?_
          refine v_sub _ [0, 1, 2, 3] rfl ?_
          exact hj1032 (1 : Int32) hf
      replace hf := (if_neg h190).symm.trans hf
      by_cases h202 : v2 = (24 : Int32)
      · replace hf := (if_pos h202).symm.trans hf
        refine v_tabIn (off := 1024) 1057 G dL_law_33 (by rw [h202]; decide) (by rw [h202]; decide) (by rw [h202]; rfl) (by decide) ?_
        refine v_aload_n G dL_law_1057 1 rfl ?_
        refine v_aload_n G dL_law_1058 0 rfl ?_
        refine v_iload_n G dL_law_1059 3 rfl ?_
        refine v_iconst (1 : Int32) G dL_law_1060 (by decide) ?_
        refine v_iadd G dL_law_1061 ?_
        obtain ⟨g191, hf⟩ := gd_e hf
        refine v_sld G GS g191 dL_law_1062 ?_
        refine v_aload_n G dL_law_1063 0 rfl ?_
        refine v_iload_n G dL_law_1064 3 rfl ?_
        refine v_iconst (2 : Int32) G dL_law_1065 (by decide) ?_
        refine v_iadd G dL_law_1066 ?_
        obtain ⟨g192, hf⟩ := gd_e hf
        refine v_sld G GS g192 dL_law_1067 ?_
        obtain ⟨j1076, ej1076, hf⟩ := lt_j hf
        have hj1076 : ∀ (x193 : Int32), j1076 x193 = some 1 → KV ad cy x o 1076 [(0, .ref b), (1, .ref (ad a1)), (2, .ref (ad a2)), (3, .int w3)] [.int x193, .int (xs ((w3 + (1 : Int32))).toNatClampNeg), .ref (ad a1)] M := by
          intro x193 hf
          rw [ej1076] at hf
          obtain ⟨v194, hcv194, hf⟩ := bd_e hf
          refine v_callV [.int (xs ((w3 + (1 : Int32))).toNatClampNeg), .int x193] G (c_X11_plant n h1 hcv194) h1 (by decide) rfl rfl rfl t_1154 t_1155 t_1156 t_1 t_1157 nm_X11_plant (by decide) (by decide) rfl rfl (Nat.le_of_ble_eq_true rfl) dL_law_1076 (kv_ri ?_)
          refine v_aload_n G dL_law_1079 2 rfl ?_
          refine v_aload_n G dL_law_1080 0 rfl ?_
          refine v_iload_n G dL_law_1081 3 rfl ?_
          refine v_iconst (1 : Int32) G dL_law_1082 (by decide) ?_
          refine v_iadd G dL_law_1083 ?_
          obtain ⟨g195, hf⟩ := gd_e hf
          refine v_sld G GS g195 dL_law_1084 ?_
          refine v_aload_n G dL_law_1085 0 rfl ?_
          refine v_iload_n G dL_law_1086 3 rfl ?_
          refine v_iconst (2 : Int32) G dL_law_1087 (by decide) ?_
          refine v_iadd G dL_law_1088 ?_
          obtain ⟨g196, hf⟩ := gd_e hf
          refine v_sld G GS g196 dL_law_1089 ?_
          obtain ⟨j1098, ej1098, hf⟩ := lt_j hf
          have hj1098 : ∀ (x197 : Int32), j1098 x197 = some 1 → KV ad cy x o 1098 [(0, .ref b), (1, .ref (ad a1)), (2, .ref (ad a2)), (3, .int w3)] [.int x197, .int (xs ((w3 + (1 : Int32))).toNatClampNeg), .ref (ad a2), .int v194.1] v194.2 := by
            intro x197 hf
            rw [ej1098] at hf
            obtain ⟨v198, hcv198, hf⟩ := bd_e hf
            refine v_callV [.int (xs ((w3 + (1 : Int32))).toNatClampNeg), .int x197] G (c_X12_plant n h2 hcv198) h2 (by decide) rfl rfl rfl t_2074 t_2075 t_2076 t_17 t_2077 nm_X12_plant (by decide) (by decide) rfl rfl (Nat.le_of_ble_eq_true rfl) dL_law_1098 (kv_ri ?_)
            refine v_icmp_eq 2035 G dL_law_1101 (by decide) (fun h199 => ?_) (fun h199 => ?_)
            · replace hf := (if_pos h199).symm.trans hf
              refine v_sub _ [0, 1, 2, 3] rfl ?_
              exact hj2035 v198.2 hf
            · replace hf := (if_neg h199).symm.trans hf
              refine v_iconst (0 : Int32) G dL_law_1104 (by decide) ?_
              exact absurd (Option.some.inj hf) (by decide)
          refine v_if_eq 1097 G dL_law_1090 (by decide) (fun h200 => ?_) (fun h200 => ?_)
          · replace hf := (if_pos h200).symm.trans hf
            refine v_iconst (0 : Int32) G dL_law_1097 (by decide) ?_
            refine v_sub _ [0, 1, 2, 3] rfl ?_
            exact hj1098 (0 : Int32) hf
          · replace hf := (if_neg h200).symm.trans hf
            refine v_iconst (1 : Int32) G dL_law_1093 (by decide) ?_
            refine v_goto 1098 G dL_law_1094 (by decide) ?_
            refine v_sub _ [0, 1, 2, 3] rfl ?_
            exact hj1098 (1 : Int32) hf
        refine v_if_eq 1075 G dL_law_1068 (by decide) (fun h201 => ?_) (fun h201 => ?_)
        · replace hf := (if_pos h201).symm.trans hf
          refine v_iconst (0 : Int32) G dL_law_1075 (by decide) ?_
          refine v_sub _ [0, 1, 2, 3] rfl ?_
          exact hj1076 (0 : Int32) hf
        · replace hf := (if_neg h201).symm.trans hf
          refine v_iconst (1 : Int32) G dL_law_1071 (by decide) ?_
          refine v_goto 1076 G dL_law_1072 (by decide) ?_
          refine v_sub _ [0, 1, 2, 3] rfl ?_
          exact hj1076 (1 : Int32) hf
      replace hf := (if_neg h202).symm.trans hf
      by_cases h214 : v2 = (25 : Int32)
      · replace hf := (if_pos h214).symm.trans hf
        refine v_tabIn (off := 1073) 1106 G dL_law_33 (by rw [h214]; decide) (by rw [h214]; decide) (by rw [h214]; rfl) (by decide) ?_
        refine v_aload_n G dL_law_1106 1 rfl ?_
        refine v_aload_n G dL_law_1107 0 rfl ?_
        refine v_iload_n G dL_law_1108 3 rfl ?_
        refine v_iconst (1 : Int32) G dL_law_1109 (by decide) ?_
        refine v_iadd G dL_law_1110 ?_
        obtain ⟨g203, hf⟩ := gd_e hf
        refine v_sld G GS g203 dL_law_1111 ?_
        refine v_aload_n G dL_law_1112 0 rfl ?_
        refine v_iload_n G dL_law_1113 3 rfl ?_
        refine v_iconst (2 : Int32) G dL_law_1114 (by decide) ?_
        refine v_iadd G dL_law_1115 ?_
        obtain ⟨g204, hf⟩ := gd_e hf
        refine v_sld G GS g204 dL_law_1116 ?_
        obtain ⟨j1125, ej1125, hf⟩ := lt_j hf
        have hj1125 : ∀ (x205 : Int32), j1125 x205 = some 1 → KV ad cy x o 1125 [(0, .ref b), (1, .ref (ad a1)), (2, .ref (ad a2)), (3, .int w3)] [.int x205, .int (xs ((w3 + (1 : Int32))).toNatClampNeg), .ref (ad a1)] M := by
          intro x205 hf
          rw [ej1125] at hf
          obtain ⟨v206, hcv206, hf⟩ := bd_e hf
          refine v_callV [.int (xs ((w3 + (1 : Int32))).toNatClampNeg), .int x205] G (c_X11_glasses n h1 hcv206) h1 (by decide) rfl rfl rfl t_1158 t_1159 t_1160 t_1 t_1161 nm_X11_glasses (by decide) (by decide) rfl rfl (Nat.le_of_ble_eq_true rfl) dL_law_1125 (kv_ri ?_)
          refine v_aload_n G dL_law_1128 2 rfl ?_
          refine v_aload_n G dL_law_1129 0 rfl ?_
          refine v_iload_n G dL_law_1130 3 rfl ?_
          refine v_iconst (1 : Int32) G dL_law_1131 (by decide) ?_
          refine v_iadd G dL_law_1132 ?_
          obtain ⟨g207, hf⟩ := gd_e hf
          refine v_sld G GS g207 dL_law_1133 ?_
          refine v_aload_n G dL_law_1134 0 rfl ?_
          refine v_iload_n G dL_law_1135 3 rfl ?_
          refine v_iconst (2 : Int32) G dL_law_1136 (by decide) ?_
          refine v_iadd G dL_law_1137 ?_
          obtain ⟨g208, hf⟩ := gd_e hf
          refine v_sld G GS g208 dL_law_1138 ?_
          obtain ⟨j1147, ej1147, hf⟩ := lt_j hf
          have hj1147 : ∀ (x209 : Int32), j1147 x209 = some 1 → KV ad cy x o 1147 [(0, .ref b), (1, .ref (ad a1)), (2, .ref (ad a2)), (3, .int w3)] [.int x209, .int (xs ((w3 + (1 : Int32))).toNatClampNeg), .ref (ad a2), .int v206.1] v206.2 := by
            intro x209 hf
            rw [ej1147] at hf
            obtain ⟨v210, hcv210, hf⟩ := bd_e hf
            refine v_callV [.int (xs ((w3 + (1 : Int32))).toNatClampNeg), .int x209] G (c_X12_glasses n h2 hcv210) h2 (by decide) rfl rfl rfl t_2078 t_2079 t_2080 t_17 t_2081 nm_X12_glasses (by decide) (by decide) rfl rfl (Nat.le_of_ble_eq_true rfl) dL_law_1147 (kv_ri ?_)
            refine v_icmp_eq 2035 G dL_law_1150 (by decide) (fun h211 => ?_) (fun h211 => ?_)
            · replace hf := (if_pos h211).symm.trans hf
              refine v_sub _ [0, 1, 2, 3] rfl ?_
              exact hj2035 v210.2 hf
            · replace hf := (if_neg h211).symm.trans hf
              refine v_iconst (0 : Int32) G dL_law_1153 (by decide) ?_
              exact absurd (Option.some.inj hf) (by decide)
          refine v_if_eq 1146 G dL_law_1139 (by decide) (fun h212 => ?_) (fun h212 => ?_)
          · replace hf := (if_pos h212).symm.trans hf
            refine v_iconst (0 : Int32) G dL_law_1146 (by decide) ?_
            refine v_sub _ [0, 1, 2, 3] rfl ?_
            exact hj1147 (0 : Int32) hf
          · replace hf := (if_neg h212).symm.trans hf
            refine v_iconst (1 : Int32) G dL_law_1142 (by decide) ?_
            refine v_goto 1147 G dL_law_1143 (by decide) ?_
            refine v_sub _ [0, 1, 2, 3] rfl ?_
            exact hj1147 (1 : Int32) hf
        refine v_if_eq 1124 G dL_law_1117 (by decide) (fun h213 => ?_) (fun h213 => ?_)
        · replace hf := (if_pos h213).symm.trans hf
          refine v_iconst (0 : Int32) G dL_law_1124 (by decide) ?_
          refine v_sub _ [0, 1, 2, 3] rfl ?_
          exact hj1125 (0 : Int32) hf
        · replace hf := (if_neg h213).symm.trans hf
          refine v_iconst (1 : Int32) G dL_law_1120 (by decide) ?_
          refine v_goto 1125 G dL_law_1121 (by decide) ?_
          refine v_sub _ [0, 1, 2, 3] rfl ?_
          exact hj1125 (1 : Int32) hf
      replace hf := (if_neg h214).symm.trans hf
      by_cases h226 : v2 = (26 : Int32)
      · replace hf := (if_pos h226).symm.trans hf
        refine v_tabIn (off := 1122) 1155 G dL_law_33 (by rw [h226]; decide) (by rw [h226]; decide) (by rw [h226]; rfl) (by decide) ?_
        refine v_aload_n G dL_law_1155 1 rfl ?_
        refine v_aload_n G dL_law_1156 0 rfl ?_
        refine v_iload_n G dL_law_1157 3 rfl ?_
        refine v_iconst (1 : Int32) G dL_law_1158 (by decide) ?_
        refine v_iadd G dL_law_1159 ?_
        obtain ⟨g215, hf⟩ := gd_e hf
        refine v_sld G GS g215 dL_law_1160 ?_
        refine v_aload_n G dL_law_1161 0 rfl ?_
        refine v_iload_n G dL_law_1162 3 rfl ?_
        refine v_iconst (2 : Int32) G dL_law_1163 (by decide) ?_
        refine v_iadd G dL_law_1164 ?_
        obtain ⟨g216, hf⟩ := gd_e hf
        refine v_sld G GS g216 dL_law_1165 ?_
        obtain ⟨j1174, ej1174, hf⟩ := lt_j hf
        have hj1174 : ∀ (x217 : Int32), j1174 x217 = some 1 → KV ad cy x o 1174 [(0, .ref b), (1, .ref (ad a1)), (2, .ref (ad a2)), (3, .int w3)] [.int x217, .int (xs ((w3 + (1 : Int32))).toNatClampNeg), .ref (ad a1)] M := by
          intro x217 hf
          rw [ej1174] at hf
          obtain ⟨v218, hcv218, hf⟩ := bd_e hf
          refine v_callV [.int (xs ((w3 + (1 : Int32))).toNatClampNeg), .int x217] G (c_X11_cure n h1 hcv218) h1 (by decide) rfl rfl rfl t_1162 t_1163 t_1164 t_1 t_1165 nm_X11_cure (by decide) (by decide) rfl rfl (Nat.le_of_ble_eq_true rfl) dL_law_1174 (kv_ri ?_)
          refine v_aload_n G dL_law_1177 2 rfl ?_
          refine v_aload_n G dL_law_1178 0 rfl ?_
          refine v_iload_n G dL_law_1179 3 rfl ?_
          refine v_iconst (1 : Int32) G dL_law_1180 (by decide) ?_
          refine v_iadd G dL_law_1181 ?_
          obtain ⟨g219, hf⟩ := gd_e hf
          refine v_sld G GS g219 dL_law_1182 ?_
          refine v_aload_n G dL_law_1183 0 rfl ?_
          refine v_iload_n G dL_law_1184 3 rfl ?_
          refine v_iconst (2 : Int32) G dL_law_1185 (by decide) ?_
          refine v_iadd G dL_law_1186 ?_
          obtain ⟨g220, hf⟩ := gd_e hf
          refine v_sld G GS g220 dL_law_1187 ?_
          obtain ⟨j1196, ej1196, hf⟩ := lt_j hf
          have hj1196 : ∀ (x221 : Int32), j1196 x221 = some 1 → KV ad cy x o 1196 [(0, .ref b), (1, .ref (ad a1)), (2, .ref (ad a2)), (3, .int w3)] [.int x221, .int (xs ((w3 + (1 : Int32))).toNatClampNeg), .ref (ad a2), .int v218.1] v218.2 := by
            intro x221 hf
            rw [ej1196] at hf
            obtain ⟨v222, hcv222, hf⟩ := bd_e hf
            refine v_callV [.int (xs ((w3 + (1 : Int32))).toNatClampNeg), .int x221] G (c_X12_cure n h2 hcv222) h2 (by decide) rfl rfl rfl t_2082 t_2083 t_2084 t_17 t_2085 nm_X12_cure (by decide) (by decide) rfl rfl (Nat.le_of_ble_eq_true rfl) dL_law_1196 (kv_ri ?_)
            refine v_icmp_eq 2035 G dL_law_1199 (by decide) (fun h223 => ?_) (fun h223 => ?_)
            · replace hf := (if_pos h223).symm.trans hf
              refine v_sub _ [0, 1, 2, 3] rfl ?_
              exact hj2035 v222.2 hf
            · replace hf := (if_neg h223).symm.trans hf
              refine v_iconst (0 : Int32) G dL_law_1202 (by decide) ?_
              exact absurd (Option.some.inj hf) (by decide)
          refine v_if_eq 1195 G dL_law_1188 (by decide) (fun h224 => ?_) (fun h224 => ?_)
          · replace hf := (if_pos h224).symm.trans hf
            refine v_iconst (0 : Int32) G dL_law_1195 (by decide) ?_
            refine v_sub _ [0, 1, 2, 3] rfl ?_
            exact hj1196 (0 : Int32) hf
          · replace hf := (if_neg h224).symm.trans hf
            refine v_iconst (1 : Int32) G dL_law_1191 (by decide) ?_
            refine v_goto 1196 G dL_law_1192 (by decide) ?_
            refine v_sub _ [0, 1, 2, 3] rfl ?_
            exact hj1196 (1 : Int32) hf
        refine v_if_eq 1173 G dL_law_1166 (by decide) (fun h225 => ?_) (fun h225 => ?_)
        · replace hf := (if_pos h225).symm.trans hf
          refine v_iconst (0 : Int32) G dL_law_1173 (by decide) ?_
          refine v_sub _ [0, 1, 2, 3] rfl ?_
          exact hj1174 (0 : Int32) hf
        · replace hf := (if_neg h225).symm.trans hf
          refine v_iconst (1 : Int32) G dL_law_1169 (by decide) ?_
          refine v_goto 1174 G dL_law_1170 (by decide) ?_
          refine v_sub _ [0, 1, 2, 3] rfl ?_
          exact hj1174 (1 : Int32) hf
      replace hf := (if_neg h226).symm.trans hf
      by_cases h234 : v2 = (27 : Int32)
      · replace hf := (if_pos h234).symm.trans hf
        refine v_tabIn (off := 1171) 1204 G dL_law_33 (by rw [h234]; decide) (by rw [h234]; decide) (by rw [h234]; rfl) (by decide) ?_
        refine v_aload_n G dL_law_1204 1 rfl ?_
        refine v_aload_n G dL_law_1205 0 rfl ?_
        refine v_iload_n G dL_law_1206 3 rfl ?_
        refine v_iconst (1 : Int32) G dL_law_1207 (by decide) ?_
        refine v_iadd G dL_law_1208 ?_
        obtain ⟨g227, hf⟩ := gd_e hf
        refine v_sld G GS g227 dL_law_1209 ?_
        refine v_aload_n G dL_law_1210 0 rfl ?_
        refine v_iload_n G dL_law_1211 3 rfl ?_
        refine v_iconst (2 : Int32) G dL_law_1212 (by decide) ?_
        refine v_iadd G dL_law_1213 ?_
        obtain ⟨g228, hf⟩ := gd_e hf
        refine v_sld G GS g228 dL_law_1214 ?_
        obtain ⟨v229, hcv229, hf⟩ := bd_e hf
        refine v_callV [.int (xs ((w3 + (1 : Int32))).toNatClampNeg), .int (xs ((w3 + (2 : Int32))).toNatClampNeg)] G (c_X11_settle n h1 hcv229) h1 (by decide) rfl rfl rfl t_1166 t_1167 t_1168 t_1 t_1169 nm_X11_settle (by decide) (by decide) rfl rfl (Nat.le_of_ble_eq_true rfl) dL_law_1215 (kv_ri ?_)
        refine v_aload_n G dL_law_1218 2 rfl ?_
        refine v_aload_n G dL_law_1219 0 rfl ?_
        refine v_iload_n G dL_law_1220 3 rfl ?_
        refine v_iconst (1 : Int32) G dL_law_1221 (by decide) ?_
        refine v_iadd G dL_law_1222 ?_
        obtain ⟨g230, hf⟩ := gd_e hf
        refine v_sld G GS g230 dL_law_1223 ?_
        refine v_aload_n G dL_law_1224 0 rfl ?_
        refine v_iload_n G dL_law_1225 3 rfl ?_
        refine v_iconst (2 : Int32) G dL_law_1226 (by decide) ?_
        refine v_iadd G dL_law_1227 ?_
        obtain ⟨g231, hf⟩ := gd_e hf
        refine v_sld G GS g231 dL_law_1228 ?_
        obtain ⟨v232, hcv232, hf⟩ := bd_e hf
        refine v_callV [.int (xs ((w3 + (1 : Int32))).toNatClampNeg), .int (xs ((w3 + (2 : Int32))).toNatClampNeg)] G (c_X12_settle n h2 hcv232) h2 (by decide) rfl rfl rfl t_2086 t_2087 t_2088 t_17 t_2089 nm_X12_settle (by decide) (by decide) rfl rfl (Nat.le_of_ble_eq_true rfl) dL_law_1229 (kv_ri ?_)
        refine v_icmp_eq 2035 G dL_law_1232 (by decide) (fun h233 => ?_) (fun h233 => ?_)
        · replace hf := (if_pos h233).symm.trans hf
          refine v_sub _ [0, 1, 2, 3] rfl ?_
          exact hj2035 v232.2 hf
        · replace hf := (if_neg h233).symm.trans hf
          refine v_iconst (0 : Int32) G dL_law_1235 (by decide) ?_
          exact absurd (Option.some.inj hf) (by decide)
      replace hf := (if_neg h234).symm.trans hf
      by_cases h242 : v2 = (28 : Int32)
      · replace hf := (if_pos h242).symm.trans hf
        refine v_tabIn (off := 1204) 1237 G dL_law_33 (by rw [h242]; decide) (by rw [h242]; decide) (by rw [h242]; rfl) (by decide) ?_
        refine v_aload_n G dL_law_1237 1 rfl ?_
        refine v_aload_n G dL_law_1238 0 rfl ?_
        refine v_iload_n G dL_law_1239 3 rfl ?_
        refine v_iconst (1 : Int32) G dL_law_1240 (by decide) ?_
        refine v_iadd G dL_law_1241 ?_
        obtain ⟨g235, hf⟩ := gd_e hf
        refine v_sld G GS g235 dL_law_1242 ?_
        refine v_aload_n G dL_law_1243 0 rfl ?_
        refine v_iload_n G dL_law_1244 3 rfl ?_
        refine v_iconst (2 : Int32) G dL_law_1245 (by decide) ?_
        refine v_iadd G dL_law_1246 ?_
        obtain ⟨g236, hf⟩ := gd_e hf
        refine v_sld G GS g236 dL_law_1247 ?_
        obtain ⟨v237, hcv237⟩ : ∃ q, f_X11_rule a1 (xs ((w3 + (1 : Int32))).toNatClampNeg) (xs ((w3 + (2 : Int32))).toNatClampNeg) M = q := ⟨_, rfl⟩
        replace hf := lt_e hf hcv237.symm
        refine v_callV [.int (xs ((w3 + (1 : Int32))).toNatClampNeg), .int (xs ((w3 + (2 : Int32))).toNatClampNeg)] G (c_X11_rule h1 hcv237) h1 (by decide) rfl rfl rfl t_1170 t_1171 t_1172 t_1 t_1173 nm_X11_rule (by decide) (by decide) rfl rfl (Nat.le_of_ble_eq_true rfl) dL_law_1248 (kv_ri ?_)
        refine v_aload_n G dL_law_1251 2 rfl ?_
        refine v_aload_n G dL_law_1252 0 rfl ?_
        refine v_iload_n G dL_law_1253 3 rfl ?_
        refine v_iconst (1 : Int32) G dL_law_1254 (by decide) ?_
        refine v_iadd G dL_law_1255 ?_
        obtain ⟨g238, hf⟩ := gd_e hf
        refine v_sld G GS g238 dL_law_1256 ?_
        refine v_aload_n G dL_law_1257 0 rfl ?_
        refine v_iload_n G dL_law_1258 3 rfl ?_
        refine v_iconst (2 : Int32) G dL_law_1259 (by decide) ?_
        refine v_iadd G dL_law_1260 ?_
        obtain ⟨g239, hf⟩ := gd_e hf
        refine v_sld G GS g239 dL_law_1261 ?_
        obtain ⟨v240, hcv240, hf⟩ := bd_e hf
        refine v_callV [.int (xs ((w3 + (1 : Int32))).toNatClampNeg), .int (xs ((w3 + (2 : Int32))).toNatClampNeg)] G (c_X12_rule n h2 hcv240) h2 (by decide) rfl rfl rfl t_2090 t_2091 t_2092 t_17 t_2093 nm_X12_rule (by decide) (by decide) rfl rfl (Nat.le_of_ble_eq_true rfl) dL_law_1262 (kv_ri ?_)
        refine v_icmp_eq 2035 G dL_law_1265 (by decide) (fun h241 => ?_) (fun h241 => ?_)
        · replace hf := (if_pos h241).symm.trans hf
          refine v_sub _ [0, 1, 2, 3] rfl ?_
          exact hj2035 v240.2 hf
        · replace hf := (if_neg h241).symm.trans hf
          refine v_iconst (0 : Int32) G dL_law_1268 (by decide) ?_
          exact absurd (Option.some.inj hf) (by decide)
      replace hf := (if_neg h242).symm.trans hf
      by_cases h248 : v2 = (29 : Int32)
      · replace hf := (if_pos h248).symm.trans hf
        refine v_tabIn (off := 1237) 1270 G dL_law_33 (by rw [h248]; decide) (by rw [h248]; decide) (by rw [h248]; rfl) (by decide) ?_
        refine v_aload_n G dL_law_1270 1 rfl ?_
        refine v_aload_n G dL_law_1271 0 rfl ?_
        refine v_iload_n G dL_law_1272 3 rfl ?_
        refine v_iconst (1 : Int32) G dL_law_1273 (by decide) ?_
        refine v_iadd G dL_law_1274 ?_
        obtain ⟨g243, hf⟩ := gd_e hf
        refine v_sld G GS g243 dL_law_1275 ?_
        obtain ⟨v244, hcv244, hf⟩ := bd_e hf
        refine v_callV [.int (xs ((w3 + (1 : Int32))).toNatClampNeg)] G (c_X11_glareAt n h1 hcv244) h1 (by decide) rfl rfl rfl t_1178 t_1179 t_1180 t_1 t_1181 nm_X11_glareAt (by decide) (by decide) rfl rfl (Nat.le_of_ble_eq_true rfl) dL_law_1276 (kv_ri ?_)
        refine v_aload_n G dL_law_1279 2 rfl ?_
        refine v_aload_n G dL_law_1280 0 rfl ?_
        refine v_iload_n G dL_law_1281 3 rfl ?_
        refine v_iconst (1 : Int32) G dL_law_1282 (by decide) ?_
        refine v_iadd G dL_law_1283 ?_
        obtain ⟨g245, hf⟩ := gd_e hf
        refine v_sld G GS g245 dL_law_1284 ?_
        obtain ⟨v246, hcv246, hf⟩ := bd_e hf
        refine v_callV [.int (xs ((w3 + (1 : Int32))).toNatClampNeg)] G (c_X12_glareAt n h2 hcv246) h2 (by decide) rfl rfl rfl t_2099 t_2100 t_2101 t_17 t_2102 nm_X12_glareAt (by decide) (by decide) rfl rfl (Nat.le_of_ble_eq_true rfl) dL_law_1285 (kv_ri ?_)
        refine v_icmp_eq 2035 G dL_law_1288 (by decide) (fun h247 => ?_) (fun h247 => ?_)
        · replace hf := (if_pos h247).symm.trans hf
          refine v_sub _ [0, 1, 2, 3] rfl ?_
          exact hj2035 v246.2 hf
        · replace hf := (if_neg h247).symm.trans hf
          refine v_iconst (0 : Int32) G dL_law_1291 (by decide) ?_
          exact absurd (Option.some.inj hf) (by decide)
      replace hf := (if_neg h248).symm.trans hf
      by_cases h256 : v2 = (30 : Int32)
      · replace hf := (if_pos h256).symm.trans hf
        refine v_tabIn (off := 1260) 1293 G dL_law_33 (by rw [h256]; decide) (by rw [h256]; decide) (by rw [h256]; rfl) (by decide) ?_
        refine v_aload_n G dL_law_1293 1 rfl ?_
        refine v_aload_n G dL_law_1294 0 rfl ?_
        refine v_iload_n G dL_law_1295 3 rfl ?_
        refine v_iconst (1 : Int32) G dL_law_1296 (by decide) ?_
        refine v_iadd G dL_law_1297 ?_
        obtain ⟨g249, hf⟩ := gd_e hf
        refine v_sld G GS g249 dL_law_1298 ?_
        refine v_aload_n G dL_law_1299 0 rfl ?_
        refine v_iload_n G dL_law_1300 3 rfl ?_
        refine v_iconst (2 : Int32) G dL_law_1301 (by decide) ?_
        refine v_iadd G dL_law_1302 ?_
        obtain ⟨g250, hf⟩ := gd_e hf
        refine v_sld G GS g250 dL_law_1303 ?_
        obtain ⟨v251, hcv251, hf⟩ := bd_e hf
        refine v_callV [.int (xs ((w3 + (1 : Int32))).toNatClampNeg), .int (xs ((w3 + (2 : Int32))).toNatClampNeg)] G (c_X11_can n h1 hcv251) h1 (by decide) rfl rfl rfl t_1183 t_1184 t_1185 t_1 t_1186 nm_X11_can (by decide) (by decide) rfl rfl (Nat.le_of_ble_eq_true rfl) dL_law_1304 (kv_ri ?_)
        refine v_aload_n G dL_law_1307 2 rfl ?_
        refine v_aload_n G dL_law_1308 0 rfl ?_
        refine v_iload_n G dL_law_1309 3 rfl ?_
        refine v_iconst (1 : Int32) G dL_law_1310 (by decide) ?_
        refine v_iadd G dL_law_1311 ?_
        obtain ⟨g252, hf⟩ := gd_e hf
        refine v_sld G GS g252 dL_law_1312 ?_
        refine v_aload_n G dL_law_1313 0 rfl ?_
        refine v_iload_n G dL_law_1314 3 rfl ?_
        refine v_iconst (2 : Int32) G dL_law_1315 (by decide) ?_
        refine v_iadd G dL_law_1316 ?_
        obtain ⟨g253, hf⟩ := gd_e hf
        refine v_sld G GS g253 dL_law_1317 ?_
        obtain ⟨v254, hcv254, hf⟩ := bd_e hf
        refine v_callV [.int (xs ((w3 + (1 : Int32))).toNatClampNeg), .int (xs ((w3 + (2 : Int32))).toNatClampNeg)] G (c_X12_can n h2 hcv254) h2 (by decide) rfl rfl rfl t_2104 t_2105 t_2106 t_17 t_2107 nm_X12_can (by decide) (by decide) rfl rfl (Nat.le_of_ble_eq_true rfl) dL_law_1318 (kv_ri ?_)
        refine v_icmp_eq 2035 G dL_law_1321 (by decide) (fun h255 => ?_) (fun h255 => ?_)
        · replace hf := (if_pos h255).symm.trans hf
          refine v_sub _ [0, 1, 2, 3] rfl ?_
          exact hj2035 v254.2 hf
        · replace hf := (if_neg h255).symm.trans hf
          refine v_iconst (0 : Int32) G dL_law_1324 (by decide) ?_
          exact absurd (Option.some.inj hf) (by decide)
      replace hf := (if_neg h256).symm.trans hf
      by_cases h264 : v2 = (31 : Int32)
      · replace hf := (if_pos h264).symm.trans hf
        refine v_tabIn (off := 1293) 1326 G dL_law_33 (by rw [h264]; decide) (by rw [h264]; decide) (by rw [h264]; rfl) (by decide) ?_
        refine v_aload_n G dL_law_1326 1 rfl ?_
        refine v_aload_n G dL_law_1327 0 rfl ?_
        refine v_iload_n G dL_law_1328 3 rfl ?_
        refine v_iconst (1 : Int32) G dL_law_1329 (by decide) ?_
        refine v_iadd G dL_law_1330 ?_
        obtain ⟨g257, hf⟩ := gd_e hf
        refine v_sld G GS g257 dL_law_1331 ?_
        refine v_aload_n G dL_law_1332 0 rfl ?_
        refine v_iload_n G dL_law_1333 3 rfl ?_
        refine v_iconst (2 : Int32) G dL_law_1334 (by decide) ?_
        refine v_iadd G dL_law_1335 ?_
        obtain ⟨g258, hf⟩ := gd_e hf
        refine v_sld G GS g258 dL_law_1336 ?_
        obtain ⟨v259, hcv259, hf⟩ := bd_e hf
        refine v_callV [.int (xs ((w3 + (1 : Int32))).toNatClampNeg), .int (xs ((w3 + (2 : Int32))).toNatClampNeg)] G (c_X11_guides n h1 hcv259) h1 (by decide) rfl rfl rfl t_1188 t_1189 t_1190 t_1 t_1191 nm_X11_guides (by decide) (by decide) rfl rfl (Nat.le_of_ble_eq_true rfl) dL_law_1337 (kv_ri ?_)
        refine v_aload_n G dL_law_1340 2 rfl ?_
        refine v_aload_n G dL_law_1341 0 rfl ?_
        refine v_iload_n G dL_law_1342 3 rfl ?_
        refine v_iconst (1 : Int32) G dL_law_1343 (by decide) ?_
        refine v_iadd G dL_law_1344 ?_
        obtain ⟨g260, hf⟩ := gd_e hf
        refine v_sld G GS g260 dL_law_1345 ?_
        refine v_aload_n G dL_law_1346 0 rfl ?_
        refine v_iload_n G dL_law_1347 3 rfl ?_
        refine v_iconst (2 : Int32) G dL_law_1348 (by decide) ?_
        refine v_iadd G dL_law_1349 ?_
        obtain ⟨g261, hf⟩ := gd_e hf
        refine v_sld G GS g261 dL_law_1350 ?_
        obtain ⟨v262, hcv262, hf⟩ := bd_e hf
        refine v_callV [.int (xs ((w3 + (1 : Int32))).toNatClampNeg), .int (xs ((w3 + (2 : Int32))).toNatClampNeg)] G (c_X12_guides n h2 hcv262) h2 (by decide) rfl rfl rfl t_2108 t_2109 t_2110 t_17 t_2111 nm_X12_guides (by decide) (by decide) rfl rfl (Nat.le_of_ble_eq_true rfl) dL_law_1351 (kv_ri ?_)
        refine v_icmp_eq 2035 G dL_law_1354 (by decide) (fun h263 => ?_) (fun h263 => ?_)
        · replace hf := (if_pos h263).symm.trans hf
          refine v_sub _ [0, 1, 2, 3] rfl ?_
          exact hj2035 v262.2 hf
        · replace hf := (if_neg h263).symm.trans hf
          refine v_iconst (0 : Int32) G dL_law_1357 (by decide) ?_
          exact absurd (Option.some.inj hf) (by decide)
      replace hf := (if_neg h264).symm.trans hf
      by_cases h268 : v2 = (32 : Int32)
      · replace hf := (if_pos h268).symm.trans hf
        refine v_tabIn (off := 1326) 1359 G dL_law_33 (by rw [h268]; decide) (by rw [h268]; decide) (by rw [h268]; rfl) (by decide) ?_
        refine v_aload_n G dL_law_1359 1 rfl ?_
        obtain ⟨v265, hcv265, hf⟩ := bd_e hf
        refine v_callV [] G (c_X11_stuck n h1 hcv265) h1 (by decide) rfl rfl rfl t_1196 t_1197 t_1198 t_1 t_1199 nm_X11_stuck (by decide) (by decide) rfl rfl (Nat.le_of_ble_eq_true rfl) dL_law_1360 (kv_ri ?_)
        refine v_aload_n G dL_law_1363 2 rfl ?_
        obtain ⟨v266, hcv266, hf⟩ := bd_e hf
        refine v_callV [] G (c_X12_stuck n h2 hcv266) h2 (by decide) rfl rfl rfl t_2112 t_2113 t_2114 t_17 t_2115 nm_X12_stuck (by decide) (by decide) rfl rfl (Nat.le_of_ble_eq_true rfl) dL_law_1364 (kv_ri ?_)
        refine v_icmp_eq 2035 G dL_law_1367 (by decide) (fun h267 => ?_) (fun h267 => ?_)
        · replace hf := (if_pos h267).symm.trans hf
          refine v_sub _ [0, 1, 2, 3] rfl ?_
          exact hj2035 v266.2 hf
        · replace hf := (if_neg h267).symm.trans hf
          refine v_iconst (0 : Int32) G dL_law_1370 (by decide) ?_
          exact absurd (Option.some.inj hf) (by decide)
      replace hf := (if_neg h268).symm.trans hf
      by_cases h274 : v2 = (33 : Int32)
      · replace hf := (if_pos h274).symm.trans hf
        refine v_tabIn (off := 1339) 1372 G dL_law_33 (by rw [h274]; decide) (by rw [h274]; decide) (by rw [h274]; rfl) (by decide) ?_
        refine v_aload_n G dL_law_1372 1 rfl ?_
        refine v_aload_n G dL_law_1373 0 rfl ?_
        refine v_iload_n G dL_law_1374 3 rfl ?_
        refine v_iconst (1 : Int32) G dL_law_1375 (by decide) ?_
        refine v_iadd G dL_law_1376 ?_
        obtain ⟨g269, hf⟩ := gd_e hf
        refine v_sld G GS g269 dL_law_1377 ?_
        obtain ⟨v270, hcv270, hf⟩ := bd_e hf
        refine v_callV [.int (xs ((w3 + (1 : Int32))).toNatClampNeg)] G (c_X11_reach n h1 hcv270) h1 (by decide) rfl rfl rfl t_1208 t_1209 t_1210 t_1 t_1211 nm_X11_reach (by decide) (by decide) rfl rfl (Nat.le_of_ble_eq_true rfl) dL_law_1378 (kv_ri ?_)
        refine v_aload_n G dL_law_1381 2 rfl ?_
        refine v_aload_n G dL_law_1382 0 rfl ?_
        refine v_iload_n G dL_law_1383 3 rfl ?_
        refine v_iconst (1 : Int32) G dL_law_1384 (by decide) ?_
        refine v_iadd G dL_law_1385 ?_
        obtain ⟨g271, hf⟩ := gd_e hf
        refine v_sld G GS g271 dL_law_1386 ?_
        obtain ⟨v272, hcv272, hf⟩ := bd_e hf
        refine v_callV [.int (xs ((w3 + (1 : Int32))).toNatClampNeg)] G (c_X12_reach n h2 hcv272) h2 (by decide) rfl rfl rfl t_2120 t_2121 t_2122 t_17 t_2123 nm_X12_reach (by decide) (by decide) rfl rfl (Nat.le_of_ble_eq_true rfl) dL_law_1387 (kv_ri ?_)
        refine v_icmp_eq 2035 G dL_law_1390 (by decide) (fun h273 => ?_) (fun h273 => ?_)
        · replace hf := (if_pos h273).symm.trans hf
          refine v_sub _ [0, 1, 2, 3] rfl ?_
          exact hj2035 v272.2 hf
        · replace hf := (if_neg h273).symm.trans hf
          refine v_iconst (0 : Int32) G dL_law_1393 (by decide) ?_
          exact absurd (Option.some.inj hf) (by decide)
      replace hf := (if_neg h274).symm.trans hf
      by_cases h280 : v2 = (34 : Int32)
      · replace hf := (if_pos h280).symm.trans hf
        refine v_tabIn (off := 1362) 1395 G dL_law_33 (by rw [h280]; decide) (by rw [h280]; decide) (by rw [h280]; rfl) (by decide) ?_
        refine v_aload_n G dL_law_1395 1 rfl ?_
        refine v_aload_n G dL_law_1396 0 rfl ?_
        refine v_iload_n G dL_law_1397 3 rfl ?_
        refine v_iconst (1 : Int32) G dL_law_1398 (by decide) ?_
        refine v_iadd G dL_law_1399 ?_
        obtain ⟨g275, hf⟩ := gd_e hf
        refine v_sld G GS g275 dL_law_1400 ?_
        obtain ⟨v276, hcv276, hf⟩ := bd_e hf
        refine v_callV [.int (xs ((w3 + (1 : Int32))).toNatClampNeg)] G (c_X11_nextGlare n h1 hcv276) h1 (by decide) rfl rfl rfl t_1221 t_1222 t_1223 t_1 t_1224 nm_X11_nextGlare (by decide) (by decide) rfl rfl (Nat.le_of_ble_eq_true rfl) dL_law_1401 (kv_ri ?_)
        refine v_aload_n G dL_law_1404 2 rfl ?_
        refine v_aload_n G dL_law_1405 0 rfl ?_
        refine v_iload_n G dL_law_1406 3 rfl ?_
        refine v_iconst (1 : Int32) G dL_law_1407 (by decide) ?_
        refine v_iadd G dL_law_1408 ?_
        obtain ⟨g277, hf⟩ := gd_e hf
        refine v_sld G GS g277 dL_law_1409 ?_
        obtain ⟨v278, hcv278, hf⟩ := bd_e hf
        refine v_callV [.int (xs ((w3 + (1 : Int32))).toNatClampNeg)] G (c_X12_nextGlare n h2 hcv278) h2 (by decide) rfl rfl rfl t_2124 t_2125 t_2126 t_17 t_2127 nm_X12_nextGlare (by decide) (by decide) rfl rfl (Nat.le_of_ble_eq_true rfl) dL_law_1410 (kv_ri ?_)
        refine v_icmp_eq 2035 G dL_law_1413 (by decide) (fun h279 => ?_) (fun h279 => ?_)
        · replace hf := (if_pos h279).symm.trans hf
          refine v_sub _ [0, 1, 2, 3] rfl ?_
          exact hj2035 v278.2 hf
        · replace hf := (if_neg h279).symm.trans hf
          refine v_iconst (0 : Int32) G dL_law_1416 (by decide) ?_
          exact absurd (Option.some.inj hf) (by decide)
      replace hf := (if_neg h280).symm.trans hf
      by_cases h288 : v2 = (35 : Int32)
      · replace hf := (if_pos h288).symm.trans hf
        refine v_tabIn (off := 1385) 1418 G dL_law_33 (by rw [h288]; decide) (by rw [h288]; decide) (by rw [h288]; rfl) (by decide) ?_
        refine v_aload_n G dL_law_1418 1 rfl ?_
        refine v_aload_n G dL_law_1419 0 rfl ?_
        refine v_iload_n G dL_law_1420 3 rfl ?_
        refine v_iconst (1 : Int32) G dL_law_1421 (by decide) ?_
        refine v_iadd G dL_law_1422 ?_
        obtain ⟨g281, hf⟩ := gd_e hf
        refine v_sld G GS g281 dL_law_1423 ?_
        refine v_aload_n G dL_law_1424 0 rfl ?_
        refine v_iload_n G dL_law_1425 3 rfl ?_
        refine v_iconst (2 : Int32) G dL_law_1426 (by decide) ?_
        refine v_iadd G dL_law_1427 ?_
        obtain ⟨g282, hf⟩ := gd_e hf
        refine v_sld G GS g282 dL_law_1428 ?_
        obtain ⟨v283, hcv283, hf⟩ := bd_e hf
        refine v_callV [.int (xs ((w3 + (1 : Int32))).toNatClampNeg), .int (xs ((w3 + (2 : Int32))).toNatClampNeg)] G (c_X11_soonest n h1 hcv283) h1 (by decide) rfl rfl rfl t_1225 t_1226 t_1227 t_1 t_1228 nm_X11_soonest (by decide) (by decide) rfl rfl (Nat.le_of_ble_eq_true rfl) dL_law_1429 (kv_ri ?_)
        refine v_aload_n G dL_law_1432 2 rfl ?_
        refine v_aload_n G dL_law_1433 0 rfl ?_
        refine v_iload_n G dL_law_1434 3 rfl ?_
        refine v_iconst (1 : Int32) G dL_law_1435 (by decide) ?_
        refine v_iadd G dL_law_1436 ?_
        obtain ⟨g284, hf⟩ := gd_e hf
        refine v_sld G GS g284 dL_law_1437 ?_
        refine v_aload_n G dL_law_1438 0 rfl ?_
        refine v_iload_n G dL_law_1439 3 rfl ?_
        refine v_iconst (2 : Int32) G dL_law_1440 (by decide) ?_
        refine v_iadd G dL_law_1441 ?_
        obtain ⟨g285, hf⟩ := gd_e hf
        refine v_sld G GS g285 dL_law_1442 ?_
        obtain ⟨v286, hcv286, hf⟩ := bd_e hf
        refine v_callV [.int (xs ((w3 + (1 : Int32))).toNatClampNeg), .int (xs ((w3 + (2 : Int32))).toNatClampNeg)] G (c_X12_soonest n h2 hcv286) h2 (by decide) rfl rfl rfl t_2128 t_2129 t_2130 t_17 t_2131 nm_X12_soonest (by decide) (by decide) rfl rfl (Nat.le_of_ble_eq_true rfl) dL_law_1443 (kv_ri ?_)
        refine v_icmp_eq 2035 G dL_law_1446 (by decide) (fun h287 => ?_) (fun h287 => ?_)
        · replace hf := (if_pos h287).symm.trans hf
          refine v_sub _ [0, 1, 2, 3] rfl ?_
          exact hj2035 v286.2 hf
        · replace hf := (if_neg h287).symm.trans hf
          refine v_iconst (0 : Int32) G dL_law_1449 (by decide) ?_
          exact absurd (Option.some.inj hf) (by decide)
      replace hf := (if_neg h288).symm.trans hf
      by_cases h296 : v2 = (36 : Int32)
      · replace hf := (if_pos h296).symm.trans hf
        refine v_tabIn (off := 1418) 1451 G dL_law_33 (by rw [h296]; decide) (by rw [h296]; decide) (by rw [h296]; rfl) (by decide) ?_
        refine v_aload_n G dL_law_1451 1 rfl ?_
        refine v_aload_n G dL_law_1452 0 rfl ?_
        refine v_iload_n G dL_law_1453 3 rfl ?_
        refine v_iconst (1 : Int32) G dL_law_1454 (by decide) ?_
        refine v_iadd G dL_law_1455 ?_
        obtain ⟨g289, hf⟩ := gd_e hf
        refine v_sld G GS g289 dL_law_1456 ?_
        refine v_aload_n G dL_law_1457 0 rfl ?_
        refine v_iload_n G dL_law_1458 3 rfl ?_
        refine v_iconst (2 : Int32) G dL_law_1459 (by decide) ?_
        refine v_iadd G dL_law_1460 ?_
        obtain ⟨g290, hf⟩ := gd_e hf
        refine v_sld G GS g290 dL_law_1461 ?_
        obtain ⟨v291, hcv291, hf⟩ := bd_e hf
        refine v_callV [.int (xs ((w3 + (1 : Int32))).toNatClampNeg), .int (xs ((w3 + (2 : Int32))).toNatClampNeg)] G (c_X11_soonestFirst n h1 hcv291) h1 (by decide) rfl rfl rfl t_1263 t_1264 t_1265 t_1 t_1266 nm_X11_soonestFirst (by decide) (by decide) rfl rfl (Nat.le_of_ble_eq_true rfl) dL_law_1462 (kv_ri ?_)
        refine v_aload_n G dL_law_1465 2 rfl ?_
        refine v_aload_n G dL_law_1466 0 rfl ?_
        refine v_iload_n G dL_law_1467 3 rfl ?_
        refine v_iconst (1 : Int32) G dL_law_1468 (by decide) ?_
        refine v_iadd G dL_law_1469 ?_
        obtain ⟨g292, hf⟩ := gd_e hf
        refine v_sld G GS g292 dL_law_1470 ?_
        refine v_aload_n G dL_law_1471 0 rfl ?_
        refine v_iload_n G dL_law_1472 3 rfl ?_
        refine v_iconst (2 : Int32) G dL_law_1473 (by decide) ?_
        refine v_iadd G dL_law_1474 ?_
        obtain ⟨g293, hf⟩ := gd_e hf
        refine v_sld G GS g293 dL_law_1475 ?_
        obtain ⟨v294, hcv294, hf⟩ := bd_e hf
        refine v_callV [.int (xs ((w3 + (1 : Int32))).toNatClampNeg), .int (xs ((w3 + (2 : Int32))).toNatClampNeg)] G (c_X12_soonestFirst n h2 hcv294) h2 (by decide) rfl rfl rfl t_2152 t_2153 t_2154 t_17 t_2155 nm_X12_soonestFirst (by decide) (by decide) rfl rfl (Nat.le_of_ble_eq_true rfl) dL_law_1476 (kv_ri ?_)
        refine v_icmp_eq 2035 G dL_law_1479 (by decide) (fun h295 => ?_) (fun h295 => ?_)
        · replace hf := (if_pos h295).symm.trans hf
          refine v_sub _ [0, 1, 2, 3] rfl ?_
          exact hj2035 v294.2 hf
        · replace hf := (if_neg h295).symm.trans hf
          refine v_iconst (0 : Int32) G dL_law_1482 (by decide) ?_
          exact absurd (Option.some.inj hf) (by decide)
      replace hf := (if_neg h296).symm.trans hf
      by_cases h306 : v2 = (37 : Int32)
      · replace hf := (if_pos h306).symm.trans hf
        refine v_tabIn (off := 1451) 1484 G dL_law_33 (by rw [h306]; decide) (by rw [h306]; decide) (by rw [h306]; rfl) (by decide) ?_
        refine v_aload_n G dL_law_1484 1 rfl ?_
        refine v_aload_n G dL_law_1485 0 rfl ?_
        refine v_iload_n G dL_law_1486 3 rfl ?_
        refine v_iconst (1 : Int32) G dL_law_1487 (by decide) ?_
        refine v_iadd G dL_law_1488 ?_
        obtain ⟨g297, hf⟩ := gd_e hf
        refine v_sld G GS g297 dL_law_1489 ?_
        refine v_aload_n G dL_law_1490 0 rfl ?_
        refine v_iload_n G dL_law_1491 3 rfl ?_
        refine v_iconst (2 : Int32) G dL_law_1492 (by decide) ?_
        refine v_iadd G dL_law_1493 ?_
        obtain ⟨g298, hf⟩ := gd_e hf
        refine v_sld G GS g298 dL_law_1494 ?_
        refine v_aload_n G dL_law_1495 0 rfl ?_
        refine v_iload_n G dL_law_1496 3 rfl ?_
        refine v_iconst (3 : Int32) G dL_law_1497 (by decide) ?_
        refine v_iadd G dL_law_1498 ?_
        obtain ⟨g299, hf⟩ := gd_e hf
        refine v_sld G GS g299 dL_law_1499 ?_
        obtain ⟨v300, hcv300, hf⟩ := bd_e hf
        refine v_callV [.int (xs ((w3 + (1 : Int32))).toNatClampNeg), .int (xs ((w3 + (2 : Int32))).toNatClampNeg), .int (xs ((w3 + (3 : Int32))).toNatClampNeg)] G (c_X11_soonestTwo n h1 hcv300) h1 (by decide) rfl rfl rfl t_1273 t_1274 t_1275 t_1 t_1276 nm_X11_soonestTwo (by decide) (by decide) rfl rfl (Nat.le_of_ble_eq_true rfl) dL_law_1500 (kv_ri ?_)
        refine v_aload_n G dL_law_1503 2 rfl ?_
        refine v_aload_n G dL_law_1504 0 rfl ?_
        refine v_iload_n G dL_law_1505 3 rfl ?_
        refine v_iconst (1 : Int32) G dL_law_1506 (by decide) ?_
        refine v_iadd G dL_law_1507 ?_
        obtain ⟨g301, hf⟩ := gd_e hf
        refine v_sld G GS g301 dL_law_1508 ?_
        refine v_aload_n G dL_law_1509 0 rfl ?_
        refine v_iload_n G dL_law_1510 3 rfl ?_
        refine v_iconst (2 : Int32) G dL_law_1511 (by decide) ?_
        refine v_iadd G dL_law_1512 ?_
        obtain ⟨g302, hf⟩ := gd_e hf
        refine v_sld G GS g302 dL_law_1513 ?_
        refine v_aload_n G dL_law_1514 0 rfl ?_
        refine v_iload_n G dL_law_1515 3 rfl ?_
        refine v_iconst (3 : Int32) G dL_law_1516 (by decide) ?_
        refine v_iadd G dL_law_1517 ?_
        obtain ⟨g303, hf⟩ := gd_e hf
        refine v_sld G GS g303 dL_law_1518 ?_
        obtain ⟨v304, hcv304, hf⟩ := bd_e hf
        refine v_callV [.int (xs ((w3 + (1 : Int32))).toNatClampNeg), .int (xs ((w3 + (2 : Int32))).toNatClampNeg), .int (xs ((w3 + (3 : Int32))).toNatClampNeg)] G (c_X12_soonestTwo n h2 hcv304) h2 (by decide) rfl rfl rfl t_2156 t_2157 t_2158 t_17 t_2159 nm_X12_soonestTwo (by decide) (by decide) rfl rfl (Nat.le_of_ble_eq_true rfl) dL_law_1519 (kv_ri ?_)
        refine v_icmp_eq 2035 G dL_law_1522 (by decide) (fun h305 => ?_) (fun h305 => ?_)
        · replace hf := (if_pos h305).symm.trans hf
          refine v_sub _ [0, 1, 2, 3] rfl ?_
          exact hj2035 v304.2 hf
        · replace hf := (if_neg h305).symm.trans hf
          refine v_iconst (0 : Int32) G dL_law_1525 (by decide) ?_
          exact absurd (Option.some.inj hf) (by decide)
      replace hf := (if_neg h306).symm.trans hf
      by_cases h314 : v2 = (38 : Int32)
      · replace hf := (if_pos h314).symm.trans hf
        refine v_tabIn (off := 1494) 1527 G dL_law_33 (by rw [h314]; decide) (by rw [h314]; decide) (by rw [h314]; rfl) (by decide) ?_
        refine v_aload_n G dL_law_1527 1 rfl ?_
        refine v_aload_n G dL_law_1528 0 rfl ?_
        refine v_iload_n G dL_law_1529 3 rfl ?_
        refine v_iconst (1 : Int32) G dL_law_1530 (by decide) ?_
        refine v_iadd G dL_law_1531 ?_
        obtain ⟨g307, hf⟩ := gd_e hf
        refine v_sld G GS g307 dL_law_1532 ?_
        refine v_aload_n G dL_law_1533 0 rfl ?_
        refine v_iload_n G dL_law_1534 3 rfl ?_
        refine v_iconst (2 : Int32) G dL_law_1535 (by decide) ?_
        refine v_iadd G dL_law_1536 ?_
        obtain ⟨g308, hf⟩ := gd_e hf
        refine v_sld G GS g308 dL_law_1537 ?_
        obtain ⟨v309, hcv309, hf⟩ := bd_e hf
        refine v_callV [.int (xs ((w3 + (1 : Int32))).toNatClampNeg), .int (xs ((w3 + (2 : Int32))).toNatClampNeg)] G (c_X11_meet n h1 hcv309) h1 (by decide) rfl rfl rfl t_1284 t_1285 t_1286 t_1 t_1287 nm_X11_meet (by decide) (by decide) rfl rfl (Nat.le_of_ble_eq_true rfl) dL_law_1538 (kv_ri ?_)
        refine v_aload_n G dL_law_1541 2 rfl ?_
        refine v_aload_n G dL_law_1542 0 rfl ?_
        refine v_iload_n G dL_law_1543 3 rfl ?_
        refine v_iconst (1 : Int32) G dL_law_1544 (by decide) ?_
        refine v_iadd G dL_law_1545 ?_
        obtain ⟨g310, hf⟩ := gd_e hf
        refine v_sld G GS g310 dL_law_1546 ?_
        refine v_aload_n G dL_law_1547 0 rfl ?_
        refine v_iload_n G dL_law_1548 3 rfl ?_
        refine v_iconst (2 : Int32) G dL_law_1549 (by decide) ?_
        refine v_iadd G dL_law_1550 ?_
        obtain ⟨g311, hf⟩ := gd_e hf
        refine v_sld G GS g311 dL_law_1551 ?_
        obtain ⟨v312, hcv312, hf⟩ := bd_e hf
        refine v_callV [.int (xs ((w3 + (1 : Int32))).toNatClampNeg), .int (xs ((w3 + (2 : Int32))).toNatClampNeg)] G (c_X12_meet n h2 hcv312) h2 (by decide) rfl rfl rfl t_2164 t_2165 t_2166 t_17 t_2167 nm_X12_meet (by decide) (by decide) rfl rfl (Nat.le_of_ble_eq_true rfl) dL_law_1552 (kv_ri ?_)
        refine v_icmp_eq 2035 G dL_law_1555 (by decide) (fun h313 => ?_) (fun h313 => ?_)
        · replace hf := (if_pos h313).symm.trans hf
          refine v_sub _ [0, 1, 2, 3] rfl ?_
          exact hj2035 v312.2 hf
        · replace hf := (if_neg h313).symm.trans hf
          refine v_iconst (0 : Int32) G dL_law_1558 (by decide) ?_
          exact absurd (Option.some.inj hf) (by decide)
      replace hf := (if_neg h314).symm.trans hf
      by_cases h322 : v2 = (39 : Int32)
      · replace hf := (if_pos h322).symm.trans hf
        refine v_tabIn (off := 1527) 1560 G dL_law_33 (by rw [h322]; decide) (by rw [h322]; decide) (by rw [h322]; rfl) (by decide) ?_
        refine v_aload_n G dL_law_1560 1 rfl ?_
        refine v_aload_n G dL_law_1561 0 rfl ?_
        refine v_iload_n G dL_law_1562 3 rfl ?_
        refine v_iconst (1 : Int32) G dL_law_1563 (by decide) ?_
        refine v_iadd G dL_law_1564 ?_
        obtain ⟨g315, hf⟩ := gd_e hf
        refine v_sld G GS g315 dL_law_1565 ?_
        refine v_aload_n G dL_law_1566 0 rfl ?_
        refine v_iload_n G dL_law_1567 3 rfl ?_
        refine v_iconst (2 : Int32) G dL_law_1568 (by decide) ?_
        refine v_iadd G dL_law_1569 ?_
        obtain ⟨g316, hf⟩ := gd_e hf
        refine v_sld G GS g316 dL_law_1570 ?_
        obtain ⟨v317, hcv317, hf⟩ := bd_e hf
        refine v_callV [.int (xs ((w3 + (1 : Int32))).toNatClampNeg), .int (xs ((w3 + (2 : Int32))).toNatClampNeg)] G (c_X11_meetIn n h1 hcv317) h1 (by decide) rfl rfl rfl t_1294 t_1295 t_1296 t_1 t_1297 nm_X11_meetIn (by decide) (by decide) rfl rfl (Nat.le_of_ble_eq_true rfl) dL_law_1571 (kv_ri ?_)
        refine v_aload_n G dL_law_1574 2 rfl ?_
        refine v_aload_n G dL_law_1575 0 rfl ?_
        refine v_iload_n G dL_law_1576 3 rfl ?_
        refine v_iconst (1 : Int32) G dL_law_1577 (by decide) ?_
        refine v_iadd G dL_law_1578 ?_
        obtain ⟨g318, hf⟩ := gd_e hf
        refine v_sld G GS g318 dL_law_1579 ?_
        refine v_aload_n G dL_law_1580 0 rfl ?_
        refine v_iload_n G dL_law_1581 3 rfl ?_
        refine v_iconst (2 : Int32) G dL_law_1582 (by decide) ?_
        refine v_iadd G dL_law_1583 ?_
        obtain ⟨g319, hf⟩ := gd_e hf
        refine v_sld G GS g319 dL_law_1584 ?_
        obtain ⟨v320, hcv320, hf⟩ := bd_e hf
        refine v_callV [.int (xs ((w3 + (1 : Int32))).toNatClampNeg), .int (xs ((w3 + (2 : Int32))).toNatClampNeg)] G (c_X12_meetIn n h2 hcv320) h2 (by decide) rfl rfl rfl t_2172 t_2173 t_2174 t_17 t_2175 nm_X12_meetIn (by decide) (by decide) rfl rfl (Nat.le_of_ble_eq_true rfl) dL_law_1585 (kv_ri ?_)
        refine v_icmp_eq 2035 G dL_law_1588 (by decide) (fun h321 => ?_) (fun h321 => ?_)
        · replace hf := (if_pos h321).symm.trans hf
          refine v_sub _ [0, 1, 2, 3] rfl ?_
          exact hj2035 v320.2 hf
        · replace hf := (if_neg h321).symm.trans hf
          refine v_iconst (0 : Int32) G dL_law_1591 (by decide) ?_
          exact absurd (Option.some.inj hf) (by decide)
      replace hf := (if_neg h322).symm.trans hf
      by_cases h330 : v2 = (40 : Int32)
      · replace hf := (if_pos h330).symm.trans hf
        refine v_tabIn (off := 1560) 1593 G dL_law_33 (by rw [h330]; decide) (by rw [h330]; decide) (by rw [h330]; rfl) (by decide) ?_
        refine v_aload_n G dL_law_1593 1 rfl ?_
        refine v_aload_n G dL_law_1594 0 rfl ?_
        refine v_iload_n G dL_law_1595 3 rfl ?_
        refine v_iconst (1 : Int32) G dL_law_1596 (by decide) ?_
        refine v_iadd G dL_law_1597 ?_
        obtain ⟨g323, hf⟩ := gd_e hf
        refine v_sld G GS g323 dL_law_1598 ?_
        refine v_aload_n G dL_law_1599 0 rfl ?_
        refine v_iload_n G dL_law_1600 3 rfl ?_
        refine v_iconst (2 : Int32) G dL_law_1601 (by decide) ?_
        refine v_iadd G dL_law_1602 ?_
        obtain ⟨g324, hf⟩ := gd_e hf
        refine v_sld G GS g324 dL_law_1603 ?_
        obtain ⟨v325, hcv325, hf⟩ := bd_e hf
        refine v_callV [.int (xs ((w3 + (1 : Int32))).toNatClampNeg), .int (xs ((w3 + (2 : Int32))).toNatClampNeg)] G (c_X11_plants n h1 hcv325) h1 (by decide) rfl rfl rfl t_1298 t_1299 t_1300 t_1 t_1301 nm_X11_plants (by decide) (by decide) rfl rfl (Nat.le_of_ble_eq_true rfl) dL_law_1604 (kv_ri ?_)
        refine v_aload_n G dL_law_1607 2 rfl ?_
        refine v_aload_n G dL_law_1608 0 rfl ?_
        refine v_iload_n G dL_law_1609 3 rfl ?_
        refine v_iconst (1 : Int32) G dL_law_1610 (by decide) ?_
        refine v_iadd G dL_law_1611 ?_
        obtain ⟨g326, hf⟩ := gd_e hf
        refine v_sld G GS g326 dL_law_1612 ?_
        refine v_aload_n G dL_law_1613 0 rfl ?_
        refine v_iload_n G dL_law_1614 3 rfl ?_
        refine v_iconst (2 : Int32) G dL_law_1615 (by decide) ?_
        refine v_iadd G dL_law_1616 ?_
        obtain ⟨g327, hf⟩ := gd_e hf
        refine v_sld G GS g327 dL_law_1617 ?_
        obtain ⟨v328, hcv328, hf⟩ := bd_e hf
        refine v_callV [.int (xs ((w3 + (1 : Int32))).toNatClampNeg), .int (xs ((w3 + (2 : Int32))).toNatClampNeg)] G (c_X12_plants n h2 hcv328) h2 (by decide) rfl rfl rfl t_2176 t_2177 t_2178 t_17 t_2179 nm_X12_plants (by decide) (by decide) rfl rfl (Nat.le_of_ble_eq_true rfl) dL_law_1618 (kv_ri ?_)
        refine v_icmp_eq 2035 G dL_law_1621 (by decide) (fun h329 => ?_) (fun h329 => ?_)
        · replace hf := (if_pos h329).symm.trans hf
          refine v_sub _ [0, 1, 2, 3] rfl ?_
          exact hj2035 v328.2 hf
        · replace hf := (if_neg h329).symm.trans hf
          refine v_iconst (0 : Int32) G dL_law_1624 (by decide) ?_
          exact absurd (Option.some.inj hf) (by decide)
      replace hf := (if_neg h330).symm.trans hf
      by_cases h338 : v2 = (41 : Int32)
      · replace hf := (if_pos h338).symm.trans hf
        refine v_tabIn (off := 1593) 1626 G dL_law_33 (by rw [h338]; decide) (by rw [h338]; decide) (by rw [h338]; rfl) (by decide) ?_
        refine v_aload_n G dL_law_1626 1 rfl ?_
        refine v_aload_n G dL_law_1627 0 rfl ?_
        refine v_iload_n G dL_law_1628 3 rfl ?_
        refine v_iconst (1 : Int32) G dL_law_1629 (by decide) ?_
        refine v_iadd G dL_law_1630 ?_
        obtain ⟨g331, hf⟩ := gd_e hf
        refine v_sld G GS g331 dL_law_1631 ?_
        refine v_aload_n G dL_law_1632 0 rfl ?_
        refine v_iload_n G dL_law_1633 3 rfl ?_
        refine v_iconst (2 : Int32) G dL_law_1634 (by decide) ?_
        refine v_iadd G dL_law_1635 ?_
        obtain ⟨g332, hf⟩ := gd_e hf
        refine v_sld G GS g332 dL_law_1636 ?_
        obtain ⟨v333, hcv333, hf⟩ := bd_e hf
        refine v_callV [.int (xs ((w3 + (1 : Int32))).toNatClampNeg), .int (xs ((w3 + (2 : Int32))).toNatClampNeg)] G (c_X11_plantSet n h1 hcv333) h1 (by decide) rfl rfl rfl t_1311 t_1312 t_1313 t_1 t_1314 nm_X11_plantSet (by decide) (by decide) rfl rfl (Nat.le_of_ble_eq_true rfl) dL_law_1637 (kv_ri ?_)
        refine v_aload_n G dL_law_1640 2 rfl ?_
        refine v_aload_n G dL_law_1641 0 rfl ?_
        refine v_iload_n G dL_law_1642 3 rfl ?_
        refine v_iconst (1 : Int32) G dL_law_1643 (by decide) ?_
        refine v_iadd G dL_law_1644 ?_
        obtain ⟨g334, hf⟩ := gd_e hf
        refine v_sld G GS g334 dL_law_1645 ?_
        refine v_aload_n G dL_law_1646 0 rfl ?_
        refine v_iload_n G dL_law_1647 3 rfl ?_
        refine v_iconst (2 : Int32) G dL_law_1648 (by decide) ?_
        refine v_iadd G dL_law_1649 ?_
        obtain ⟨g335, hf⟩ := gd_e hf
        refine v_sld G GS g335 dL_law_1650 ?_
        obtain ⟨v336, hcv336, hf⟩ := bd_e hf
        refine v_callV [.int (xs ((w3 + (1 : Int32))).toNatClampNeg), .int (xs ((w3 + (2 : Int32))).toNatClampNeg)] G (c_X12_plantSet n h2 hcv336) h2 (by decide) rfl rfl rfl t_2192 t_2193 t_2194 t_17 t_2195 nm_X12_plantSet (by decide) (by decide) rfl rfl (Nat.le_of_ble_eq_true rfl) dL_law_1651 (kv_ri ?_)
        refine v_icmp_eq 2035 G dL_law_1654 (by decide) (fun h337 => ?_) (fun h337 => ?_)
        · replace hf := (if_pos h337).symm.trans hf
          refine v_sub _ [0, 1, 2, 3] rfl ?_
          exact hj2035 v336.2 hf
        · replace hf := (if_neg h337).symm.trans hf
          refine v_iconst (0 : Int32) G dL_law_1657 (by decide) ?_
          exact absurd (Option.some.inj hf) (by decide)
      replace hf := (if_neg h338).symm.trans hf
      by_cases h350 : v2 = (42 : Int32)
      · replace hf := (if_pos h350).symm.trans hf
        refine v_tabIn (off := 1626) 1659 G dL_law_33 (by rw [h350]; decide) (by rw [h350]; decide) (by rw [h350]; rfl) (by decide) ?_
        refine v_aload_n G dL_law_1659 1 rfl ?_
        refine v_aload_n G dL_law_1660 0 rfl ?_
        refine v_iload_n G dL_law_1661 3 rfl ?_
        refine v_iconst (1 : Int32) G dL_law_1662 (by decide) ?_
        refine v_iadd G dL_law_1663 ?_
        obtain ⟨g339, hf⟩ := gd_e hf
        refine v_sld G GS g339 dL_law_1664 ?_
        refine v_aload_n G dL_law_1665 0 rfl ?_
        refine v_iload_n G dL_law_1666 3 rfl ?_
        refine v_iconst (2 : Int32) G dL_law_1667 (by decide) ?_
        refine v_iadd G dL_law_1668 ?_
        obtain ⟨g340, hf⟩ := gd_e hf
        refine v_sld G GS g340 dL_law_1669 ?_
        refine v_aload_n G dL_law_1670 0 rfl ?_
        refine v_iload_n G dL_law_1671 3 rfl ?_
        refine v_iconst (3 : Int32) G dL_law_1672 (by decide) ?_
        refine v_iadd G dL_law_1673 ?_
        obtain ⟨g341, hf⟩ := gd_e hf
        refine v_sld G GS g341 dL_law_1674 ?_
        refine v_aload_n G dL_law_1675 0 rfl ?_
        refine v_iload_n G dL_law_1676 3 rfl ?_
        refine v_iconst (4 : Int32) G dL_law_1677 (by decide) ?_
        refine v_iadd G dL_law_1678 ?_
        obtain ⟨g342, hf⟩ := gd_e hf
        refine v_sld G GS g342 dL_law_1679 ?_
        obtain ⟨v343, hcv343, hf⟩ := bd_e hf
        refine v_callV [.int (xs ((w3 + (1 : Int32))).toNatClampNeg), .int (xs ((w3 + (2 : Int32))).toNatClampNeg), .int (xs ((w3 + (3 : Int32))).toNatClampNeg), .int (xs ((w3 + (4 : Int32))).toNatClampNeg)] G (c_X11_ways n h1 hcv343) h1 (by decide) rfl rfl rfl t_1315 t_1316 t_1317 t_1 t_1318 nm_X11_ways (by decide) (by decide) rfl rfl (Nat.le_of_ble_eq_true rfl) dL_law_1680 (kv_rl ?_)
        refine v_aload_n G dL_law_1683 2 rfl ?_
        refine v_aload_n G dL_law_1684 0 rfl ?_
        refine v_iload_n G dL_law_1685 3 rfl ?_
        refine v_iconst (1 : Int32) G dL_law_1686 (by decide) ?_
        refine v_iadd G dL_law_1687 ?_
        obtain ⟨g344, hf⟩ := gd_e hf
        refine v_sld G GS g344 dL_law_1688 ?_
        refine v_aload_n G dL_law_1689 0 rfl ?_
        refine v_iload_n G dL_law_1690 3 rfl ?_
        refine v_iconst (2 : Int32) G dL_law_1691 (by decide) ?_
        refine v_iadd G dL_law_1692 ?_
        obtain ⟨g345, hf⟩ := gd_e hf
        refine v_sld G GS g345 dL_law_1693 ?_
        refine v_aload_n G dL_law_1694 0 rfl ?_
        refine v_iload_n G dL_law_1695 3 rfl ?_
        refine v_iconst (3 : Int32) G dL_law_1696 (by decide) ?_
        refine v_iadd G dL_law_1697 ?_
        obtain ⟨g346, hf⟩ := gd_e hf
        refine v_sld G GS g346 dL_law_1698 ?_
        refine v_aload_n G dL_law_1699 0 rfl ?_
        refine v_iload_n G dL_law_1700 3 rfl ?_
        refine v_iconst (4 : Int32) G dL_law_1701 (by decide) ?_
        refine v_iadd G dL_law_1702 ?_
        obtain ⟨g347, hf⟩ := gd_e hf
        refine v_sld G GS g347 dL_law_1703 ?_
        obtain ⟨v348, hcv348, hf⟩ := bd_e hf
        refine v_callV [.int (xs ((w3 + (1 : Int32))).toNatClampNeg), .int (xs ((w3 + (2 : Int32))).toNatClampNeg), .int (xs ((w3 + (3 : Int32))).toNatClampNeg), .int (xs ((w3 + (4 : Int32))).toNatClampNeg)] G (c_X12_ways n h2 hcv348) h2 (by decide) rfl rfl rfl t_2196 t_2197 t_2198 t_17 t_2199 nm_X12_ways (by decide) (by decide) rfl rfl (Nat.le_of_ble_eq_true rfl) dL_law_1704 (kv_rl ?_)
        refine v_lcmp G dL_law_1707 ?_
        refine v_if_eq 2035 G dL_law_1708 (by decide) (fun h349 => ?_) (fun h349 => ?_)
        · replace hf := (if_pos h349).symm.trans hf
          refine v_sub _ [0, 1, 2, 3] rfl ?_
          exact hj2035 v348.2 hf
        · replace hf := (if_neg h349).symm.trans hf
          refine v_iconst (0 : Int32) G dL_law_1711 (by decide) ?_
          exact absurd (Option.some.inj hf) (by decide)
      replace hf := (if_neg h350).symm.trans hf
      by_cases h356 : v2 = (43 : Int32)
      · replace hf := (if_pos h356).symm.trans hf
        refine v_tabIn (off := 1680) 1713 G dL_law_33 (by rw [h356]; decide) (by rw [h356]; decide) (by rw [h356]; rfl) (by decide) ?_
        refine v_aload_n G dL_law_1713 1 rfl ?_
        refine v_aload_n G dL_law_1714 0 rfl ?_
        refine v_iload_n G dL_law_1715 3 rfl ?_
        refine v_iconst (1 : Int32) G dL_law_1716 (by decide) ?_
        refine v_iadd G dL_law_1717 ?_
        obtain ⟨g351, hf⟩ := gd_e hf
        refine v_sld G GS g351 dL_law_1718 ?_
        obtain ⟨v352, hcv352, hf⟩ := bd_e hf
        refine v_callV [.int (xs ((w3 + (1 : Int32))).toNatClampNeg)] G (c_X11_pair n h1 hcv352) h1 (by decide) rfl rfl rfl t_1327 t_1328 t_1329 t_1 t_1330 nm_X11_pair (by decide) (by decide) rfl rfl (Nat.le_of_ble_eq_true rfl) dL_law_1719 (kv_ri ?_)
        refine v_aload_n G dL_law_1722 2 rfl ?_
        refine v_aload_n G dL_law_1723 0 rfl ?_
        refine v_iload_n G dL_law_1724 3 rfl ?_
        refine v_iconst (1 : Int32) G dL_law_1725 (by decide) ?_
        refine v_iadd G dL_law_1726 ?_
        obtain ⟨g353, hf⟩ := gd_e hf
        refine v_sld G GS g353 dL_law_1727 ?_
        obtain ⟨v354, hcv354, hf⟩ := bd_e hf
        refine v_callV [.int (xs ((w3 + (1 : Int32))).toNatClampNeg)] G (c_X12_pair n h2 hcv354) h2 (by decide) rfl rfl rfl t_2201 t_2202 t_2203 t_17 t_2204 nm_X12_pair (by decide) (by decide) rfl rfl (Nat.le_of_ble_eq_true rfl) dL_law_1728 (kv_ri ?_)
        refine v_icmp_eq 2035 G dL_law_1731 (by decide) (fun h355 => ?_) (fun h355 => ?_)
        · replace hf := (if_pos h355).symm.trans hf
          refine v_sub _ [0, 1, 2, 3] rfl ?_
          exact hj2035 v354.2 hf
        · replace hf := (if_neg h355).symm.trans hf
          refine v_iconst (0 : Int32) G dL_law_1734 (by decide) ?_
          exact absurd (Option.some.inj hf) (by decide)
      replace hf := (if_neg h356).symm.trans hf
      by_cases h360 : v2 = (44 : Int32)
      · replace hf := (if_pos h360).symm.trans hf
        refine v_tabIn (off := 1703) 1736 G dL_law_33 (by rw [h360]; decide) (by rw [h360]; decide) (by rw [h360]; rfl) (by decide) ?_
        refine v_aload_n G dL_law_1736 1 rfl ?_
        obtain ⟨v357, hcv357, hf⟩ := bd_e hf
        refine v_callV [] G (c_X11_pairs n h1 hcv357) h1 (by decide) rfl rfl rfl t_1342 t_1343 t_1344 t_1 t_1345 nm_X11_pairs (by decide) (by decide) rfl rfl (Nat.le_of_ble_eq_true rfl) dL_law_1737 (kv_ri ?_)
        refine v_aload_n G dL_law_1740 2 rfl ?_
        obtain ⟨v358, hcv358, hf⟩ := bd_e hf
        refine v_callV [] G (c_X12_pairs n h2 hcv358) h2 (by decide) rfl rfl rfl t_2221 t_2222 t_2223 t_17 t_2224 nm_X12_pairs (by decide) (by decide) rfl rfl (Nat.le_of_ble_eq_true rfl) dL_law_1741 (kv_ri ?_)
        refine v_icmp_eq 2035 G dL_law_1744 (by decide) (fun h359 => ?_) (fun h359 => ?_)
        · replace hf := (if_pos h359).symm.trans hf
          refine v_sub _ [0, 1, 2, 3] rfl ?_
          exact hj2035 v358.2 hf
        · replace hf := (if_neg h359).symm.trans hf
          refine v_iconst (0 : Int32) G dL_law_1747 (by decide) ?_
          exact absurd (Option.some.inj hf) (by decide)
      replace hf := (if_neg h360).symm.trans hf
      by_cases h364 : v2 = (45 : Int32)
      · replace hf := (if_pos h364).symm.trans hf
        refine v_tabIn (off := 1716) 1749 G dL_law_33 (by rw [h364]; decide) (by rw [h364]; decide) (by rw [h364]; rfl) (by decide) ?_
        refine v_aload_n G dL_law_1749 1 rfl ?_
        obtain ⟨v361, hcv361, hf⟩ := bd_e hf
        refine v_callV [] G (c_X11_pairsOwe n h1 hcv361) h1 (by decide) rfl rfl rfl t_1350 t_1351 t_1352 t_1 t_1353 nm_X11_pairsOwe (by decide) (by decide) rfl rfl (Nat.le_of_ble_eq_true rfl) dL_law_1750 (kv_ri ?_)
        refine v_aload_n G dL_law_1753 2 rfl ?_
        obtain ⟨v362, hcv362, hf⟩ := bd_e hf
        refine v_callV [] G (c_X12_pairsOwe n h2 hcv362) h2 (by decide) rfl rfl rfl t_2225 t_2226 t_2227 t_17 t_2228 nm_X12_pairsOwe (by decide) (by decide) rfl rfl (Nat.le_of_ble_eq_true rfl) dL_law_1754 (kv_ri ?_)
        refine v_icmp_eq 2035 G dL_law_1757 (by decide) (fun h363 => ?_) (fun h363 => ?_)
        · replace hf := (if_pos h363).symm.trans hf
          refine v_sub _ [0, 1, 2, 3] rfl ?_
          exact hj2035 v362.2 hf
        · replace hf := (if_neg h363).symm.trans hf
          refine v_iconst (0 : Int32) G dL_law_1760 (by decide) ?_
          exact absurd (Option.some.inj hf) (by decide)
      replace hf := (if_neg h364).symm.trans hf
      by_cases h370 : v2 = (46 : Int32)
      · replace hf := (if_pos h370).symm.trans hf
        refine v_tabIn (off := 1729) 1762 G dL_law_33 (by rw [h370]; decide) (by rw [h370]; decide) (by rw [h370]; rfl) (by decide) ?_
        refine v_aload_n G dL_law_1762 1 rfl ?_
        refine v_aload_n G dL_law_1763 0 rfl ?_
        refine v_iload_n G dL_law_1764 3 rfl ?_
        refine v_iconst (1 : Int32) G dL_law_1765 (by decide) ?_
        refine v_iadd G dL_law_1766 ?_
        obtain ⟨g365, hf⟩ := gd_e hf
        refine v_sld G GS g365 dL_law_1767 ?_
        obtain ⟨v366, hcv366, hf⟩ := bd_e hf
        refine v_callV [.int (xs ((w3 + (1 : Int32))).toNatClampNeg)] G (c_X11_dearest n h1 hcv366) h1 (by decide) rfl rfl rfl t_1361 t_1362 t_1363 t_1 t_1364 nm_X11_dearest (by decide) (by decide) rfl rfl (Nat.le_of_ble_eq_true rfl) dL_law_1768 (kv_ri ?_)
        refine v_aload_n G dL_law_1771 2 rfl ?_
        refine v_aload_n G dL_law_1772 0 rfl ?_
        refine v_iload_n G dL_law_1773 3 rfl ?_
        refine v_iconst (1 : Int32) G dL_law_1774 (by decide) ?_
        refine v_iadd G dL_law_1775 ?_
        obtain ⟨g367, hf⟩ := gd_e hf
        refine v_sld G GS g367 dL_law_1776 ?_
        obtain ⟨v368, hcv368, hf⟩ := bd_e hf
        refine v_callV [.int (xs ((w3 + (1 : Int32))).toNatClampNeg)] G (c_X12_dearest n h2 hcv368) h2 (by decide) rfl rfl rfl t_2230 t_2231 t_2232 t_17 t_2233 nm_X12_dearest (by decide) (by decide) rfl rfl (Nat.le_of_ble_eq_true rfl) dL_law_1777 (kv_ri ?_)
        refine v_icmp_eq 2035 G dL_law_1780 (by decide) (fun h369 => ?_) (fun h369 => ?_)
        · replace hf := (if_pos h369).symm.trans hf
          refine v_sub _ [0, 1, 2, 3] rfl ?_
          exact hj2035 v368.2 hf
        · replace hf := (if_neg h369).symm.trans hf
          refine v_iconst (0 : Int32) G dL_law_1783 (by decide) ?_
          exact absurd (Option.some.inj hf) (by decide)
      replace hf := (if_neg h370).symm.trans hf
      by_cases h378 : v2 = (47 : Int32)
      · replace hf := (if_pos h378).symm.trans hf
        refine v_tabIn (off := 1752) 1785 G dL_law_33 (by rw [h378]; decide) (by rw [h378]; decide) (by rw [h378]; rfl) (by decide) ?_
        refine v_aload_n G dL_law_1785 1 rfl ?_
        refine v_aload_n G dL_law_1786 0 rfl ?_
        refine v_iload_n G dL_law_1787 3 rfl ?_
        refine v_iconst (1 : Int32) G dL_law_1788 (by decide) ?_
        refine v_iadd G dL_law_1789 ?_
        obtain ⟨g371, hf⟩ := gd_e hf
        refine v_sld G GS g371 dL_law_1790 ?_
        refine v_aload_n G dL_law_1791 0 rfl ?_
        refine v_iload_n G dL_law_1792 3 rfl ?_
        refine v_iconst (2 : Int32) G dL_law_1793 (by decide) ?_
        refine v_iadd G dL_law_1794 ?_
        obtain ⟨g372, hf⟩ := gd_e hf
        refine v_sld G GS g372 dL_law_1795 ?_
        obtain ⟨v373, hcv373, hf⟩ := bd_e hf
        refine v_callV [.int (xs ((w3 + (1 : Int32))).toNatClampNeg), .int (xs ((w3 + (2 : Int32))).toNatClampNeg)] G (c_X11_clouds n h1 hcv373) h1 (by decide) rfl rfl rfl t_1369 t_1370 t_1371 t_1 t_1372 nm_X11_clouds (by decide) (by decide) rfl rfl (Nat.le_of_ble_eq_true rfl) dL_law_1796 (kv_ri ?_)
        refine v_aload_n G dL_law_1799 2 rfl ?_
        refine v_aload_n G dL_law_1800 0 rfl ?_
        refine v_iload_n G dL_law_1801 3 rfl ?_
        refine v_iconst (1 : Int32) G dL_law_1802 (by decide) ?_
        refine v_iadd G dL_law_1803 ?_
        obtain ⟨g374, hf⟩ := gd_e hf
        refine v_sld G GS g374 dL_law_1804 ?_
        refine v_aload_n G dL_law_1805 0 rfl ?_
        refine v_iload_n G dL_law_1806 3 rfl ?_
        refine v_iconst (2 : Int32) G dL_law_1807 (by decide) ?_
        refine v_iadd G dL_law_1808 ?_
        obtain ⟨g375, hf⟩ := gd_e hf
        refine v_sld G GS g375 dL_law_1809 ?_
        obtain ⟨v376, hcv376, hf⟩ := bd_e hf
        refine v_callV [.int (xs ((w3 + (1 : Int32))).toNatClampNeg), .int (xs ((w3 + (2 : Int32))).toNatClampNeg)] G (c_X12_clouds n h2 hcv376) h2 (by decide) rfl rfl rfl t_2234 t_2235 t_2236 t_17 t_2237 nm_X12_clouds (by decide) (by decide) rfl rfl (Nat.le_of_ble_eq_true rfl) dL_law_1810 (kv_ri ?_)
        refine v_icmp_eq 2035 G dL_law_1813 (by decide) (fun h377 => ?_) (fun h377 => ?_)
        · replace hf := (if_pos h377).symm.trans hf
          refine v_sub _ [0, 1, 2, 3] rfl ?_
          exact hj2035 v376.2 hf
        · replace hf := (if_neg h377).symm.trans hf
          refine v_iconst (0 : Int32) G dL_law_1816 (by decide) ?_
          exact absurd (Option.some.inj hf) (by decide)
      replace hf := (if_neg h378).symm.trans hf
      by_cases h384 : v2 = (48 : Int32)
      · replace hf := (if_pos h384).symm.trans hf
        refine v_tabIn (off := 1785) 1818 G dL_law_33 (by rw [h384]; decide) (by rw [h384]; decide) (by rw [h384]; rfl) (by decide) ?_
        refine v_aload_n G dL_law_1818 1 rfl ?_
        refine v_aload_n G dL_law_1819 0 rfl ?_
        refine v_iload_n G dL_law_1820 3 rfl ?_
        refine v_iconst (1 : Int32) G dL_law_1821 (by decide) ?_
        refine v_iadd G dL_law_1822 ?_
        obtain ⟨g379, hf⟩ := gd_e hf
        refine v_sld G GS g379 dL_law_1823 ?_
        obtain ⟨v380, hcv380, hf⟩ := bd_e hf
        refine v_callV [.int (xs ((w3 + (1 : Int32))).toNatClampNeg)] G (c_X11_lostIn n h1 hcv380) h1 (by decide) rfl rfl rfl t_1386 t_1387 t_1388 t_1 t_1389 nm_X11_lostIn (by decide) (by decide) rfl rfl (Nat.le_of_ble_eq_true rfl) dL_law_1824 (kv_ri ?_)
        refine v_aload_n G dL_law_1827 2 rfl ?_
        refine v_aload_n G dL_law_1828 0 rfl ?_
        refine v_iload_n G dL_law_1829 3 rfl ?_
        refine v_iconst (1 : Int32) G dL_law_1830 (by decide) ?_
        refine v_iadd G dL_law_1831 ?_
        obtain ⟨g381, hf⟩ := gd_e hf
        refine v_sld G GS g381 dL_law_1832 ?_
        obtain ⟨v382, hcv382, hf⟩ := bd_e hf
        refine v_callV [.int (xs ((w3 + (1 : Int32))).toNatClampNeg)] G (c_X12_lostIn n h2 hcv382) h2 (by decide) rfl rfl rfl t_2247 t_2248 t_2249 t_17 t_2250 nm_X12_lostIn (by decide) (by decide) rfl rfl (Nat.le_of_ble_eq_true rfl) dL_law_1833 (kv_ri ?_)
        refine v_icmp_eq 2035 G dL_law_1836 (by decide) (fun h383 => ?_) (fun h383 => ?_)
        · replace hf := (if_pos h383).symm.trans hf
          refine v_sub _ [0, 1, 2, 3] rfl ?_
          exact hj2035 v382.2 hf
        · replace hf := (if_neg h383).symm.trans hf
          refine v_iconst (0 : Int32) G dL_law_1839 (by decide) ?_
          exact absurd (Option.some.inj hf) (by decide)
      replace hf := (if_neg h384).symm.trans hf
      by_cases h394 : v2 = (49 : Int32)
      · replace hf := (if_pos h394).symm.trans hf
        refine v_tabIn (off := 1808) 1841 G dL_law_33 (by rw [h394]; decide) (by rw [h394]; decide) (by rw [h394]; rfl) (by decide) ?_
        refine v_aload_n G dL_law_1841 1 rfl ?_
        refine v_aload_n G dL_law_1842 0 rfl ?_
        refine v_iload_n G dL_law_1843 3 rfl ?_
        refine v_iconst (1 : Int32) G dL_law_1844 (by decide) ?_
        refine v_iadd G dL_law_1845 ?_
        obtain ⟨g385, hf⟩ := gd_e hf
        refine v_sld G GS g385 dL_law_1846 ?_
        refine v_aload_n G dL_law_1847 0 rfl ?_
        refine v_iload_n G dL_law_1848 3 rfl ?_
        refine v_iconst (2 : Int32) G dL_law_1849 (by decide) ?_
        refine v_iadd G dL_law_1850 ?_
        obtain ⟨g386, hf⟩ := gd_e hf
        refine v_sld G GS g386 dL_law_1851 ?_
        refine v_aload_n G dL_law_1852 0 rfl ?_
        refine v_iload_n G dL_law_1853 3 rfl ?_
        refine v_iconst (3 : Int32) G dL_law_1854 (by decide) ?_
        refine v_iadd G dL_law_1855 ?_
        obtain ⟨g387, hf⟩ := gd_e hf
        refine v_sld G GS g387 dL_law_1856 ?_
        obtain ⟨v388, hcv388, hf⟩ := bd_e hf
        refine v_callV [.int (xs ((w3 + (1 : Int32))).toNatClampNeg), .int (xs ((w3 + (2 : Int32))).toNatClampNeg), .int (xs ((w3 + (3 : Int32))).toNatClampNeg)] G (c_X11_lostBy n h1 hcv388) h1 (by decide) rfl rfl rfl t_1394 t_1395 t_1396 t_1 t_1397 nm_X11_lostBy (by decide) (by decide) rfl rfl (Nat.le_of_ble_eq_true rfl) dL_law_1857 (kv_ri ?_)
        refine v_aload_n G dL_law_1860 2 rfl ?_
        refine v_aload_n G dL_law_1861 0 rfl ?_
        refine v_iload_n G dL_law_1862 3 rfl ?_
        refine v_iconst (1 : Int32) G dL_law_1863 (by decide) ?_
        refine v_iadd G dL_law_1864 ?_
        obtain ⟨g389, hf⟩ := gd_e hf
        refine v_sld G GS g389 dL_law_1865 ?_
        refine v_aload_n G dL_law_1866 0 rfl ?_
        refine v_iload_n G dL_law_1867 3 rfl ?_
        refine v_iconst (2 : Int32) G dL_law_1868 (by decide) ?_
        refine v_iadd G dL_law_1869 ?_
        obtain ⟨g390, hf⟩ := gd_e hf
        refine v_sld G GS g390 dL_law_1870 ?_
        refine v_aload_n G dL_law_1871 0 rfl ?_
        refine v_iload_n G dL_law_1872 3 rfl ?_
        refine v_iconst (3 : Int32) G dL_law_1873 (by decide) ?_
        refine v_iadd G dL_law_1874 ?_
        obtain ⟨g391, hf⟩ := gd_e hf
        refine v_sld G GS g391 dL_law_1875 ?_
        obtain ⟨v392, hcv392, hf⟩ := bd_e hf
        refine v_callV [.int (xs ((w3 + (1 : Int32))).toNatClampNeg), .int (xs ((w3 + (2 : Int32))).toNatClampNeg), .int (xs ((w3 + (3 : Int32))).toNatClampNeg)] G (c_X12_lostBy n h2 hcv392) h2 (by decide) rfl rfl rfl t_2263 t_2264 t_2265 t_17 t_2266 nm_X12_lostBy (by decide) (by decide) rfl rfl (Nat.le_of_ble_eq_true rfl) dL_law_1876 (kv_ri ?_)
        refine v_icmp_eq 2035 G dL_law_1879 (by decide) (fun h393 => ?_) (fun h393 => ?_)
        · replace hf := (if_pos h393).symm.trans hf
          refine v_sub _ [0, 1, 2, 3] rfl ?_
          exact hj2035 v392.2 hf
        · replace hf := (if_neg h393).symm.trans hf
          refine v_iconst (0 : Int32) G dL_law_1882 (by decide) ?_
          exact absurd (Option.some.inj hf) (by decide)
      replace hf := (if_neg h394).symm.trans hf
      by_cases h400 : v2 = (50 : Int32)
      · replace hf := (if_pos h400).symm.trans hf
        refine v_tabIn (off := 1851) 1884 G dL_law_33 (by rw [h400]; decide) (by rw [h400]; decide) (by rw [h400]; rfl) (by decide) ?_
        refine v_aload_n G dL_law_1884 1 rfl ?_
        refine v_aload_n G dL_law_1885 0 rfl ?_
        refine v_iload_n G dL_law_1886 3 rfl ?_
        refine v_iconst (1 : Int32) G dL_law_1887 (by decide) ?_
        refine v_iadd G dL_law_1888 ?_
        obtain ⟨g395, hf⟩ := gd_e hf
        refine v_sld G GS g395 dL_law_1889 ?_
        obtain ⟨v396, hcv396, hf⟩ := bd_e hf
        refine v_callV [.int (xs ((w3 + (1 : Int32))).toNatClampNeg)] G (c_X11_bestFrom n h1 hcv396) h1 (by decide) rfl rfl rfl t_1398 t_1399 t_1400 t_1 t_1401 nm_X11_bestFrom (by decide) (by decide) rfl rfl (Nat.le_of_ble_eq_true rfl) dL_law_1890 (kv_ri ?_)
        refine v_aload_n G dL_law_1893 2 rfl ?_
        refine v_aload_n G dL_law_1894 0 rfl ?_
        refine v_iload_n G dL_law_1895 3 rfl ?_
        refine v_iconst (1 : Int32) G dL_law_1896 (by decide) ?_
        refine v_iadd G dL_law_1897 ?_
        obtain ⟨g397, hf⟩ := gd_e hf
        refine v_sld G GS g397 dL_law_1898 ?_
        obtain ⟨v398, hcv398, hf⟩ := bd_e hf
        refine v_callV [.int (xs ((w3 + (1 : Int32))).toNatClampNeg)] G (c_X12_bestFrom n h2 hcv398) h2 (by decide) rfl rfl rfl t_2267 t_2268 t_2269 t_17 t_2270 nm_X12_bestFrom (by decide) (by decide) rfl rfl (Nat.le_of_ble_eq_true rfl) dL_law_1899 (kv_ri ?_)
        refine v_icmp_eq 2035 G dL_law_1902 (by decide) (fun h399 => ?_) (fun h399 => ?_)
        · replace hf := (if_pos h399).symm.trans hf
          refine v_sub _ [0, 1, 2, 3] rfl ?_
          exact hj2035 v398.2 hf
        · replace hf := (if_neg h399).symm.trans hf
          refine v_iconst (0 : Int32) G dL_law_1905 (by decide) ?_
          exact absurd (Option.some.inj hf) (by decide)
      replace hf := (if_neg h400).symm.trans hf
      by_cases h406 : v2 = (51 : Int32)
      · replace hf := (if_pos h406).symm.trans hf
        refine v_tabIn (off := 1874) 1907 G dL_law_33 (by rw [h406]; decide) (by rw [h406]; decide) (by rw [h406]; rfl) (by decide) ?_
        refine v_aload_n G dL_law_1907 1 rfl ?_
        refine v_aload_n G dL_law_1908 0 rfl ?_
        refine v_iload_n G dL_law_1909 3 rfl ?_
        refine v_iconst (1 : Int32) G dL_law_1910 (by decide) ?_
        refine v_iadd G dL_law_1911 ?_
        obtain ⟨g401, hf⟩ := gd_e hf
        refine v_sld G GS g401 dL_law_1912 ?_
        obtain ⟨v402, hcv402, hf⟩ := bd_e hf
        refine v_callV [.int (xs ((w3 + (1 : Int32))).toNatClampNeg)] G (c_X11_arrives n h1 hcv402) h1 (by decide) rfl rfl rfl t_1403 t_1404 t_1405 t_1 t_1406 nm_X11_arrives (by decide) (by decide) rfl rfl (Nat.le_of_ble_eq_true rfl) dL_law_1913 (kv_ri ?_)
        refine v_aload_n G dL_law_1916 2 rfl ?_
        refine v_aload_n G dL_law_1917 0 rfl ?_
        refine v_iload_n G dL_law_1918 3 rfl ?_
        refine v_iconst (1 : Int32) G dL_law_1919 (by decide) ?_
        refine v_iadd G dL_law_1920 ?_
        obtain ⟨g403, hf⟩ := gd_e hf
        refine v_sld G GS g403 dL_law_1921 ?_
        obtain ⟨v404, hcv404, hf⟩ := bd_e hf
        refine v_callV [.int (xs ((w3 + (1 : Int32))).toNatClampNeg)] G (c_X12_arrives n h2 hcv404) h2 (by decide) rfl rfl rfl t_2271 t_2272 t_2273 t_17 t_2274 nm_X12_arrives (by decide) (by decide) rfl rfl (Nat.le_of_ble_eq_true rfl) dL_law_1922 (kv_ri ?_)
        refine v_icmp_eq 2035 G dL_law_1925 (by decide) (fun h405 => ?_) (fun h405 => ?_)
        · replace hf := (if_pos h405).symm.trans hf
          refine v_sub _ [0, 1, 2, 3] rfl ?_
          exact hj2035 v404.2 hf
        · replace hf := (if_neg h405).symm.trans hf
          refine v_iconst (0 : Int32) G dL_law_1928 (by decide) ?_
          exact absurd (Option.some.inj hf) (by decide)
      replace hf := (if_neg h406).symm.trans hf
      by_cases h412 : v2 = (52 : Int32)
      · replace hf := (if_pos h412).symm.trans hf
        refine v_tabIn (off := 1897) 1930 G dL_law_33 (by rw [h412]; decide) (by rw [h412]; decide) (by rw [h412]; rfl) (by decide) ?_
        refine v_aload_n G dL_law_1930 1 rfl ?_
        refine v_aload_n G dL_law_1931 0 rfl ?_
        refine v_iload_n G dL_law_1932 3 rfl ?_
        refine v_iconst (1 : Int32) G dL_law_1933 (by decide) ?_
        refine v_iadd G dL_law_1934 ?_
        obtain ⟨g407, hf⟩ := gd_e hf
        refine v_sld G GS g407 dL_law_1935 ?_
        obtain ⟨v408, hcv408, hf⟩ := bd_e hf
        refine v_callV [.int (xs ((w3 + (1 : Int32))).toNatClampNeg)] G (c_X11_live n h1 hcv408) h1 (by decide) rfl rfl rfl t_1408 t_1409 t_1410 t_1 t_1411 nm_X11_live (by decide) (by decide) rfl rfl (Nat.le_of_ble_eq_true rfl) dL_law_1936 (kv_ri ?_)
        refine v_aload_n G dL_law_1939 2 rfl ?_
        refine v_aload_n G dL_law_1940 0 rfl ?_
        refine v_iload_n G dL_law_1941 3 rfl ?_
        refine v_iconst (1 : Int32) G dL_law_1942 (by decide) ?_
        refine v_iadd G dL_law_1943 ?_
        obtain ⟨g409, hf⟩ := gd_e hf
        refine v_sld G GS g409 dL_law_1944 ?_
        obtain ⟨v410, hcv410, hf⟩ := bd_e hf
        refine v_callV [.int (xs ((w3 + (1 : Int32))).toNatClampNeg)] G (c_X12_live n h2 hcv410) h2 (by decide) rfl rfl rfl t_2275 t_2276 t_2277 t_17 t_2278 nm_X12_live (by decide) (by decide) rfl rfl (Nat.le_of_ble_eq_true rfl) dL_law_1945 (kv_ri ?_)
        refine v_icmp_eq 2035 G dL_law_1948 (by decide) (fun h411 => ?_) (fun h411 => ?_)
        · replace hf := (if_pos h411).symm.trans hf
          refine v_sub _ [0, 1, 2, 3] rfl ?_
          exact hj2035 v410.2 hf
        · replace hf := (if_neg h411).symm.trans hf
          refine v_iconst (0 : Int32) G dL_law_1951 (by decide) ?_
          exact absurd (Option.some.inj hf) (by decide)
      replace hf := (if_neg h412).symm.trans hf
      by_cases h418 : v2 = (53 : Int32)
      · replace hf := (if_pos h418).symm.trans hf
        refine v_tabIn (off := 1920) 1953 G dL_law_33 (by rw [h418]; decide) (by rw [h418]; decide) (by rw [h418]; rfl) (by decide) ?_
        refine v_aload_n G dL_law_1953 1 rfl ?_
        refine v_aload_n G dL_law_1954 0 rfl ?_
        refine v_iload_n G dL_law_1955 3 rfl ?_
        refine v_iconst (1 : Int32) G dL_law_1956 (by decide) ?_
        refine v_iadd G dL_law_1957 ?_
        obtain ⟨g413, hf⟩ := gd_e hf
        refine v_sld G GS g413 dL_law_1958 ?_
        obtain ⟨v414, hcv414, hf⟩ := bd_e hf
        refine v_callV [.int (xs ((w3 + (1 : Int32))).toNatClampNeg)] G (c_X11_lived n h1 hcv414) h1 (by decide) rfl rfl rfl t_1450 t_1451 t_1452 t_1 t_1453 nm_X11_lived (by decide) (by decide) rfl rfl (Nat.le_of_ble_eq_true rfl) dL_law_1959 (kv_ri ?_)
        refine v_aload_n G dL_law_1962 2 rfl ?_
        refine v_aload_n G dL_law_1963 0 rfl ?_
        refine v_iload_n G dL_law_1964 3 rfl ?_
        refine v_iconst (1 : Int32) G dL_law_1965 (by decide) ?_
        refine v_iadd G dL_law_1966 ?_
        obtain ⟨g415, hf⟩ := gd_e hf
        refine v_sld G GS g415 dL_law_1967 ?_
        obtain ⟨v416, hcv416, hf⟩ := bd_e hf
        refine v_callV [.int (xs ((w3 + (1 : Int32))).toNatClampNeg)] G (c_X12_lived n h2 hcv416) h2 (by decide) rfl rfl rfl t_2313 t_2314 t_2315 t_17 t_2316 nm_X12_lived (by decide) (by decide) rfl rfl (Nat.le_of_ble_eq_true rfl) dL_law_1968 (kv_ri ?_)
        refine v_icmp_eq 2035 G dL_law_1971 (by decide) (fun h417 => ?_) (fun h417 => ?_)
        · replace hf := (if_pos h417).symm.trans hf
          refine v_sub _ [0, 1, 2, 3] rfl ?_
          exact hj2035 v416.2 hf
        · replace hf := (if_neg h417).symm.trans hf
          refine v_iconst (0 : Int32) G dL_law_1974 (by decide) ?_
          exact absurd (Option.some.inj hf) (by decide)
      replace hf := (if_neg h418).symm.trans hf
      by_cases h426 : v2 = (54 : Int32)
      · replace hf := (if_pos h426).symm.trans hf
        refine v_tabIn (off := 1943) 1976 G dL_law_33 (by rw [h426]; decide) (by rw [h426]; decide) (by rw [h426]; rfl) (by decide) ?_
        refine v_aload_n G dL_law_1976 1 rfl ?_
        refine v_aload_n G dL_law_1977 0 rfl ?_
        refine v_iload_n G dL_law_1978 3 rfl ?_
        refine v_iconst (1 : Int32) G dL_law_1979 (by decide) ?_
        refine v_iadd G dL_law_1980 ?_
        obtain ⟨g419, hf⟩ := gd_e hf
        refine v_sld G GS g419 dL_law_1981 ?_
        refine v_aload_n G dL_law_1982 0 rfl ?_
        refine v_iload_n G dL_law_1983 3 rfl ?_
        refine v_iconst (2 : Int32) G dL_law_1984 (by decide) ?_
        refine v_iadd G dL_law_1985 ?_
        obtain ⟨g420, hf⟩ := gd_e hf
        refine v_sld G GS g420 dL_law_1986 ?_
        obtain ⟨v421, hcv421, hf⟩ := bd_e hf
        refine v_callV [.int (xs ((w3 + (1 : Int32))).toNatClampNeg), .int (xs ((w3 + (2 : Int32))).toNatClampNeg)] G (c_X11_mean n h1 hcv421) h1 (by decide) rfl rfl rfl t_1454 t_1455 t_1456 t_1 t_1457 nm_X11_mean (by decide) (by decide) rfl rfl (Nat.le_of_ble_eq_true rfl) dL_law_1987 (kv_ri ?_)
        refine v_aload_n G dL_law_1990 2 rfl ?_
        refine v_aload_n G dL_law_1991 0 rfl ?_
        refine v_iload_n G dL_law_1992 3 rfl ?_
        refine v_iconst (1 : Int32) G dL_law_1993 (by decide) ?_
        refine v_iadd G dL_law_1994 ?_
        obtain ⟨g422, hf⟩ := gd_e hf
        refine v_sld G GS g422 dL_law_1995 ?_
        refine v_aload_n G dL_law_1996 0 rfl ?_
        refine v_iload_n G dL_law_1997 3 rfl ?_
        refine v_iconst (2 : Int32) G dL_law_1998 (by decide) ?_
        refine v_iadd G dL_law_1999 ?_
        obtain ⟨g423, hf⟩ := gd_e hf
        refine v_sld G GS g423 dL_law_2000 ?_
        obtain ⟨v424, hcv424, hf⟩ := bd_e hf
        refine v_callV [.int (xs ((w3 + (1 : Int32))).toNatClampNeg), .int (xs ((w3 + (2 : Int32))).toNatClampNeg)] G (c_X12_mean n h2 hcv424) h2 (by decide) rfl rfl rfl t_2317 t_2318 t_2319 t_17 t_2320 nm_X12_mean (by decide) (by decide) rfl rfl (Nat.le_of_ble_eq_true rfl) dL_law_2001 (kv_ri ?_)
        refine v_icmp_eq 2035 G dL_law_2004 (by decide) (fun h425 => ?_) (fun h425 => ?_)
        · replace hf := (if_pos h425).symm.trans hf
          refine v_sub _ [0, 1, 2, 3] rfl ?_
          exact hj2035 v424.2 hf
        · replace hf := (if_neg h425).symm.trans hf
          refine v_iconst (0 : Int32) G dL_law_2007 (by decide) ?_
          exact absurd (Option.some.inj hf) (by decide)
      replace hf := (if_neg h426).symm.trans hf
      by_cases h430 : v2 = (55 : Int32)
      · replace hf := (if_pos h430).symm.trans hf
        refine v_tabIn (off := 1976) 2009 G dL_law_33 (by rw [h430]; decide) (by rw [h430]; decide) (by rw [h430]; rfl) (by decide) ?_
        refine v_aload_n G dL_law_2009 1 rfl ?_
        obtain ⟨v427, hcv427, hf⟩ := bd_e hf
        refine v_callV [] G (c_X11_mark n h1 hcv427) h1 (by decide) rfl rfl rfl t_1473 t_1474 t_1475 t_1 t_1476 nm_X11_mark (by decide) (by decide) rfl rfl (Nat.le_of_ble_eq_true rfl) dL_law_2010 (kv_ri ?_)
        refine v_aload_n G dL_law_2013 2 rfl ?_
        obtain ⟨v428, hcv428, hf⟩ := bd_e hf
        refine v_callV [] G (c_X12_mark n h2 hcv428) h2 (by decide) rfl rfl rfl t_2322 t_2323 t_2324 t_17 t_2325 nm_X12_mark (by decide) (by decide) rfl rfl (Nat.le_of_ble_eq_true rfl) dL_law_2014 (kv_ri ?_)
        refine v_icmp_eq 2035 G dL_law_2017 (by decide) (fun h429 => ?_) (fun h429 => ?_)
        · replace hf := (if_pos h429).symm.trans hf
          refine v_sub _ [0, 1, 2, 3] rfl ?_
          exact hj2035 v428.2 hf
        · replace hf := (if_neg h429).symm.trans hf
          refine v_iconst (0 : Int32) G dL_law_2020 (by decide) ?_
          exact absurd (Option.some.inj hf) (by decide)
      replace hf := (if_neg h430).symm.trans hf
      by_cases h434 : v2 = (56 : Int32)
      · replace hf := (if_pos h434).symm.trans hf
        refine v_tabIn (off := 1989) 2022 G dL_law_33 (by rw [h434]; decide) (by rw [h434]; decide) (by rw [h434]; rfl) (by decide) ?_
        refine v_aload_n G dL_law_2022 1 rfl ?_
        obtain ⟨v431, hcv431, hf⟩ := bd_e hf
        refine v_callV [] G (c_X11_back n h1 hcv431) h1 (by decide) rfl rfl rfl t_1477 t_1478 t_1479 t_1 t_1480 nm_X11_back (by decide) (by decide) rfl rfl (Nat.le_of_ble_eq_true rfl) dL_law_2023 (kv_ri ?_)
        refine v_aload_n G dL_law_2026 2 rfl ?_
        obtain ⟨v432, hcv432, hf⟩ := bd_e hf
        refine v_callV [] G (c_X12_back n h2 hcv432) h2 (by decide) rfl rfl rfl t_2326 t_2327 t_2328 t_17 t_2329 nm_X12_back (by decide) (by decide) rfl rfl (Nat.le_of_ble_eq_true rfl) dL_law_2027 (kv_ri ?_)
        refine v_icmp_eq 2035 G dL_law_2030 (by decide) (fun h433 => ?_) (fun h433 => ?_)
        · replace hf := (if_pos h433).symm.trans hf
          refine v_sub _ [0, 1, 2, 3] rfl ?_
          exact hj2035 v432.2 hf
        · replace hf := (if_neg h433).symm.trans hf
          refine v_iconst (0 : Int32) G dL_law_2033 (by decide) ?_
          exact absurd (Option.some.inj hf) (by decide)
      replace hf := (if_neg h434).symm.trans hf
      refine v_tabOut 2035 G dL_law_33 (sw_out 0 56 (by decide) (sw_s h8 (sw_s h12 (sw_s h16 (sw_s h26 (sw_s h38 (sw_s h46 (sw_s h60 (sw_s h74 (sw_s h80 (sw_s h86 (sw_s h92 (sw_s h98 (sw_s h106 (sw_s h114 (sw_s h122 (sw_s h130 (sw_s h138 (sw_s h144 (sw_s h150 (sw_s h156 (sw_s h164 (sw_s h174 (sw_s h180 (sw_s h190 (sw_s h202 (sw_s h214 (sw_s h226 (sw_s h234 (sw_s h242 (sw_s h248 (sw_s h256 (sw_s h264 (sw_s h268 (sw_s h274 (sw_s h280 (sw_s h288 (sw_s h296 (sw_s h306 (sw_s h314 (sw_s h322 (sw_s h330 (sw_s h338 (sw_s h350 (sw_s h356 (sw_s h360 (sw_s h364 (sw_s h370 (sw_s h378 (sw_s h384 (sw_s h394 (sw_s h400 (sw_s h406 (sw_s h412 (sw_s h418 (sw_s h426 (sw_s h430 (sw_s h434 sw_e)))))))))))))))))))))))))))))))))))))))))))))))))))))))))) (by decide) ?_
      refine v_sub _ [0, 1, 2, 3] rfl ?_
      exact hj2035 M hf
