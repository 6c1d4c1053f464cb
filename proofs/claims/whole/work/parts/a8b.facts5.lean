/-! the instructions of the law, 1 -/
set_option maxRecDepth 20000 in
theorem f312_0 : FF 312 0 (.new 8) 3 11 14 0 27 := rfl
set_option maxRecDepth 20000 in
theorem f312_3 : FF 312 3 (.dup) 1 0 0 0 0 := rfl
set_option maxRecDepth 20000 in
theorem f312_4 : FF 312 4 (.invokespecial 103) 3 72 0 2 29 := rfl
set_option maxRecDepth 20000 in
theorem f312_7 : FF 312 7 (.astore_n 1) 1 0 0 0 0 := rfl
set_option maxRecDepth 20000 in
theorem f312_8 : FF 312 8 (.new 104) 3 12 31 0 1279 := rfl
set_option maxRecDepth 20000 in
theorem f312_11 : FF 312 11 (.dup) 1 0 0 0 0 := rfl
set_option maxRecDepth 20000 in
theorem f312_12 : FF 312 12 (.invokespecial 106) 3 146 0 2 1281 := rfl
set_option maxRecDepth 20000 in
theorem f312_15 : FF 312 15 (.astore_n 2) 1 0 0 0 0 := rfl
set_option maxRecDepth 20000 in
theorem f312_16 : FF 312 16 (.iconst 1) 1 0 0 0 0 := rfl
set_option maxRecDepth 20000 in
theorem f312_17 : FF 312 17 (.newarray .long) 2 0 0 0 0 := rfl
set_option maxRecDepth 20000 in
theorem f312_19 : FF 312 19 (.astore_n 3) 1 0 0 0 0 := rfl
set_option maxRecDepth 20000 in
theorem f312_20 : FF 312 20 (.iconst 0) 1 0 0 0 0 := rfl
set_option maxRecDepth 20000 in
theorem f312_21 : FF 312 21 (.istore 4) 2 0 0 0 0 := rfl
set_option maxRecDepth 20000 in
theorem f312_23 : FF 312 23 (.iload 4) 2 0 0 0 0 := rfl
set_option maxRecDepth 20000 in
theorem f312_25 : FF 312 25 (.aload_n 0) 1 0 0 0 0 := rfl
set_option maxRecDepth 20000 in
theorem f312_26 : FF 312 26 (.arraylength) 1 0 0 0 0 := rfl
set_option maxRecDepth 20000 in
theorem f312_27 : FF 312 27 (.bipush 6) 2 0 0 0 0 := rfl
set_option maxRecDepth 20000 in
theorem f312_29 : FF 312 29 (.isub) 1 0 0 0 0 := rfl
set_option maxRecDepth 20000 in
theorem f312_30 : FF 312 30 (.if_icmp .gt 2475) 3 0 0 0 0 := rfl
set_option maxRecDepth 20000 in
theorem f312_33 : FF 312 33 (.aload_n 0) 1 0 0 0 0 := rfl
set_option maxRecDepth 20000 in
theorem f312_34 : FF 312 34 (.iload 4) 2 0 0 0 0 := rfl
set_option maxRecDepth 20000 in
theorem f312_36 : FF 312 36 (.iaload) 1 0 0 0 0 := rfl
set_option maxRecDepth 20000 in
theorem f312_37 : FF 312 37 (.bipush 63) 2 0 0 0 0 := rfl
set_option maxRecDepth 20000 in
theorem f312_39 : FF 312 39 (.iand) 1 0 0 0 0 := rfl
set_option maxRecDepth 20000 in
theorem f312_40 : FF 312 40 (.tableswitch 2459 0 58 #[252, 325, 350, 363, 376, 389, 402, 415, 428, 441, 454, 467, 535, 603, 671, 684, 740, 796, 852, 908, 964, 1027, 1090, 1146, 1209, 1265, 1321, 1377, 1390, 1446, 1502, 1515, 1528, 1584, 1627, 1670, 1683, 1696, 1709, 1734, 1759, 1772, 1835, 1898, 1954, 2010, 2023, 2036, 2049, 2090, 2146, 2214, 2227, 2240, 2320, 2364, 2377, 2402, 2415]) 252 0 0 0 0 := rfl
set_option maxRecDepth 20000 in
theorem f312_292 : FF 312 292 (.aload_n 1) 1 0 0 0 0 := rfl
set_option maxRecDepth 20000 in
theorem f312_293 : FF 312 293 (.aload_n 0) 1 0 0 0 0 := rfl
set_option maxRecDepth 20000 in
theorem f312_294 : FF 312 294 (.iload 4) 2 0 0 0 0 := rfl
set_option maxRecDepth 20000 in
theorem f312_296 : FF 312 296 (.iconst 1) 1 0 0 0 0 := rfl
set_option maxRecDepth 20000 in
theorem f312_297 : FF 312 297 (.iadd) 1 0 0 0 0 := rfl
set_option maxRecDepth 20000 in
theorem f312_298 : FF 312 298 (.iaload) 1 0 0 0 0 := rfl
set_option maxRecDepth 20000 in
theorem f312_299 : FF 312 299 (.aload_n 0) 1 0 0 0 0 := rfl
set_option maxRecDepth 20000 in
theorem f312_300 : FF 312 300 (.iload 4) 2 0 0 0 0 := rfl
set_option maxRecDepth 20000 in
theorem f312_302 : FF 312 302 (.iconst 2) 1 0 0 0 0 := rfl
set_option maxRecDepth 20000 in
theorem f312_303 : FF 312 303 (.iadd) 1 0 0 0 0 := rfl
set_option maxRecDepth 20000 in
theorem f312_304 : FF 312 304 (.iaload) 1 0 0 0 0 := rfl
set_option maxRecDepth 20000 in
theorem f312_305 : FF 312 305 (.aload_n 0) 1 0 0 0 0 := rfl
set_option maxRecDepth 20000 in
theorem f312_306 : FF 312 306 (.iload 4) 2 0 0 0 0 := rfl
set_option maxRecDepth 20000 in
theorem f312_308 : FF 312 308 (.iconst 3) 1 0 0 0 0 := rfl
set_option maxRecDepth 20000 in
theorem f312_309 : FF 312 309 (.iadd) 1 0 0 0 0 := rfl
set_option maxRecDepth 20000 in
theorem f312_310 : FF 312 310 (.iaload) 1 0 0 0 0 := rfl
set_option maxRecDepth 20000 in
theorem f312_311 : FF 312 311 (.aload_n 0) 1 0 0 0 0 := rfl
set_option maxRecDepth 20000 in
theorem f312_312 : FF 312 312 (.iload 4) 2 0 0 0 0 := rfl
set_option maxRecDepth 20000 in
theorem f312_314 : FF 312 314 (.iconst 4) 1 0 0 0 0 := rfl
set_option maxRecDepth 20000 in
theorem f312_315 : FF 312 315 (.iadd) 1 0 0 0 0 := rfl
set_option maxRecDepth 20000 in
theorem f312_316 : FF 312 316 (.iaload) 1 0 0 0 0 := rfl
set_option maxRecDepth 20000 in
theorem f312_317 : FF 312 317 (.aload_n 0) 1 0 0 0 0 := rfl
set_option maxRecDepth 20000 in
theorem f312_318 : FF 312 318 (.iload 4) 2 0 0 0 0 := rfl
set_option maxRecDepth 20000 in
theorem f312_320 : FF 312 320 (.iconst 5) 1 0 0 0 0 := rfl
set_option maxRecDepth 20000 in
theorem f312_321 : FF 312 321 (.iadd) 1 0 0 0 0 := rfl
set_option maxRecDepth 20000 in
theorem f312_322 : FF 312 322 (.iaload) 1 0 0 0 0 := rfl
set_option maxRecDepth 20000 in
theorem f312_323 : FF 312 323 (.invokevirtual 107) 3 73 5 0 661 := rfl
set_option maxRecDepth 20000 in
theorem f312_326 : FF 312 326 (.aload_n 2) 1 0 0 0 0 := rfl
set_option maxRecDepth 20000 in
theorem f312_327 : FF 312 327 (.aload_n 0) 1 0 0 0 0 := rfl
set_option maxRecDepth 20000 in
theorem f312_328 : FF 312 328 (.iload 4) 2 0 0 0 0 := rfl
set_option maxRecDepth 20000 in
theorem f312_330 : FF 312 330 (.iconst 1) 1 0 0 0 0 := rfl
set_option maxRecDepth 20000 in
theorem f312_331 : FF 312 331 (.iadd) 1 0 0 0 0 := rfl
set_option maxRecDepth 20000 in
theorem f312_332 : FF 312 332 (.iaload) 1 0 0 0 0 := rfl
set_option maxRecDepth 20000 in
theorem f312_333 : FF 312 333 (.aload_n 0) 1 0 0 0 0 := rfl
set_option maxRecDepth 20000 in
theorem f312_334 : FF 312 334 (.iload 4) 2 0 0 0 0 := rfl
set_option maxRecDepth 20000 in
theorem f312_336 : FF 312 336 (.iconst 2) 1 0 0 0 0 := rfl
set_option maxRecDepth 20000 in
theorem f312_337 : FF 312 337 (.iadd) 1 0 0 0 0 := rfl
set_option maxRecDepth 20000 in
theorem f312_338 : FF 312 338 (.iaload) 1 0 0 0 0 := rfl
set_option maxRecDepth 20000 in
theorem f312_339 : FF 312 339 (.aload_n 0) 1 0 0 0 0 := rfl
set_option maxRecDepth 20000 in
theorem f312_340 : FF 312 340 (.iload 4) 2 0 0 0 0 := rfl
set_option maxRecDepth 20000 in
theorem f312_342 : FF 312 342 (.iconst 3) 1 0 0 0 0 := rfl
set_option maxRecDepth 20000 in
theorem f312_343 : FF 312 343 (.iadd) 1 0 0 0 0 := rfl
set_option maxRecDepth 20000 in
theorem f312_344 : FF 312 344 (.iaload) 1 0 0 0 0 := rfl
set_option maxRecDepth 20000 in
theorem f312_345 : FF 312 345 (.aload_n 0) 1 0 0 0 0 := rfl
set_option maxRecDepth 20000 in
theorem f312_346 : FF 312 346 (.iload 4) 2 0 0 0 0 := rfl
set_option maxRecDepth 20000 in
theorem f312_348 : FF 312 348 (.iconst 4) 1 0 0 0 0 := rfl
set_option maxRecDepth 20000 in
theorem f312_349 : FF 312 349 (.iadd) 1 0 0 0 0 := rfl
set_option maxRecDepth 20000 in
theorem f312_350 : FF 312 350 (.iaload) 1 0 0 0 0 := rfl
set_option maxRecDepth 20000 in
theorem f312_351 : FF 312 351 (.aload_n 0) 1 0 0 0 0 := rfl
set_option maxRecDepth 20000 in
theorem f312_352 : FF 312 352 (.iload 4) 2 0 0 0 0 := rfl
set_option maxRecDepth 20000 in
theorem f312_354 : FF 312 354 (.iconst 5) 1 0 0 0 0 := rfl
set_option maxRecDepth 20000 in
theorem f312_355 : FF 312 355 (.iadd) 1 0 0 0 0 := rfl
set_option maxRecDepth 20000 in
theorem f312_356 : FF 312 356 (.iaload) 1 0 0 0 0 := rfl
set_option maxRecDepth 20000 in
theorem f312_357 : FF 312 357 (.invokevirtual 111) 3 188 5 0 1415 := rfl
set_option maxRecDepth 20000 in
theorem f312_360 : FF 312 360 (.if_icmp .eq 2139) 3 0 0 0 0 := rfl
set_option maxRecDepth 20000 in
theorem f312_363 : FF 312 363 (.iconst 0) 1 0 0 0 0 := rfl
set_option maxRecDepth 20000 in
theorem f312_364 : FF 312 364 (.ireturn) 1 0 0 0 0 := rfl
set_option maxRecDepth 20000 in
theorem f312_365 : FF 312 365 (.aload_n 1) 1 0 0 0 0 := rfl
set_option maxRecDepth 20000 in
theorem f312_366 : FF 312 366 (.aload_n 0) 1 0 0 0 0 := rfl
set_option maxRecDepth 20000 in
theorem f312_367 : FF 312 367 (.iload 4) 2 0 0 0 0 := rfl
set_option maxRecDepth 20000 in
theorem f312_369 : FF 312 369 (.iconst 1) 1 0 0 0 0 := rfl
set_option maxRecDepth 20000 in
theorem f312_370 : FF 312 370 (.iadd) 1 0 0 0 0 := rfl
set_option maxRecDepth 20000 in
theorem f312_371 : FF 312 371 (.iaload) 1 0 0 0 0 := rfl
set_option maxRecDepth 20000 in
theorem f312_372 : FF 312 372 (.invokevirtual 112) 3 74 1 0 669 := rfl
set_option maxRecDepth 20000 in
theorem f312_375 : FF 312 375 (.aload_n 2) 1 0 0 0 0 := rfl
set_option maxRecDepth 20000 in
theorem f312_376 : FF 312 376 (.aload_n 0) 1 0 0 0 0 := rfl
set_option maxRecDepth 20000 in
theorem f312_377 : FF 312 377 (.iload 4) 2 0 0 0 0 := rfl
set_option maxRecDepth 20000 in
theorem f312_379 : FF 312 379 (.iconst 1) 1 0 0 0 0 := rfl
set_option maxRecDepth 20000 in
theorem f312_380 : FF 312 380 (.iadd) 1 0 0 0 0 := rfl
set_option maxRecDepth 20000 in
theorem f312_381 : FF 312 381 (.iaload) 1 0 0 0 0 := rfl
set_option maxRecDepth 20000 in
theorem f312_382 : FF 312 382 (.invokevirtual 115) 3 189 1 0 1423 := rfl
set_option maxRecDepth 20000 in
theorem f312_385 : FF 312 385 (.if_icmp .eq 2114) 3 0 0 0 0 := rfl
set_option maxRecDepth 20000 in
theorem f312_388 : FF 312 388 (.iconst 0) 1 0 0 0 0 := rfl
set_option maxRecDepth 20000 in
theorem f312_389 : FF 312 389 (.ireturn) 1 0 0 0 0 := rfl
set_option maxRecDepth 20000 in
theorem f312_390 : FF 312 390 (.aload_n 1) 1 0 0 0 0 := rfl
set_option maxRecDepth 20000 in
theorem f312_391 : FF 312 391 (.invokevirtual 116) 3 75 0 0 673 := rfl
set_option maxRecDepth 20000 in
theorem f312_394 : FF 312 394 (.aload_n 2) 1 0 0 0 0 := rfl
set_option maxRecDepth 20000 in
theorem f312_395 : FF 312 395 (.invokevirtual 119) 3 215 0 0 1430 := rfl
set_option maxRecDepth 20000 in
theorem f312_398 : FF 312 398 (.if_icmp .eq 2101) 3 0 0 0 0 := rfl
set_option maxRecDepth 20000 in
theorem f312_401 : FF 312 401 (.iconst 0) 1 0 0 0 0 := rfl
set_option maxRecDepth 20000 in
theorem f312_402 : FF 312 402 (.ireturn) 1 0 0 0 0 := rfl
set_option maxRecDepth 20000 in
theorem f312_403 : FF 312 403 (.aload_n 1) 1 0 0 0 0 := rfl
set_option maxRecDepth 20000 in
theorem f312_404 : FF 312 404 (.invokevirtual 120) 3 76 0 0 681 := rfl
set_option maxRecDepth 20000 in
theorem f312_407 : FF 312 407 (.aload_n 2) 1 0 0 0 0 := rfl
set_option maxRecDepth 20000 in
theorem f312_408 : FF 312 408 (.invokevirtual 123) 3 220 0 0 1589 := rfl
set_option maxRecDepth 20000 in
theorem f312_411 : FF 312 411 (.if_icmp .eq 2088) 3 0 0 0 0 := rfl
set_option maxRecDepth 20000 in
theorem f312_414 : FF 312 414 (.iconst 0) 1 0 0 0 0 := rfl
set_option maxRecDepth 20000 in
theorem f312_415 : FF 312 415 (.ireturn) 1 0 0 0 0 := rfl
set_option maxRecDepth 20000 in
theorem f312_416 : FF 312 416 (.aload_n 1) 1 0 0 0 0 := rfl
set_option maxRecDepth 20000 in
theorem f312_417 : FF 312 417 (.invokevirtual 124) 3 77 0 0 772 := rfl
set_option maxRecDepth 20000 in
theorem f312_420 : FF 312 420 (.aload_n 2) 1 0 0 0 0 := rfl
set_option maxRecDepth 20000 in
theorem f312_421 : FF 312 421 (.invokevirtual 127) 3 221 0 0 1667 := rfl
set_option maxRecDepth 20000 in
theorem f312_424 : FF 312 424 (.if_icmp .eq 2075) 3 0 0 0 0 := rfl
set_option maxRecDepth 20000 in
theorem f312_427 : FF 312 427 (.iconst 0) 1 0 0 0 0 := rfl
set_option maxRecDepth 20000 in
theorem f312_428 : FF 312 428 (.ireturn) 1 0 0 0 0 := rfl
set_option maxRecDepth 20000 in
theorem f312_429 : FF 312 429 (.aload_n 1) 1 0 0 0 0 := rfl
set_option maxRecDepth 20000 in
theorem f312_430 : FF 312 430 (.invokevirtual 128) 3 78 0 0 776 := rfl
set_option maxRecDepth 20000 in
theorem f312_433 : FF 312 433 (.aload_n 2) 1 0 0 0 0 := rfl
set_option maxRecDepth 20000 in
theorem f312_434 : FF 312 434 (.invokevirtual 131) 3 222 0 0 1671 := rfl
set_option maxRecDepth 20000 in
theorem f312_437 : FF 312 437 (.if_icmp .eq 2062) 3 0 0 0 0 := rfl
set_option maxRecDepth 20000 in
theorem f312_440 : FF 312 440 (.iconst 0) 1 0 0 0 0 := rfl
set_option maxRecDepth 20000 in
theorem f312_441 : FF 312 441 (.ireturn) 1 0 0 0 0 := rfl
set_option maxRecDepth 20000 in
theorem f312_442 : FF 312 442 (.aload_n 1) 1 0 0 0 0 := rfl
set_option maxRecDepth 20000 in
theorem f312_443 : FF 312 443 (.invokevirtual 132) 3 79 0 0 780 := rfl
set_option maxRecDepth 20000 in
theorem f312_446 : FF 312 446 (.aload_n 2) 1 0 0 0 0 := rfl
set_option maxRecDepth 20000 in
theorem f312_447 : FF 312 447 (.invokevirtual 135) 3 223 0 0 1675 := rfl
set_option maxRecDepth 20000 in
theorem f312_450 : FF 312 450 (.if_icmp .eq 2049) 3 0 0 0 0 := rfl
set_option maxRecDepth 20000 in
theorem f312_453 : FF 312 453 (.iconst 0) 1 0 0 0 0 := rfl
set_option maxRecDepth 20000 in
theorem f312_454 : FF 312 454 (.ireturn) 1 0 0 0 0 := rfl
set_option maxRecDepth 20000 in
theorem f312_455 : FF 312 455 (.aload_n 1) 1 0 0 0 0 := rfl
set_option maxRecDepth 20000 in
theorem f312_456 : FF 312 456 (.invokevirtual 136) 3 80 0 0 784 := rfl
set_option maxRecDepth 20000 in
theorem f312_459 : FF 312 459 (.aload_n 2) 1 0 0 0 0 := rfl
set_option maxRecDepth 20000 in
theorem f312_460 : FF 312 460 (.invokevirtual 139) 3 224 0 0 1679 := rfl
set_option maxRecDepth 20000 in
theorem f312_463 : FF 312 463 (.if_icmp .eq 2036) 3 0 0 0 0 := rfl
set_option maxRecDepth 20000 in
theorem f312_466 : FF 312 466 (.iconst 0) 1 0 0 0 0 := rfl
set_option maxRecDepth 20000 in
theorem f312_467 : FF 312 467 (.ireturn) 1 0 0 0 0 := rfl
set_option maxRecDepth 20000 in
theorem f312_468 : FF 312 468 (.aload_n 1) 1 0 0 0 0 := rfl
set_option maxRecDepth 20000 in
theorem f312_469 : FF 312 469 (.invokevirtual 140) 3 81 0 0 788 := rfl
set_option maxRecDepth 20000 in
theorem f312_472 : FF 312 472 (.aload_n 2) 1 0 0 0 0 := rfl
set_option maxRecDepth 20000 in
theorem f312_473 : FF 312 473 (.invokevirtual 143) 3 225 0 0 1683 := rfl
set_option maxRecDepth 20000 in
theorem f312_476 : FF 312 476 (.if_icmp .eq 2023) 3 0 0 0 0 := rfl
set_option maxRecDepth 20000 in
theorem f312_479 : FF 312 479 (.iconst 0) 1 0 0 0 0 := rfl
set_option maxRecDepth 20000 in
theorem f312_480 : FF 312 480 (.ireturn) 1 0 0 0 0 := rfl
set_option maxRecDepth 20000 in
theorem f312_481 : FF 312 481 (.aload_n 1) 1 0 0 0 0 := rfl
set_option maxRecDepth 20000 in
theorem f312_482 : FF 312 482 (.invokevirtual 144) 3 82 0 0 792 := rfl
set_option maxRecDepth 20000 in
theorem f312_485 : FF 312 485 (.aload_n 2) 1 0 0 0 0 := rfl
set_option maxRecDepth 20000 in
theorem f312_486 : FF 312 486 (.invokevirtual 147) 3 226 0 0 1687 := rfl
set_option maxRecDepth 20000 in
theorem f312_489 : FF 312 489 (.if_icmp .eq 2010) 3 0 0 0 0 := rfl
set_option maxRecDepth 20000 in
theorem f312_492 : FF 312 492 (.iconst 0) 1 0 0 0 0 := rfl
set_option maxRecDepth 20000 in
theorem f312_493 : FF 312 493 (.ireturn) 1 0 0 0 0 := rfl
set_option maxRecDepth 20000 in
theorem f312_494 : FF 312 494 (.aload_n 1) 1 0 0 0 0 := rfl
set_option maxRecDepth 20000 in
theorem f312_495 : FF 312 495 (.invokevirtual 148) 3 83 0 0 796 := rfl
set_option maxRecDepth 20000 in
theorem f312_498 : FF 312 498 (.aload_n 2) 1 0 0 0 0 := rfl
set_option maxRecDepth 20000 in
theorem f312_499 : FF 312 499 (.invokevirtual 151) 3 227 0 0 1691 := rfl
set_option maxRecDepth 20000 in
theorem f312_502 : FF 312 502 (.if_icmp .eq 1997) 3 0 0 0 0 := rfl
set_option maxRecDepth 20000 in
theorem f312_505 : FF 312 505 (.iconst 0) 1 0 0 0 0 := rfl
set_option maxRecDepth 20000 in
theorem f312_506 : FF 312 506 (.ireturn) 1 0 0 0 0 := rfl
set_option maxRecDepth 20000 in
theorem f312_507 : FF 312 507 (.aload_n 1) 1 0 0 0 0 := rfl
set_option maxRecDepth 20000 in
theorem f312_508 : FF 312 508 (.aload_n 0) 1 0 0 0 0 := rfl
set_option maxRecDepth 20000 in
theorem f312_509 : FF 312 509 (.iload 4) 2 0 0 0 0 := rfl
set_option maxRecDepth 20000 in
theorem f312_511 : FF 312 511 (.iconst 1) 1 0 0 0 0 := rfl
set_option maxRecDepth 20000 in
theorem f312_512 : FF 312 512 (.iadd) 1 0 0 0 0 := rfl
set_option maxRecDepth 20000 in
theorem f312_513 : FF 312 513 (.iaload) 1 0 0 0 0 := rfl
set_option maxRecDepth 20000 in
theorem f312_514 : FF 312 514 (.aload_n 0) 1 0 0 0 0 := rfl
set_option maxRecDepth 20000 in
theorem f312_515 : FF 312 515 (.iload 4) 2 0 0 0 0 := rfl
set_option maxRecDepth 20000 in
theorem f312_517 : FF 312 517 (.iconst 2) 1 0 0 0 0 := rfl
set_option maxRecDepth 20000 in
theorem f312_518 : FF 312 518 (.iadd) 1 0 0 0 0 := rfl
set_option maxRecDepth 20000 in
theorem f312_519 : FF 312 519 (.iaload) 1 0 0 0 0 := rfl
set_option maxRecDepth 20000 in
theorem f312_520 : FF 312 520 (.aload_n 3) 1 0 0 0 0 := rfl
set_option maxRecDepth 20000 in
theorem f312_521 : FF 312 521 (.invokestatic 152) 3 285 4 1 946 := rfl
set_option maxRecDepth 20000 in
theorem f312_524 : FF 312 524 (.istore 5) 2 0 0 0 0 := rfl
set_option maxRecDepth 20000 in
theorem f312_526 : FF 312 526 (.aload_n 2) 1 0 0 0 0 := rfl
set_option maxRecDepth 20000 in
theorem f312_527 : FF 312 527 (.aload_n 0) 1 0 0 0 0 := rfl
set_option maxRecDepth 20000 in
theorem f312_528 : FF 312 528 (.iload 4) 2 0 0 0 0 := rfl
set_option maxRecDepth 20000 in
theorem f312_530 : FF 312 530 (.iconst 1) 1 0 0 0 0 := rfl
set_option maxRecDepth 20000 in
theorem f312_531 : FF 312 531 (.iadd) 1 0 0 0 0 := rfl
set_option maxRecDepth 20000 in
theorem f312_532 : FF 312 532 (.iaload) 1 0 0 0 0 := rfl
set_option maxRecDepth 20000 in
theorem f312_533 : FF 312 533 (.aload_n 0) 1 0 0 0 0 := rfl
set_option maxRecDepth 20000 in
theorem f312_534 : FF 312 534 (.iload 4) 2 0 0 0 0 := rfl
set_option maxRecDepth 20000 in
theorem f312_536 : FF 312 536 (.iconst 2) 1 0 0 0 0 := rfl
set_option maxRecDepth 20000 in
theorem f312_537 : FF 312 537 (.iadd) 1 0 0 0 0 := rfl
set_option maxRecDepth 20000 in
theorem f312_538 : FF 312 538 (.iaload) 1 0 0 0 0 := rfl
set_option maxRecDepth 20000 in
theorem f312_539 : FF 312 539 (.invokevirtual 157) 3 234 2 0 1711 := rfl
set_option maxRecDepth 20000 in
theorem f312_542 : FF 312 542 (.istore 6) 2 0 0 0 0 := rfl
set_option maxRecDepth 20000 in
theorem f312_544 : FF 312 544 (.aload_n 2) 1 0 0 0 0 := rfl
set_option maxRecDepth 20000 in
theorem f312_545 : FF 312 545 (.invokevirtual 158) 3 147 0 0 1411 := rfl
set_option maxRecDepth 20000 in
theorem f312_548 : FF 312 548 (.iload 5) 2 0 0 0 0 := rfl
set_option maxRecDepth 20000 in
theorem f312_550 : FF 312 550 (.if_icmp .eq 5) 3 0 0 0 0 := rfl
set_option maxRecDepth 20000 in
theorem f312_553 : FF 312 553 (.iconst 0) 1 0 0 0 0 := rfl
set_option maxRecDepth 20000 in
theorem f312_554 : FF 312 554 (.ireturn) 1 0 0 0 0 := rfl
set_option maxRecDepth 20000 in
theorem f312_555 : FF 312 555 (.iload 5) 2 0 0 0 0 := rfl
set_option maxRecDepth 20000 in
theorem f312_557 : FF 312 557 (.ifCond .ne 15) 3 0 0 0 0 := rfl
set_option maxRecDepth 20000 in
theorem f312_560 : FF 312 560 (.aload_n 3) 1 0 0 0 0 := rfl
set_option maxRecDepth 20000 in
theorem f312_561 : FF 312 561 (.iconst 0) 1 0 0 0 0 := rfl
set_option maxRecDepth 20000 in
theorem f312_562 : FF 312 562 (.laload) 1 0 0 0 0 := rfl
set_option maxRecDepth 20000 in
theorem f312_563 : FF 312 563 (.iload 6) 2 0 0 0 0 := rfl
set_option maxRecDepth 20000 in
theorem f312_565 : FF 312 565 (.i2l) 1 0 0 0 0 := rfl
set_option maxRecDepth 20000 in
theorem f312_566 : FF 312 566 (.lcmp) 1 0 0 0 0 := rfl
set_option maxRecDepth 20000 in
theorem f312_567 : FF 312 567 (.ifCond .eq 5) 3 0 0 0 0 := rfl
set_option maxRecDepth 20000 in
theorem f312_570 : FF 312 570 (.iconst 0) 1 0 0 0 0 := rfl
set_option maxRecDepth 20000 in
theorem f312_571 : FF 312 571 (.ireturn) 1 0 0 0 0 := rfl
set_option maxRecDepth 20000 in
theorem f312_572 : FF 312 572 (.goto 1927) 3 0 0 0 0 := rfl
set_option maxRecDepth 20000 in
theorem f312_575 : FF 312 575 (.aload_n 1) 1 0 0 0 0 := rfl
set_option maxRecDepth 20000 in
theorem f312_576 : FF 312 576 (.aload_n 0) 1 0 0 0 0 := rfl
set_option maxRecDepth 20000 in
theorem f312_577 : FF 312 577 (.iload 4) 2 0 0 0 0 := rfl
set_option maxRecDepth 20000 in
theorem f312_579 : FF 312 579 (.iconst 1) 1 0 0 0 0 := rfl
set_option maxRecDepth 20000 in
theorem f312_580 : FF 312 580 (.iadd) 1 0 0 0 0 := rfl
set_option maxRecDepth 20000 in
theorem f312_581 : FF 312 581 (.iaload) 1 0 0 0 0 := rfl
set_option maxRecDepth 20000 in
theorem f312_582 : FF 312 582 (.aload_n 0) 1 0 0 0 0 := rfl
set_option maxRecDepth 20000 in
theorem f312_583 : FF 312 583 (.iload 4) 2 0 0 0 0 := rfl
set_option maxRecDepth 20000 in
theorem f312_585 : FF 312 585 (.iconst 2) 1 0 0 0 0 := rfl
set_option maxRecDepth 20000 in
theorem f312_586 : FF 312 586 (.iadd) 1 0 0 0 0 := rfl
set_option maxRecDepth 20000 in
theorem f312_587 : FF 312 587 (.iaload) 1 0 0 0 0 := rfl
set_option maxRecDepth 20000 in
theorem f312_588 : FF 312 588 (.aload_n 3) 1 0 0 0 0 := rfl
set_option maxRecDepth 20000 in
theorem f312_589 : FF 312 589 (.invokestatic 161) 3 286 4 1 1029 := rfl
set_option maxRecDepth 20000 in
theorem f312_592 : FF 312 592 (.istore 5) 2 0 0 0 0 := rfl
set_option maxRecDepth 20000 in
theorem f312_594 : FF 312 594 (.aload_n 2) 1 0 0 0 0 := rfl
set_option maxRecDepth 20000 in
theorem f312_595 : FF 312 595 (.aload_n 0) 1 0 0 0 0 := rfl
set_option maxRecDepth 20000 in
theorem f312_596 : FF 312 596 (.iload 4) 2 0 0 0 0 := rfl
set_option maxRecDepth 20000 in
theorem f312_598 : FF 312 598 (.iconst 1) 1 0 0 0 0 := rfl
set_option maxRecDepth 20000 in
theorem f312_599 : FF 312 599 (.iadd) 1 0 0 0 0 := rfl
set_option maxRecDepth 20000 in
theorem f312_600 : FF 312 600 (.iaload) 1 0 0 0 0 := rfl
set_option maxRecDepth 20000 in
theorem f312_601 : FF 312 601 (.aload_n 0) 1 0 0 0 0 := rfl
set_option maxRecDepth 20000 in
theorem f312_602 : FF 312 602 (.iload 4) 2 0 0 0 0 := rfl
set_option maxRecDepth 20000 in
theorem f312_604 : FF 312 604 (.iconst 2) 1 0 0 0 0 := rfl
set_option maxRecDepth 20000 in
theorem f312_605 : FF 312 605 (.iadd) 1 0 0 0 0 := rfl
set_option maxRecDepth 20000 in
theorem f312_606 : FF 312 606 (.iaload) 1 0 0 0 0 := rfl
set_option maxRecDepth 20000 in
theorem f312_607 : FF 312 607 (.invokevirtual 163) 3 235 2 0 1727 := rfl
set_option maxRecDepth 20000 in
theorem f312_610 : FF 312 610 (.istore 6) 2 0 0 0 0 := rfl
set_option maxRecDepth 20000 in
theorem f312_612 : FF 312 612 (.aload_n 2) 1 0 0 0 0 := rfl
set_option maxRecDepth 20000 in
theorem f312_613 : FF 312 613 (.invokevirtual 158) 3 147 0 0 1411 := rfl
set_option maxRecDepth 20000 in
theorem f312_616 : FF 312 616 (.iload 5) 2 0 0 0 0 := rfl
set_option maxRecDepth 20000 in
theorem f312_618 : FF 312 618 (.if_icmp .eq 5) 3 0 0 0 0 := rfl
set_option maxRecDepth 20000 in
theorem f312_621 : FF 312 621 (.iconst 0) 1 0 0 0 0 := rfl
set_option maxRecDepth 20000 in
theorem f312_622 : FF 312 622 (.ireturn) 1 0 0 0 0 := rfl
set_option maxRecDepth 20000 in
theorem f312_623 : FF 312 623 (.iload 5) 2 0 0 0 0 := rfl
set_option maxRecDepth 20000 in
theorem f312_625 : FF 312 625 (.ifCond .ne 15) 3 0 0 0 0 := rfl
set_option maxRecDepth 20000 in
theorem f312_628 : FF 312 628 (.aload_n 3) 1 0 0 0 0 := rfl
set_option maxRecDepth 20000 in
theorem f312_629 : FF 312 629 (.iconst 0) 1 0 0 0 0 := rfl
set_option maxRecDepth 20000 in
theorem f312_630 : FF 312 630 (.laload) 1 0 0 0 0 := rfl
set_option maxRecDepth 20000 in
theorem f312_631 : FF 312 631 (.iload 6) 2 0 0 0 0 := rfl
set_option maxRecDepth 20000 in
theorem f312_633 : FF 312 633 (.i2l) 1 0 0 0 0 := rfl
set_option maxRecDepth 20000 in
theorem f312_634 : FF 312 634 (.lcmp) 1 0 0 0 0 := rfl
set_option maxRecDepth 20000 in
theorem f312_635 : FF 312 635 (.ifCond .eq 5) 3 0 0 0 0 := rfl
set_option maxRecDepth 20000 in
theorem f312_638 : FF 312 638 (.iconst 0) 1 0 0 0 0 := rfl
set_option maxRecDepth 20000 in
theorem f312_639 : FF 312 639 (.ireturn) 1 0 0 0 0 := rfl
set_option maxRecDepth 20000 in
theorem f312_640 : FF 312 640 (.goto 1859) 3 0 0 0 0 := rfl
set_option maxRecDepth 20000 in
theorem f312_643 : FF 312 643 (.aload_n 1) 1 0 0 0 0 := rfl
set_option maxRecDepth 20000 in
theorem f312_644 : FF 312 644 (.aload_n 0) 1 0 0 0 0 := rfl
set_option maxRecDepth 20000 in
theorem f312_645 : FF 312 645 (.iload 4) 2 0 0 0 0 := rfl
set_option maxRecDepth 20000 in
theorem f312_647 : FF 312 647 (.iconst 1) 1 0 0 0 0 := rfl
set_option maxRecDepth 20000 in
theorem f312_648 : FF 312 648 (.iadd) 1 0 0 0 0 := rfl
set_option maxRecDepth 20000 in
theorem f312_649 : FF 312 649 (.iaload) 1 0 0 0 0 := rfl
set_option maxRecDepth 20000 in
theorem f312_650 : FF 312 650 (.aload_n 0) 1 0 0 0 0 := rfl
set_option maxRecDepth 20000 in
theorem f312_651 : FF 312 651 (.iload 4) 2 0 0 0 0 := rfl
set_option maxRecDepth 20000 in
theorem f312_653 : FF 312 653 (.iconst 2) 1 0 0 0 0 := rfl
set_option maxRecDepth 20000 in
theorem f312_654 : FF 312 654 (.iadd) 1 0 0 0 0 := rfl
set_option maxRecDepth 20000 in
theorem f312_655 : FF 312 655 (.iaload) 1 0 0 0 0 := rfl
set_option maxRecDepth 20000 in
theorem f312_656 : FF 312 656 (.aload_n 3) 1 0 0 0 0 := rfl
set_option maxRecDepth 20000 in
theorem f312_657 : FF 312 657 (.invokestatic 164) 3 287 4 1 1036 := rfl
set_option maxRecDepth 20000 in
theorem f312_660 : FF 312 660 (.istore 5) 2 0 0 0 0 := rfl
set_option maxRecDepth 20000 in
theorem f312_662 : FF 312 662 (.aload_n 2) 1 0 0 0 0 := rfl
set_option maxRecDepth 20000 in
theorem f312_663 : FF 312 663 (.aload_n 0) 1 0 0 0 0 := rfl
set_option maxRecDepth 20000 in
theorem f312_664 : FF 312 664 (.iload 4) 2 0 0 0 0 := rfl
set_option maxRecDepth 20000 in
theorem f312_666 : FF 312 666 (.iconst 1) 1 0 0 0 0 := rfl
set_option maxRecDepth 20000 in
theorem f312_667 : FF 312 667 (.iadd) 1 0 0 0 0 := rfl
set_option maxRecDepth 20000 in
theorem f312_668 : FF 312 668 (.iaload) 1 0 0 0 0 := rfl
set_option maxRecDepth 20000 in
theorem f312_669 : FF 312 669 (.aload_n 0) 1 0 0 0 0 := rfl
set_option maxRecDepth 20000 in
theorem f312_670 : FF 312 670 (.iload 4) 2 0 0 0 0 := rfl
set_option maxRecDepth 20000 in
theorem f312_672 : FF 312 672 (.iconst 2) 1 0 0 0 0 := rfl
set_option maxRecDepth 20000 in
theorem f312_673 : FF 312 673 (.iadd) 1 0 0 0 0 := rfl
set_option maxRecDepth 20000 in
theorem f312_674 : FF 312 674 (.iaload) 1 0 0 0 0 := rfl
set_option maxRecDepth 20000 in
theorem f312_675 : FF 312 675 (.invokevirtual 166) 3 236 2 0 1731 := rfl
set_option maxRecDepth 20000 in
theorem f312_678 : FF 312 678 (.istore 6) 2 0 0 0 0 := rfl
set_option maxRecDepth 20000 in
theorem f312_680 : FF 312 680 (.aload_n 2) 1 0 0 0 0 := rfl
set_option maxRecDepth 20000 in
theorem f312_681 : FF 312 681 (.invokevirtual 158) 3 147 0 0 1411 := rfl
set_option maxRecDepth 20000 in
theorem f312_684 : FF 312 684 (.iload 5) 2 0 0 0 0 := rfl
set_option maxRecDepth 20000 in
theorem f312_686 : FF 312 686 (.if_icmp .eq 5) 3 0 0 0 0 := rfl
set_option maxRecDepth 20000 in
theorem f312_689 : FF 312 689 (.iconst 0) 1 0 0 0 0 := rfl
set_option maxRecDepth 20000 in
theorem f312_690 : FF 312 690 (.ireturn) 1 0 0 0 0 := rfl
set_option maxRecDepth 20000 in
theorem f312_691 : FF 312 691 (.iload 5) 2 0 0 0 0 := rfl
set_option maxRecDepth 20000 in
theorem f312_693 : FF 312 693 (.ifCond .ne 15) 3 0 0 0 0 := rfl
set_option maxRecDepth 20000 in
theorem f312_696 : FF 312 696 (.aload_n 3) 1 0 0 0 0 := rfl
set_option maxRecDepth 20000 in
theorem f312_697 : FF 312 697 (.iconst 0) 1 0 0 0 0 := rfl
set_option maxRecDepth 20000 in
theorem f312_698 : FF 312 698 (.laload) 1 0 0 0 0 := rfl
set_option maxRecDepth 20000 in
theorem f312_699 : FF 312 699 (.iload 6) 2 0 0 0 0 := rfl
set_option maxRecDepth 20000 in
theorem f312_701 : FF 312 701 (.i2l) 1 0 0 0 0 := rfl
set_option maxRecDepth 20000 in
theorem f312_702 : FF 312 702 (.lcmp) 1 0 0 0 0 := rfl
set_option maxRecDepth 20000 in
theorem f312_703 : FF 312 703 (.ifCond .eq 5) 3 0 0 0 0 := rfl
set_option maxRecDepth 20000 in
theorem f312_706 : FF 312 706 (.iconst 0) 1 0 0 0 0 := rfl
set_option maxRecDepth 20000 in
theorem f312_707 : FF 312 707 (.ireturn) 1 0 0 0 0 := rfl
set_option maxRecDepth 20000 in
theorem f312_708 : FF 312 708 (.goto 1791) 3 0 0 0 0 := rfl
set_option maxRecDepth 20000 in
theorem f312_711 : FF 312 711 (.aload_n 1) 1 0 0 0 0 := rfl
set_option maxRecDepth 20000 in
theorem f312_712 : FF 312 712 (.invokevirtual 167) 3 87 0 0 800 := rfl
set_option maxRecDepth 20000 in
theorem f312_715 : FF 312 715 (.aload_n 2) 1 0 0 0 0 := rfl
set_option maxRecDepth 20000 in
theorem f312_716 : FF 312 716 (.invokevirtual 170) 3 228 0 0 1695 := rfl
set_option maxRecDepth 20000 in
theorem f312_719 : FF 312 719 (.if_icmp .eq 1780) 3 0 0 0 0 := rfl
set_option maxRecDepth 20000 in
theorem f312_722 : FF 312 722 (.iconst 0) 1 0 0 0 0 := rfl
set_option maxRecDepth 20000 in
theorem f312_723 : FF 312 723 (.ireturn) 1 0 0 0 0 := rfl
set_option maxRecDepth 20000 in
theorem f312_724 : FF 312 724 (.aload_n 1) 1 0 0 0 0 := rfl
set_option maxRecDepth 20000 in
theorem f312_725 : FF 312 725 (.aload_n 0) 1 0 0 0 0 := rfl
set_option maxRecDepth 20000 in
theorem f312_726 : FF 312 726 (.iload 4) 2 0 0 0 0 := rfl
set_option maxRecDepth 20000 in
theorem f312_728 : FF 312 728 (.iconst 1) 1 0 0 0 0 := rfl
set_option maxRecDepth 20000 in
theorem f312_729 : FF 312 729 (.iadd) 1 0 0 0 0 := rfl
set_option maxRecDepth 20000 in
theorem f312_730 : FF 312 730 (.iaload) 1 0 0 0 0 := rfl
set_option maxRecDepth 20000 in
theorem f312_731 : FF 312 731 (.aload_n 3) 1 0 0 0 0 := rfl
set_option maxRecDepth 20000 in
theorem f312_732 : FF 312 732 (.invokestatic 171) 3 288 3 1 1043 := rfl
set_option maxRecDepth 20000 in
theorem f312_735 : FF 312 735 (.istore 5) 2 0 0 0 0 := rfl
set_option maxRecDepth 20000 in
theorem f312_737 : FF 312 737 (.aload_n 2) 1 0 0 0 0 := rfl
set_option maxRecDepth 20000 in
theorem f312_738 : FF 312 738 (.aload_n 0) 1 0 0 0 0 := rfl
set_option maxRecDepth 20000 in
theorem f312_739 : FF 312 739 (.iload 4) 2 0 0 0 0 := rfl
set_option maxRecDepth 20000 in
theorem f312_741 : FF 312 741 (.iconst 1) 1 0 0 0 0 := rfl
set_option maxRecDepth 20000 in
theorem f312_742 : FF 312 742 (.iadd) 1 0 0 0 0 := rfl
set_option maxRecDepth 20000 in
theorem f312_743 : FF 312 743 (.iaload) 1 0 0 0 0 := rfl
set_option maxRecDepth 20000 in
theorem f312_744 : FF 312 744 (.invokevirtual 174) 3 241 1 0 1751 := rfl
set_option maxRecDepth 20000 in
theorem f312_747 : FF 312 747 (.istore 6) 2 0 0 0 0 := rfl
set_option maxRecDepth 20000 in
theorem f312_749 : FF 312 749 (.aload_n 2) 1 0 0 0 0 := rfl
set_option maxRecDepth 20000 in
theorem f312_750 : FF 312 750 (.invokevirtual 158) 3 147 0 0 1411 := rfl
set_option maxRecDepth 20000 in
theorem f312_753 : FF 312 753 (.iload 5) 2 0 0 0 0 := rfl
set_option maxRecDepth 20000 in
theorem f312_755 : FF 312 755 (.if_icmp .eq 5) 3 0 0 0 0 := rfl
set_option maxRecDepth 20000 in
theorem f312_758 : FF 312 758 (.iconst 0) 1 0 0 0 0 := rfl
set_option maxRecDepth 20000 in
theorem f312_759 : FF 312 759 (.ireturn) 1 0 0 0 0 := rfl
set_option maxRecDepth 20000 in
theorem f312_760 : FF 312 760 (.iload 5) 2 0 0 0 0 := rfl
set_option maxRecDepth 20000 in
theorem f312_762 : FF 312 762 (.ifCond .ne 15) 3 0 0 0 0 := rfl
set_option maxRecDepth 20000 in
theorem f312_765 : FF 312 765 (.aload_n 3) 1 0 0 0 0 := rfl
set_option maxRecDepth 20000 in
theorem f312_766 : FF 312 766 (.iconst 0) 1 0 0 0 0 := rfl
set_option maxRecDepth 20000 in
theorem f312_767 : FF 312 767 (.laload) 1 0 0 0 0 := rfl
set_option maxRecDepth 20000 in
theorem f312_768 : FF 312 768 (.iload 6) 2 0 0 0 0 := rfl
set_option maxRecDepth 20000 in
theorem f312_770 : FF 312 770 (.i2l) 1 0 0 0 0 := rfl
set_option maxRecDepth 20000 in
theorem f312_771 : FF 312 771 (.lcmp) 1 0 0 0 0 := rfl
set_option maxRecDepth 20000 in
theorem f312_772 : FF 312 772 (.ifCond .eq 5) 3 0 0 0 0 := rfl
set_option maxRecDepth 20000 in
theorem f312_775 : FF 312 775 (.iconst 0) 1 0 0 0 0 := rfl
set_option maxRecDepth 20000 in
theorem f312_776 : FF 312 776 (.ireturn) 1 0 0 0 0 := rfl
set_option maxRecDepth 20000 in
theorem f312_777 : FF 312 777 (.goto 1722) 3 0 0 0 0 := rfl
set_option maxRecDepth 20000 in
theorem f312_780 : FF 312 780 (.aload_n 1) 1 0 0 0 0 := rfl
set_option maxRecDepth 20000 in
theorem f312_781 : FF 312 781 (.aload_n 0) 1 0 0 0 0 := rfl
set_option maxRecDepth 20000 in
theorem f312_782 : FF 312 782 (.iload 4) 2 0 0 0 0 := rfl
set_option maxRecDepth 20000 in
theorem f312_784 : FF 312 784 (.iconst 1) 1 0 0 0 0 := rfl
set_option maxRecDepth 20000 in
theorem f312_785 : FF 312 785 (.iadd) 1 0 0 0 0 := rfl
set_option maxRecDepth 20000 in
theorem f312_786 : FF 312 786 (.iaload) 1 0 0 0 0 := rfl
set_option maxRecDepth 20000 in
theorem f312_787 : FF 312 787 (.aload_n 3) 1 0 0 0 0 := rfl
set_option maxRecDepth 20000 in
theorem f312_788 : FF 312 788 (.invokestatic 175) 3 289 3 1 1050 := rfl
