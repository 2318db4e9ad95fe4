theorem dL_law_0 : decode code 0 = .ok (.new 7, 3) := by decide +kernel
theorem dL_law_3 : decode code 3 = .ok (.dup, 1) := by decide +kernel
theorem dL_law_4 : decode code 4 = .ok (.invokespecial 9, 3) := by decide +kernel
theorem dL_law_7 : decode code 7 = .ok (.astore_n 1, 1) := by decide +kernel
theorem dL_law_8 : decode code 8 = .ok (.new 10, 3) := by decide +kernel
theorem dL_law_11 : decode code 11 = .ok (.dup, 1) := by decide +kernel
theorem dL_law_12 : decode code 12 = .ok (.invokespecial 12, 3) := by decide +kernel
theorem dL_law_15 : decode code 15 = .ok (.astore_n 2, 1) := by decide +kernel
theorem dL_law_16 : decode code 16 = .ok (.iconst 0, 1) := by decide +kernel
theorem dL_law_17 : decode code 17 = .ok (.istore_n 3, 1) := by decide +kernel
theorem dL_law_18 : decode code 18 = .ok (.iload_n 3, 1) := by decide +kernel
theorem dL_law_19 : decode code 19 = .ok (.aload_n 0, 1) := by decide +kernel
theorem dL_law_20 : decode code 20 = .ok (.arraylength, 1) := by decide +kernel
theorem dL_law_21 : decode code 21 = .ok (.bipush 8, 2) := by decide +kernel
theorem dL_law_23 : decode code 23 = .ok (.isub, 1) := by decide +kernel
theorem dL_law_24 : decode code 24 = .ok (.if_icmp .gt 2087, 3) := by decide +kernel
theorem dL_law_27 : decode code 27 = .ok (.aload_n 0, 1) := by decide +kernel
theorem dL_law_28 : decode code 28 = .ok (.iload_n 3, 1) := by decide +kernel
theorem dL_law_29 : decode code 29 = .ok (.iaload, 1) := by decide +kernel
theorem dL_law_30 : decode code 30 = .ok (.bipush 63, 2) := by decide +kernel
theorem dL_law_32 : decode code 32 = .ok (.iand, 1) := by decide +kernel
theorem dL_law_33 : decode code 33 = .ok (.tableswitch 2072 0 51 #[223, 286, 309, 332, 355, 388, 421, 454, 487, 520, 563, 586, 619, 706, 793, 826, 850, 893, 916, 939, 962, 995, 1008, 1031, 1064, 1077, 1164, 1227, 1250, 1283, 1316, 1359, 1402, 1445, 1468, 1511, 1564, 1627, 1660, 1703, 1746, 1779, 1802, 1825, 1858, 1891, 1914, 1937, 1980, 2003, 2026, 2049], 223) := by decide +kernel
theorem dL_law_256 : decode code 256 = .ok (.aload_n 1, 1) := by decide +kernel
theorem dL_law_257 : decode code 257 = .ok (.aload_n 0, 1) := by decide +kernel
theorem dL_law_258 : decode code 258 = .ok (.iload_n 3, 1) := by decide +kernel
theorem dL_law_259 : decode code 259 = .ok (.iconst 1, 1) := by decide +kernel
theorem dL_law_260 : decode code 260 = .ok (.iadd, 1) := by decide +kernel
theorem dL_law_261 : decode code 261 = .ok (.iaload, 1) := by decide +kernel
theorem dL_law_262 : decode code 262 = .ok (.aload_n 0, 1) := by decide +kernel
theorem dL_law_263 : decode code 263 = .ok (.iload_n 3, 1) := by decide +kernel
theorem dL_law_264 : decode code 264 = .ok (.iconst 2, 1) := by decide +kernel
theorem dL_law_265 : decode code 265 = .ok (.iadd, 1) := by decide +kernel
theorem dL_law_266 : decode code 266 = .ok (.iaload, 1) := by decide +kernel
theorem dL_law_267 : decode code 267 = .ok (.aload_n 0, 1) := by decide +kernel
theorem dL_law_268 : decode code 268 = .ok (.iload_n 3, 1) := by decide +kernel
theorem dL_law_269 : decode code 269 = .ok (.iconst 3, 1) := by decide +kernel
theorem dL_law_270 : decode code 270 = .ok (.iadd, 1) := by decide +kernel
theorem dL_law_271 : decode code 271 = .ok (.iaload, 1) := by decide +kernel
theorem dL_law_272 : decode code 272 = .ok (.aload_n 0, 1) := by decide +kernel
theorem dL_law_273 : decode code 273 = .ok (.iload_n 3, 1) := by decide +kernel
theorem dL_law_274 : decode code 274 = .ok (.iconst 4, 1) := by decide +kernel
theorem dL_law_275 : decode code 275 = .ok (.iadd, 1) := by decide +kernel
theorem dL_law_276 : decode code 276 = .ok (.iaload, 1) := by decide +kernel
theorem dL_law_277 : decode code 277 = .ok (.aload_n 0, 1) := by decide +kernel
theorem dL_law_278 : decode code 278 = .ok (.iload_n 3, 1) := by decide +kernel
theorem dL_law_279 : decode code 279 = .ok (.iconst 5, 1) := by decide +kernel
theorem dL_law_280 : decode code 280 = .ok (.iadd, 1) := by decide +kernel
theorem dL_law_281 : decode code 281 = .ok (.iaload, 1) := by decide +kernel
theorem dL_law_282 : decode code 282 = .ok (.invokevirtual 13, 3) := by decide +kernel
theorem dL_law_285 : decode code 285 = .ok (.aload_n 2, 1) := by decide +kernel
theorem dL_law_286 : decode code 286 = .ok (.aload_n 0, 1) := by decide +kernel
theorem dL_law_287 : decode code 287 = .ok (.iload_n 3, 1) := by decide +kernel
theorem dL_law_288 : decode code 288 = .ok (.iconst 1, 1) := by decide +kernel
theorem dL_law_289 : decode code 289 = .ok (.iadd, 1) := by decide +kernel
theorem dL_law_290 : decode code 290 = .ok (.iaload, 1) := by decide +kernel
theorem dL_law_291 : decode code 291 = .ok (.aload_n 0, 1) := by decide +kernel
theorem dL_law_292 : decode code 292 = .ok (.iload_n 3, 1) := by decide +kernel
theorem dL_law_293 : decode code 293 = .ok (.iconst 2, 1) := by decide +kernel
theorem dL_law_294 : decode code 294 = .ok (.iadd, 1) := by decide +kernel
theorem dL_law_295 : decode code 295 = .ok (.iaload, 1) := by decide +kernel
theorem dL_law_296 : decode code 296 = .ok (.aload_n 0, 1) := by decide +kernel
theorem dL_law_297 : decode code 297 = .ok (.iload_n 3, 1) := by decide +kernel
theorem dL_law_298 : decode code 298 = .ok (.iconst 3, 1) := by decide +kernel
theorem dL_law_299 : decode code 299 = .ok (.iadd, 1) := by decide +kernel
theorem dL_law_300 : decode code 300 = .ok (.iaload, 1) := by decide +kernel
theorem dL_law_301 : decode code 301 = .ok (.aload_n 0, 1) := by decide +kernel
theorem dL_law_302 : decode code 302 = .ok (.iload_n 3, 1) := by decide +kernel
theorem dL_law_303 : decode code 303 = .ok (.iconst 4, 1) := by decide +kernel
theorem dL_law_304 : decode code 304 = .ok (.iadd, 1) := by decide +kernel
theorem dL_law_305 : decode code 305 = .ok (.iaload, 1) := by decide +kernel
theorem dL_law_306 : decode code 306 = .ok (.aload_n 0, 1) := by decide +kernel
theorem dL_law_307 : decode code 307 = .ok (.iload_n 3, 1) := by decide +kernel
theorem dL_law_308 : decode code 308 = .ok (.iconst 5, 1) := by decide +kernel
theorem dL_law_309 : decode code 309 = .ok (.iadd, 1) := by decide +kernel
theorem dL_law_310 : decode code 310 = .ok (.iaload, 1) := by decide +kernel
theorem dL_law_311 : decode code 311 = .ok (.invokevirtual 17, 3) := by decide +kernel
theorem dL_law_314 : decode code 314 = .ok (.if_icmp .eq 1791, 3) := by decide +kernel
theorem dL_law_317 : decode code 317 = .ok (.iconst 0, 1) := by decide +kernel
theorem dL_law_318 : decode code 318 = .ok (.ireturn, 1) := by decide +kernel
theorem dL_law_319 : decode code 319 = .ok (.aload_n 1, 1) := by decide +kernel
theorem dL_law_320 : decode code 320 = .ok (.aload_n 0, 1) := by decide +kernel
theorem dL_law_321 : decode code 321 = .ok (.iload_n 3, 1) := by decide +kernel
theorem dL_law_322 : decode code 322 = .ok (.iconst 1, 1) := by decide +kernel
theorem dL_law_323 : decode code 323 = .ok (.iadd, 1) := by decide +kernel
theorem dL_law_324 : decode code 324 = .ok (.iaload, 1) := by decide +kernel
theorem dL_law_325 : decode code 325 = .ok (.invokevirtual 18, 3) := by decide +kernel
theorem dL_law_328 : decode code 328 = .ok (.aload_n 2, 1) := by decide +kernel
theorem dL_law_329 : decode code 329 = .ok (.aload_n 0, 1) := by decide +kernel
theorem dL_law_330 : decode code 330 = .ok (.iload_n 3, 1) := by decide +kernel
theorem dL_law_331 : decode code 331 = .ok (.iconst 1, 1) := by decide +kernel
theorem dL_law_332 : decode code 332 = .ok (.iadd, 1) := by decide +kernel
theorem dL_law_333 : decode code 333 = .ok (.iaload, 1) := by decide +kernel
theorem dL_law_334 : decode code 334 = .ok (.invokevirtual 22, 3) := by decide +kernel
theorem dL_law_337 : decode code 337 = .ok (.if_icmp .eq 1768, 3) := by decide +kernel
theorem dL_law_340 : decode code 340 = .ok (.iconst 0, 1) := by decide +kernel
theorem dL_law_341 : decode code 341 = .ok (.ireturn, 1) := by decide +kernel
theorem dL_law_342 : decode code 342 = .ok (.aload_n 1, 1) := by decide +kernel
theorem dL_law_343 : decode code 343 = .ok (.aload_n 0, 1) := by decide +kernel
theorem dL_law_344 : decode code 344 = .ok (.iload_n 3, 1) := by decide +kernel
theorem dL_law_345 : decode code 345 = .ok (.iconst 1, 1) := by decide +kernel
theorem dL_law_346 : decode code 346 = .ok (.iadd, 1) := by decide +kernel
theorem dL_law_347 : decode code 347 = .ok (.iaload, 1) := by decide +kernel
theorem dL_law_348 : decode code 348 = .ok (.invokevirtual 23, 3) := by decide +kernel
theorem dL_law_351 : decode code 351 = .ok (.aload_n 2, 1) := by decide +kernel
theorem dL_law_352 : decode code 352 = .ok (.aload_n 0, 1) := by decide +kernel
theorem dL_law_353 : decode code 353 = .ok (.iload_n 3, 1) := by decide +kernel
theorem dL_law_354 : decode code 354 = .ok (.iconst 1, 1) := by decide +kernel
theorem dL_law_355 : decode code 355 = .ok (.iadd, 1) := by decide +kernel
theorem dL_law_356 : decode code 356 = .ok (.iaload, 1) := by decide +kernel
theorem dL_law_357 : decode code 357 = .ok (.invokevirtual 26, 3) := by decide +kernel
theorem dL_law_360 : decode code 360 = .ok (.if_icmp .eq 1745, 3) := by decide +kernel
theorem dL_law_363 : decode code 363 = .ok (.iconst 0, 1) := by decide +kernel
theorem dL_law_364 : decode code 364 = .ok (.ireturn, 1) := by decide +kernel
theorem dL_law_365 : decode code 365 = .ok (.aload_n 1, 1) := by decide +kernel
theorem dL_law_366 : decode code 366 = .ok (.aload_n 0, 1) := by decide +kernel
theorem dL_law_367 : decode code 367 = .ok (.iload_n 3, 1) := by decide +kernel
theorem dL_law_368 : decode code 368 = .ok (.iconst 1, 1) := by decide +kernel
theorem dL_law_369 : decode code 369 = .ok (.iadd, 1) := by decide +kernel
theorem dL_law_370 : decode code 370 = .ok (.iaload, 1) := by decide +kernel
theorem dL_law_371 : decode code 371 = .ok (.invokevirtual 27, 3) := by decide +kernel
theorem dL_law_374 : decode code 374 = .ok (.aload_n 2, 1) := by decide +kernel
theorem dL_law_375 : decode code 375 = .ok (.aload_n 0, 1) := by decide +kernel
theorem dL_law_376 : decode code 376 = .ok (.iload_n 3, 1) := by decide +kernel
theorem dL_law_377 : decode code 377 = .ok (.iconst 1, 1) := by decide +kernel
theorem dL_law_378 : decode code 378 = .ok (.iadd, 1) := by decide +kernel
theorem dL_law_379 : decode code 379 = .ok (.iaload, 1) := by decide +kernel
theorem dL_law_380 : decode code 380 = .ok (.invokevirtual 30, 3) := by decide +kernel
theorem dL_law_383 : decode code 383 = .ok (.if_icmp .eq 1722, 3) := by decide +kernel
theorem dL_law_386 : decode code 386 = .ok (.iconst 0, 1) := by decide +kernel
theorem dL_law_387 : decode code 387 = .ok (.ireturn, 1) := by decide +kernel
theorem dL_law_388 : decode code 388 = .ok (.aload_n 1, 1) := by decide +kernel
theorem dL_law_389 : decode code 389 = .ok (.aload_n 0, 1) := by decide +kernel
theorem dL_law_390 : decode code 390 = .ok (.iload_n 3, 1) := by decide +kernel
theorem dL_law_391 : decode code 391 = .ok (.iconst 1, 1) := by decide +kernel
theorem dL_law_392 : decode code 392 = .ok (.iadd, 1) := by decide +kernel
theorem dL_law_393 : decode code 393 = .ok (.iaload, 1) := by decide +kernel
theorem dL_law_394 : decode code 394 = .ok (.aload_n 0, 1) := by decide +kernel
theorem dL_law_395 : decode code 395 = .ok (.iload_n 3, 1) := by decide +kernel
theorem dL_law_396 : decode code 396 = .ok (.iconst 2, 1) := by decide +kernel
theorem dL_law_397 : decode code 397 = .ok (.iadd, 1) := by decide +kernel
theorem dL_law_398 : decode code 398 = .ok (.iaload, 1) := by decide +kernel
theorem dL_law_399 : decode code 399 = .ok (.invokevirtual 31, 3) := by decide +kernel
theorem dL_law_402 : decode code 402 = .ok (.aload_n 2, 1) := by decide +kernel
theorem dL_law_403 : decode code 403 = .ok (.aload_n 0, 1) := by decide +kernel
theorem dL_law_404 : decode code 404 = .ok (.iload_n 3, 1) := by decide +kernel
theorem dL_law_405 : decode code 405 = .ok (.iconst 1, 1) := by decide +kernel
theorem dL_law_406 : decode code 406 = .ok (.iadd, 1) := by decide +kernel
theorem dL_law_407 : decode code 407 = .ok (.iaload, 1) := by decide +kernel
theorem dL_law_408 : decode code 408 = .ok (.aload_n 0, 1) := by decide +kernel
theorem dL_law_409 : decode code 409 = .ok (.iload_n 3, 1) := by decide +kernel
theorem dL_law_410 : decode code 410 = .ok (.iconst 2, 1) := by decide +kernel
theorem dL_law_411 : decode code 411 = .ok (.iadd, 1) := by decide +kernel
theorem dL_law_412 : decode code 412 = .ok (.iaload, 1) := by decide +kernel
theorem dL_law_413 : decode code 413 = .ok (.invokevirtual 35, 3) := by decide +kernel
theorem dL_law_416 : decode code 416 = .ok (.if_icmp .eq 1689, 3) := by decide +kernel
theorem dL_law_419 : decode code 419 = .ok (.iconst 0, 1) := by decide +kernel
theorem dL_law_420 : decode code 420 = .ok (.ireturn, 1) := by decide +kernel
theorem dL_law_421 : decode code 421 = .ok (.aload_n 1, 1) := by decide +kernel
theorem dL_law_422 : decode code 422 = .ok (.aload_n 0, 1) := by decide +kernel
theorem dL_law_423 : decode code 423 = .ok (.iload_n 3, 1) := by decide +kernel
theorem dL_law_424 : decode code 424 = .ok (.iconst 1, 1) := by decide +kernel
theorem dL_law_425 : decode code 425 = .ok (.iadd, 1) := by decide +kernel
theorem dL_law_426 : decode code 426 = .ok (.iaload, 1) := by decide +kernel
theorem dL_law_427 : decode code 427 = .ok (.aload_n 0, 1) := by decide +kernel
theorem dL_law_428 : decode code 428 = .ok (.iload_n 3, 1) := by decide +kernel
theorem dL_law_429 : decode code 429 = .ok (.iconst 2, 1) := by decide +kernel
theorem dL_law_430 : decode code 430 = .ok (.iadd, 1) := by decide +kernel
theorem dL_law_431 : decode code 431 = .ok (.iaload, 1) := by decide +kernel
theorem dL_law_432 : decode code 432 = .ok (.invokevirtual 36, 3) := by decide +kernel
theorem dL_law_435 : decode code 435 = .ok (.aload_n 2, 1) := by decide +kernel
theorem dL_law_436 : decode code 436 = .ok (.aload_n 0, 1) := by decide +kernel
theorem dL_law_437 : decode code 437 = .ok (.iload_n 3, 1) := by decide +kernel
theorem dL_law_438 : decode code 438 = .ok (.iconst 1, 1) := by decide +kernel
theorem dL_law_439 : decode code 439 = .ok (.iadd, 1) := by decide +kernel
theorem dL_law_440 : decode code 440 = .ok (.iaload, 1) := by decide +kernel
theorem dL_law_441 : decode code 441 = .ok (.aload_n 0, 1) := by decide +kernel
theorem dL_law_442 : decode code 442 = .ok (.iload_n 3, 1) := by decide +kernel
theorem dL_law_443 : decode code 443 = .ok (.iconst 2, 1) := by decide +kernel
theorem dL_law_444 : decode code 444 = .ok (.iadd, 1) := by decide +kernel
theorem dL_law_445 : decode code 445 = .ok (.iaload, 1) := by decide +kernel
theorem dL_law_446 : decode code 446 = .ok (.invokevirtual 39, 3) := by decide +kernel
theorem dL_law_449 : decode code 449 = .ok (.if_icmp .eq 1656, 3) := by decide +kernel
theorem dL_law_452 : decode code 452 = .ok (.iconst 0, 1) := by decide +kernel
theorem dL_law_453 : decode code 453 = .ok (.ireturn, 1) := by decide +kernel
theorem dL_law_454 : decode code 454 = .ok (.aload_n 1, 1) := by decide +kernel
theorem dL_law_455 : decode code 455 = .ok (.aload_n 0, 1) := by decide +kernel
theorem dL_law_456 : decode code 456 = .ok (.iload_n 3, 1) := by decide +kernel
theorem dL_law_457 : decode code 457 = .ok (.iconst 1, 1) := by decide +kernel
theorem dL_law_458 : decode code 458 = .ok (.iadd, 1) := by decide +kernel
theorem dL_law_459 : decode code 459 = .ok (.iaload, 1) := by decide +kernel
theorem dL_law_460 : decode code 460 = .ok (.aload_n 0, 1) := by decide +kernel
theorem dL_law_461 : decode code 461 = .ok (.iload_n 3, 1) := by decide +kernel
theorem dL_law_462 : decode code 462 = .ok (.iconst 2, 1) := by decide +kernel
theorem dL_law_463 : decode code 463 = .ok (.iadd, 1) := by decide +kernel
theorem dL_law_464 : decode code 464 = .ok (.iaload, 1) := by decide +kernel
theorem dL_law_465 : decode code 465 = .ok (.invokevirtual 40, 3) := by decide +kernel
theorem dL_law_468 : decode code 468 = .ok (.aload_n 2, 1) := by decide +kernel
theorem dL_law_469 : decode code 469 = .ok (.aload_n 0, 1) := by decide +kernel
theorem dL_law_470 : decode code 470 = .ok (.iload_n 3, 1) := by decide +kernel
theorem dL_law_471 : decode code 471 = .ok (.iconst 1, 1) := by decide +kernel
theorem dL_law_472 : decode code 472 = .ok (.iadd, 1) := by decide +kernel
theorem dL_law_473 : decode code 473 = .ok (.iaload, 1) := by decide +kernel
theorem dL_law_474 : decode code 474 = .ok (.aload_n 0, 1) := by decide +kernel
theorem dL_law_475 : decode code 475 = .ok (.iload_n 3, 1) := by decide +kernel
theorem dL_law_476 : decode code 476 = .ok (.iconst 2, 1) := by decide +kernel
theorem dL_law_477 : decode code 477 = .ok (.iadd, 1) := by decide +kernel
theorem dL_law_478 : decode code 478 = .ok (.iaload, 1) := by decide +kernel
theorem dL_law_479 : decode code 479 = .ok (.invokevirtual 43, 3) := by decide +kernel
theorem dL_law_482 : decode code 482 = .ok (.if_icmp .eq 1623, 3) := by decide +kernel
theorem dL_law_485 : decode code 485 = .ok (.iconst 0, 1) := by decide +kernel
theorem dL_law_486 : decode code 486 = .ok (.ireturn, 1) := by decide +kernel
theorem dL_law_487 : decode code 487 = .ok (.aload_n 1, 1) := by decide +kernel
theorem dL_law_488 : decode code 488 = .ok (.aload_n 0, 1) := by decide +kernel
theorem dL_law_489 : decode code 489 = .ok (.iload_n 3, 1) := by decide +kernel
theorem dL_law_490 : decode code 490 = .ok (.iconst 1, 1) := by decide +kernel
theorem dL_law_491 : decode code 491 = .ok (.iadd, 1) := by decide +kernel
theorem dL_law_492 : decode code 492 = .ok (.iaload, 1) := by decide +kernel
theorem dL_law_493 : decode code 493 = .ok (.aload_n 0, 1) := by decide +kernel
theorem dL_law_494 : decode code 494 = .ok (.iload_n 3, 1) := by decide +kernel
theorem dL_law_495 : decode code 495 = .ok (.iconst 2, 1) := by decide +kernel
theorem dL_law_496 : decode code 496 = .ok (.iadd, 1) := by decide +kernel
theorem dL_law_497 : decode code 497 = .ok (.iaload, 1) := by decide +kernel
theorem dL_law_498 : decode code 498 = .ok (.invokevirtual 44, 3) := by decide +kernel
theorem dL_law_501 : decode code 501 = .ok (.aload_n 2, 1) := by decide +kernel
theorem dL_law_502 : decode code 502 = .ok (.aload_n 0, 1) := by decide +kernel
theorem dL_law_503 : decode code 503 = .ok (.iload_n 3, 1) := by decide +kernel
theorem dL_law_504 : decode code 504 = .ok (.iconst 1, 1) := by decide +kernel
theorem dL_law_505 : decode code 505 = .ok (.iadd, 1) := by decide +kernel
theorem dL_law_506 : decode code 506 = .ok (.iaload, 1) := by decide +kernel
theorem dL_law_507 : decode code 507 = .ok (.aload_n 0, 1) := by decide +kernel
theorem dL_law_508 : decode code 508 = .ok (.iload_n 3, 1) := by decide +kernel
theorem dL_law_509 : decode code 509 = .ok (.iconst 2, 1) := by decide +kernel
theorem dL_law_510 : decode code 510 = .ok (.iadd, 1) := by decide +kernel
theorem dL_law_511 : decode code 511 = .ok (.iaload, 1) := by decide +kernel
theorem dL_law_512 : decode code 512 = .ok (.invokevirtual 47, 3) := by decide +kernel
theorem dL_law_515 : decode code 515 = .ok (.if_icmp .eq 1590, 3) := by decide +kernel
theorem dL_law_518 : decode code 518 = .ok (.iconst 0, 1) := by decide +kernel
theorem dL_law_519 : decode code 519 = .ok (.ireturn, 1) := by decide +kernel
theorem dL_law_520 : decode code 520 = .ok (.aload_n 1, 1) := by decide +kernel
theorem dL_law_521 : decode code 521 = .ok (.aload_n 0, 1) := by decide +kernel
theorem dL_law_522 : decode code 522 = .ok (.iload_n 3, 1) := by decide +kernel
theorem dL_law_523 : decode code 523 = .ok (.iconst 1, 1) := by decide +kernel
theorem dL_law_524 : decode code 524 = .ok (.iadd, 1) := by decide +kernel
theorem dL_law_525 : decode code 525 = .ok (.iaload, 1) := by decide +kernel
theorem dL_law_526 : decode code 526 = .ok (.aload_n 0, 1) := by decide +kernel
theorem dL_law_527 : decode code 527 = .ok (.iload_n 3, 1) := by decide +kernel
theorem dL_law_528 : decode code 528 = .ok (.iconst 2, 1) := by decide +kernel
theorem dL_law_529 : decode code 529 = .ok (.iadd, 1) := by decide +kernel
theorem dL_law_530 : decode code 530 = .ok (.iaload, 1) := by decide +kernel
theorem dL_law_531 : decode code 531 = .ok (.invokevirtual 48, 3) := by decide +kernel
theorem dL_law_534 : decode code 534 = .ok (.aload_n 2, 1) := by decide +kernel
theorem dL_law_535 : decode code 535 = .ok (.aload_n 0, 1) := by decide +kernel
theorem dL_law_536 : decode code 536 = .ok (.iload_n 3, 1) := by decide +kernel
theorem dL_law_537 : decode code 537 = .ok (.iconst 1, 1) := by decide +kernel
theorem dL_law_538 : decode code 538 = .ok (.iadd, 1) := by decide +kernel
theorem dL_law_539 : decode code 539 = .ok (.iaload, 1) := by decide +kernel
theorem dL_law_540 : decode code 540 = .ok (.aload_n 0, 1) := by decide +kernel
theorem dL_law_541 : decode code 541 = .ok (.iload_n 3, 1) := by decide +kernel
theorem dL_law_542 : decode code 542 = .ok (.iconst 2, 1) := by decide +kernel
theorem dL_law_543 : decode code 543 = .ok (.iadd, 1) := by decide +kernel
theorem dL_law_544 : decode code 544 = .ok (.iaload, 1) := by decide +kernel
theorem dL_law_545 : decode code 545 = .ok (.invokevirtual 51, 3) := by decide +kernel
theorem dL_law_548 : decode code 548 = .ok (.if_icmp .eq 1557, 3) := by decide +kernel
theorem dL_law_551 : decode code 551 = .ok (.iconst 0, 1) := by decide +kernel
theorem dL_law_552 : decode code 552 = .ok (.ireturn, 1) := by decide +kernel
theorem dL_law_553 : decode code 553 = .ok (.aload_n 1, 1) := by decide +kernel
theorem dL_law_554 : decode code 554 = .ok (.aload_n 0, 1) := by decide +kernel
theorem dL_law_555 : decode code 555 = .ok (.iload_n 3, 1) := by decide +kernel
theorem dL_law_556 : decode code 556 = .ok (.iconst 1, 1) := by decide +kernel
theorem dL_law_557 : decode code 557 = .ok (.iadd, 1) := by decide +kernel
theorem dL_law_558 : decode code 558 = .ok (.iaload, 1) := by decide +kernel
theorem dL_law_559 : decode code 559 = .ok (.aload_n 0, 1) := by decide +kernel
theorem dL_law_560 : decode code 560 = .ok (.iload_n 3, 1) := by decide +kernel
theorem dL_law_561 : decode code 561 = .ok (.iconst 2, 1) := by decide +kernel
theorem dL_law_562 : decode code 562 = .ok (.iadd, 1) := by decide +kernel
theorem dL_law_563 : decode code 563 = .ok (.iaload, 1) := by decide +kernel
theorem dL_law_564 : decode code 564 = .ok (.aload_n 0, 1) := by decide +kernel
theorem dL_law_565 : decode code 565 = .ok (.iload_n 3, 1) := by decide +kernel
theorem dL_law_566 : decode code 566 = .ok (.iconst 3, 1) := by decide +kernel
theorem dL_law_567 : decode code 567 = .ok (.iadd, 1) := by decide +kernel
theorem dL_law_568 : decode code 568 = .ok (.iaload, 1) := by decide +kernel
theorem dL_law_569 : decode code 569 = .ok (.invokevirtual 52, 3) := by decide +kernel
theorem dL_law_572 : decode code 572 = .ok (.aload_n 2, 1) := by decide +kernel
theorem dL_law_573 : decode code 573 = .ok (.aload_n 0, 1) := by decide +kernel
theorem dL_law_574 : decode code 574 = .ok (.iload_n 3, 1) := by decide +kernel
theorem dL_law_575 : decode code 575 = .ok (.iconst 1, 1) := by decide +kernel
theorem dL_law_576 : decode code 576 = .ok (.iadd, 1) := by decide +kernel
theorem dL_law_577 : decode code 577 = .ok (.iaload, 1) := by decide +kernel
theorem dL_law_578 : decode code 578 = .ok (.aload_n 0, 1) := by decide +kernel
theorem dL_law_579 : decode code 579 = .ok (.iload_n 3, 1) := by decide +kernel
theorem dL_law_580 : decode code 580 = .ok (.iconst 2, 1) := by decide +kernel
theorem dL_law_581 : decode code 581 = .ok (.iadd, 1) := by decide +kernel
theorem dL_law_582 : decode code 582 = .ok (.iaload, 1) := by decide +kernel
theorem dL_law_583 : decode code 583 = .ok (.aload_n 0, 1) := by decide +kernel
theorem dL_law_584 : decode code 584 = .ok (.iload_n 3, 1) := by decide +kernel
theorem dL_law_585 : decode code 585 = .ok (.iconst 3, 1) := by decide +kernel
theorem dL_law_586 : decode code 586 = .ok (.iadd, 1) := by decide +kernel
theorem dL_law_587 : decode code 587 = .ok (.iaload, 1) := by decide +kernel
theorem dL_law_588 : decode code 588 = .ok (.invokevirtual 56, 3) := by decide +kernel
theorem dL_law_591 : decode code 591 = .ok (.if_icmp .eq 1514, 3) := by decide +kernel
theorem dL_law_594 : decode code 594 = .ok (.iconst 0, 1) := by decide +kernel
theorem dL_law_595 : decode code 595 = .ok (.ireturn, 1) := by decide +kernel
theorem dL_law_596 : decode code 596 = .ok (.aload_n 1, 1) := by decide +kernel
theorem dL_law_597 : decode code 597 = .ok (.aload_n 0, 1) := by decide +kernel
theorem dL_law_598 : decode code 598 = .ok (.iload_n 3, 1) := by decide +kernel
theorem dL_law_599 : decode code 599 = .ok (.iconst 1, 1) := by decide +kernel
theorem dL_law_600 : decode code 600 = .ok (.iadd, 1) := by decide +kernel
theorem dL_law_601 : decode code 601 = .ok (.iaload, 1) := by decide +kernel
theorem dL_law_602 : decode code 602 = .ok (.invokevirtual 57, 3) := by decide +kernel
theorem dL_law_605 : decode code 605 = .ok (.aload_n 2, 1) := by decide +kernel
theorem dL_law_606 : decode code 606 = .ok (.aload_n 0, 1) := by decide +kernel
theorem dL_law_607 : decode code 607 = .ok (.iload_n 3, 1) := by decide +kernel
theorem dL_law_608 : decode code 608 = .ok (.iconst 1, 1) := by decide +kernel
theorem dL_law_609 : decode code 609 = .ok (.iadd, 1) := by decide +kernel
theorem dL_law_610 : decode code 610 = .ok (.iaload, 1) := by decide +kernel
theorem dL_law_611 : decode code 611 = .ok (.invokevirtual 60, 3) := by decide +kernel
theorem dL_law_614 : decode code 614 = .ok (.if_icmp .eq 1491, 3) := by decide +kernel
theorem dL_law_617 : decode code 617 = .ok (.iconst 0, 1) := by decide +kernel
theorem dL_law_618 : decode code 618 = .ok (.ireturn, 1) := by decide +kernel
theorem dL_law_619 : decode code 619 = .ok (.aload_n 1, 1) := by decide +kernel
theorem dL_law_620 : decode code 620 = .ok (.aload_n 0, 1) := by decide +kernel
theorem dL_law_621 : decode code 621 = .ok (.iload_n 3, 1) := by decide +kernel
theorem dL_law_622 : decode code 622 = .ok (.iconst 1, 1) := by decide +kernel
theorem dL_law_623 : decode code 623 = .ok (.iadd, 1) := by decide +kernel
theorem dL_law_624 : decode code 624 = .ok (.iaload, 1) := by decide +kernel
theorem dL_law_625 : decode code 625 = .ok (.aload_n 0, 1) := by decide +kernel
theorem dL_law_626 : decode code 626 = .ok (.iload_n 3, 1) := by decide +kernel
theorem dL_law_627 : decode code 627 = .ok (.iconst 2, 1) := by decide +kernel
theorem dL_law_628 : decode code 628 = .ok (.iadd, 1) := by decide +kernel
theorem dL_law_629 : decode code 629 = .ok (.iaload, 1) := by decide +kernel
theorem dL_law_630 : decode code 630 = .ok (.invokevirtual 61, 3) := by decide +kernel
theorem dL_law_633 : decode code 633 = .ok (.aload_n 2, 1) := by decide +kernel
theorem dL_law_634 : decode code 634 = .ok (.aload_n 0, 1) := by decide +kernel
theorem dL_law_635 : decode code 635 = .ok (.iload_n 3, 1) := by decide +kernel
theorem dL_law_636 : decode code 636 = .ok (.iconst 1, 1) := by decide +kernel
theorem dL_law_637 : decode code 637 = .ok (.iadd, 1) := by decide +kernel
theorem dL_law_638 : decode code 638 = .ok (.iaload, 1) := by decide +kernel
theorem dL_law_639 : decode code 639 = .ok (.aload_n 0, 1) := by decide +kernel
theorem dL_law_640 : decode code 640 = .ok (.iload_n 3, 1) := by decide +kernel
theorem dL_law_641 : decode code 641 = .ok (.iconst 2, 1) := by decide +kernel
theorem dL_law_642 : decode code 642 = .ok (.iadd, 1) := by decide +kernel
theorem dL_law_643 : decode code 643 = .ok (.iaload, 1) := by decide +kernel
theorem dL_law_644 : decode code 644 = .ok (.invokevirtual 64, 3) := by decide +kernel
theorem dL_law_647 : decode code 647 = .ok (.if_icmp .eq 1458, 3) := by decide +kernel
theorem dL_law_650 : decode code 650 = .ok (.iconst 0, 1) := by decide +kernel
theorem dL_law_651 : decode code 651 = .ok (.ireturn, 1) := by decide +kernel
theorem dL_law_652 : decode code 652 = .ok (.aload_n 1, 1) := by decide +kernel
theorem dL_law_653 : decode code 653 = .ok (.aload_n 0, 1) := by decide +kernel
theorem dL_law_654 : decode code 654 = .ok (.iload_n 3, 1) := by decide +kernel
theorem dL_law_655 : decode code 655 = .ok (.iconst 1, 1) := by decide +kernel
theorem dL_law_656 : decode code 656 = .ok (.iadd, 1) := by decide +kernel
theorem dL_law_657 : decode code 657 = .ok (.iaload, 1) := by decide +kernel
theorem dL_law_658 : decode code 658 = .ok (.aload_n 0, 1) := by decide +kernel
theorem dL_law_659 : decode code 659 = .ok (.iload_n 3, 1) := by decide +kernel
theorem dL_law_660 : decode code 660 = .ok (.iconst 2, 1) := by decide +kernel
theorem dL_law_661 : decode code 661 = .ok (.iadd, 1) := by decide +kernel
theorem dL_law_662 : decode code 662 = .ok (.iaload, 1) := by decide +kernel
theorem dL_law_663 : decode code 663 = .ok (.aload_n 0, 1) := by decide +kernel
theorem dL_law_664 : decode code 664 = .ok (.iload_n 3, 1) := by decide +kernel
theorem dL_law_665 : decode code 665 = .ok (.iconst 3, 1) := by decide +kernel
theorem dL_law_666 : decode code 666 = .ok (.iadd, 1) := by decide +kernel
theorem dL_law_667 : decode code 667 = .ok (.iaload, 1) := by decide +kernel
theorem dL_law_668 : decode code 668 = .ok (.aload_n 0, 1) := by decide +kernel
theorem dL_law_669 : decode code 669 = .ok (.iload_n 3, 1) := by decide +kernel
theorem dL_law_670 : decode code 670 = .ok (.iconst 4, 1) := by decide +kernel
theorem dL_law_671 : decode code 671 = .ok (.iadd, 1) := by decide +kernel
theorem dL_law_672 : decode code 672 = .ok (.iaload, 1) := by decide +kernel
theorem dL_law_673 : decode code 673 = .ok (.aload_n 0, 1) := by decide +kernel
theorem dL_law_674 : decode code 674 = .ok (.iload_n 3, 1) := by decide +kernel
theorem dL_law_675 : decode code 675 = .ok (.iconst 5, 1) := by decide +kernel
theorem dL_law_676 : decode code 676 = .ok (.iadd, 1) := by decide +kernel
theorem dL_law_677 : decode code 677 = .ok (.iaload, 1) := by decide +kernel
theorem dL_law_678 : decode code 678 = .ok (.aload_n 0, 1) := by decide +kernel
theorem dL_law_679 : decode code 679 = .ok (.iload_n 3, 1) := by decide +kernel
theorem dL_law_680 : decode code 680 = .ok (.bipush 6, 2) := by decide +kernel
theorem dL_law_682 : decode code 682 = .ok (.iadd, 1) := by decide +kernel
theorem dL_law_683 : decode code 683 = .ok (.iaload, 1) := by decide +kernel
theorem dL_law_684 : decode code 684 = .ok (.aload_n 0, 1) := by decide +kernel
theorem dL_law_685 : decode code 685 = .ok (.iload_n 3, 1) := by decide +kernel
theorem dL_law_686 : decode code 686 = .ok (.bipush 7, 2) := by decide +kernel
theorem dL_law_688 : decode code 688 = .ok (.iadd, 1) := by decide +kernel
theorem dL_law_689 : decode code 689 = .ok (.iaload, 1) := by decide +kernel
theorem dL_law_690 : decode code 690 = .ok (.invokevirtual 65, 3) := by decide +kernel
theorem dL_law_693 : decode code 693 = .ok (.aload_n 2, 1) := by decide +kernel
theorem dL_law_694 : decode code 694 = .ok (.aload_n 0, 1) := by decide +kernel
theorem dL_law_695 : decode code 695 = .ok (.iload_n 3, 1) := by decide +kernel
theorem dL_law_696 : decode code 696 = .ok (.iconst 1, 1) := by decide +kernel
theorem dL_law_697 : decode code 697 = .ok (.iadd, 1) := by decide +kernel
theorem dL_law_698 : decode code 698 = .ok (.iaload, 1) := by decide +kernel
theorem dL_law_699 : decode code 699 = .ok (.aload_n 0, 1) := by decide +kernel
theorem dL_law_700 : decode code 700 = .ok (.iload_n 3, 1) := by decide +kernel
theorem dL_law_701 : decode code 701 = .ok (.iconst 2, 1) := by decide +kernel
theorem dL_law_702 : decode code 702 = .ok (.iadd, 1) := by decide +kernel
theorem dL_law_703 : decode code 703 = .ok (.iaload, 1) := by decide +kernel
theorem dL_law_704 : decode code 704 = .ok (.aload_n 0, 1) := by decide +kernel
theorem dL_law_705 : decode code 705 = .ok (.iload_n 3, 1) := by decide +kernel
theorem dL_law_706 : decode code 706 = .ok (.iconst 3, 1) := by decide +kernel
theorem dL_law_707 : decode code 707 = .ok (.iadd, 1) := by decide +kernel
theorem dL_law_708 : decode code 708 = .ok (.iaload, 1) := by decide +kernel
theorem dL_law_709 : decode code 709 = .ok (.aload_n 0, 1) := by decide +kernel
theorem dL_law_710 : decode code 710 = .ok (.iload_n 3, 1) := by decide +kernel
theorem dL_law_711 : decode code 711 = .ok (.iconst 4, 1) := by decide +kernel
theorem dL_law_712 : decode code 712 = .ok (.iadd, 1) := by decide +kernel
theorem dL_law_713 : decode code 713 = .ok (.iaload, 1) := by decide +kernel
theorem dL_law_714 : decode code 714 = .ok (.aload_n 0, 1) := by decide +kernel
theorem dL_law_715 : decode code 715 = .ok (.iload_n 3, 1) := by decide +kernel
theorem dL_law_716 : decode code 716 = .ok (.iconst 5, 1) := by decide +kernel
theorem dL_law_717 : decode code 717 = .ok (.iadd, 1) := by decide +kernel
theorem dL_law_718 : decode code 718 = .ok (.iaload, 1) := by decide +kernel
theorem dL_law_719 : decode code 719 = .ok (.aload_n 0, 1) := by decide +kernel
theorem dL_law_720 : decode code 720 = .ok (.iload_n 3, 1) := by decide +kernel
theorem dL_law_721 : decode code 721 = .ok (.bipush 6, 2) := by decide +kernel
theorem dL_law_723 : decode code 723 = .ok (.iadd, 1) := by decide +kernel
theorem dL_law_724 : decode code 724 = .ok (.iaload, 1) := by decide +kernel
theorem dL_law_725 : decode code 725 = .ok (.aload_n 0, 1) := by decide +kernel
theorem dL_law_726 : decode code 726 = .ok (.iload_n 3, 1) := by decide +kernel
theorem dL_law_727 : decode code 727 = .ok (.bipush 7, 2) := by decide +kernel
theorem dL_law_729 : decode code 729 = .ok (.iadd, 1) := by decide +kernel
theorem dL_law_730 : decode code 730 = .ok (.iaload, 1) := by decide +kernel
theorem dL_law_731 : decode code 731 = .ok (.invokevirtual 69, 3) := by decide +kernel
theorem dL_law_734 : decode code 734 = .ok (.if_icmp .eq 1371, 3) := by decide +kernel
theorem dL_law_737 : decode code 737 = .ok (.iconst 0, 1) := by decide +kernel
theorem dL_law_738 : decode code 738 = .ok (.ireturn, 1) := by decide +kernel
theorem dL_law_739 : decode code 739 = .ok (.aload_n 1, 1) := by decide +kernel
theorem dL_law_740 : decode code 740 = .ok (.aload_n 0, 1) := by decide +kernel
theorem dL_law_741 : decode code 741 = .ok (.iload_n 3, 1) := by decide +kernel
theorem dL_law_742 : decode code 742 = .ok (.iconst 1, 1) := by decide +kernel
theorem dL_law_743 : decode code 743 = .ok (.iadd, 1) := by decide +kernel
theorem dL_law_744 : decode code 744 = .ok (.iaload, 1) := by decide +kernel
theorem dL_law_745 : decode code 745 = .ok (.aload_n 0, 1) := by decide +kernel
theorem dL_law_746 : decode code 746 = .ok (.iload_n 3, 1) := by decide +kernel
theorem dL_law_747 : decode code 747 = .ok (.iconst 2, 1) := by decide +kernel
theorem dL_law_748 : decode code 748 = .ok (.iadd, 1) := by decide +kernel
theorem dL_law_749 : decode code 749 = .ok (.iaload, 1) := by decide +kernel
theorem dL_law_750 : decode code 750 = .ok (.aload_n 0, 1) := by decide +kernel
theorem dL_law_751 : decode code 751 = .ok (.iload_n 3, 1) := by decide +kernel
theorem dL_law_752 : decode code 752 = .ok (.iconst 3, 1) := by decide +kernel
theorem dL_law_753 : decode code 753 = .ok (.iadd, 1) := by decide +kernel
theorem dL_law_754 : decode code 754 = .ok (.iaload, 1) := by decide +kernel
theorem dL_law_755 : decode code 755 = .ok (.aload_n 0, 1) := by decide +kernel
theorem dL_law_756 : decode code 756 = .ok (.iload_n 3, 1) := by decide +kernel
theorem dL_law_757 : decode code 757 = .ok (.iconst 4, 1) := by decide +kernel
theorem dL_law_758 : decode code 758 = .ok (.iadd, 1) := by decide +kernel
theorem dL_law_759 : decode code 759 = .ok (.iaload, 1) := by decide +kernel
theorem dL_law_760 : decode code 760 = .ok (.aload_n 0, 1) := by decide +kernel
theorem dL_law_761 : decode code 761 = .ok (.iload_n 3, 1) := by decide +kernel
theorem dL_law_762 : decode code 762 = .ok (.iconst 5, 1) := by decide +kernel
theorem dL_law_763 : decode code 763 = .ok (.iadd, 1) := by decide +kernel
theorem dL_law_764 : decode code 764 = .ok (.iaload, 1) := by decide +kernel
theorem dL_law_765 : decode code 765 = .ok (.aload_n 0, 1) := by decide +kernel
theorem dL_law_766 : decode code 766 = .ok (.iload_n 3, 1) := by decide +kernel
theorem dL_law_767 : decode code 767 = .ok (.bipush 6, 2) := by decide +kernel
theorem dL_law_769 : decode code 769 = .ok (.iadd, 1) := by decide +kernel
theorem dL_law_770 : decode code 770 = .ok (.iaload, 1) := by decide +kernel
theorem dL_law_771 : decode code 771 = .ok (.aload_n 0, 1) := by decide +kernel
theorem dL_law_772 : decode code 772 = .ok (.iload_n 3, 1) := by decide +kernel
theorem dL_law_773 : decode code 773 = .ok (.bipush 7, 2) := by decide +kernel
theorem dL_law_775 : decode code 775 = .ok (.iadd, 1) := by decide +kernel
theorem dL_law_776 : decode code 776 = .ok (.iaload, 1) := by decide +kernel
theorem dL_law_777 : decode code 777 = .ok (.invokevirtual 70, 3) := by decide +kernel
theorem dL_law_780 : decode code 780 = .ok (.aload_n 2, 1) := by decide +kernel
theorem dL_law_781 : decode code 781 = .ok (.aload_n 0, 1) := by decide +kernel
theorem dL_law_782 : decode code 782 = .ok (.iload_n 3, 1) := by decide +kernel
theorem dL_law_783 : decode code 783 = .ok (.iconst 1, 1) := by decide +kernel
theorem dL_law_784 : decode code 784 = .ok (.iadd, 1) := by decide +kernel
theorem dL_law_785 : decode code 785 = .ok (.iaload, 1) := by decide +kernel
theorem dL_law_786 : decode code 786 = .ok (.aload_n 0, 1) := by decide +kernel
theorem dL_law_787 : decode code 787 = .ok (.iload_n 3, 1) := by decide +kernel
theorem dL_law_788 : decode code 788 = .ok (.iconst 2, 1) := by decide +kernel
theorem dL_law_789 : decode code 789 = .ok (.iadd, 1) := by decide +kernel
theorem dL_law_790 : decode code 790 = .ok (.iaload, 1) := by decide +kernel
theorem dL_law_791 : decode code 791 = .ok (.aload_n 0, 1) := by decide +kernel
theorem dL_law_792 : decode code 792 = .ok (.iload_n 3, 1) := by decide +kernel
theorem dL_law_793 : decode code 793 = .ok (.iconst 3, 1) := by decide +kernel
theorem dL_law_794 : decode code 794 = .ok (.iadd, 1) := by decide +kernel
theorem dL_law_795 : decode code 795 = .ok (.iaload, 1) := by decide +kernel
theorem dL_law_796 : decode code 796 = .ok (.aload_n 0, 1) := by decide +kernel
theorem dL_law_797 : decode code 797 = .ok (.iload_n 3, 1) := by decide +kernel
theorem dL_law_798 : decode code 798 = .ok (.iconst 4, 1) := by decide +kernel
theorem dL_law_799 : decode code 799 = .ok (.iadd, 1) := by decide +kernel
theorem dL_law_800 : decode code 800 = .ok (.iaload, 1) := by decide +kernel
theorem dL_law_801 : decode code 801 = .ok (.aload_n 0, 1) := by decide +kernel
theorem dL_law_802 : decode code 802 = .ok (.iload_n 3, 1) := by decide +kernel
theorem dL_law_803 : decode code 803 = .ok (.iconst 5, 1) := by decide +kernel
theorem dL_law_804 : decode code 804 = .ok (.iadd, 1) := by decide +kernel
theorem dL_law_805 : decode code 805 = .ok (.iaload, 1) := by decide +kernel
theorem dL_law_806 : decode code 806 = .ok (.aload_n 0, 1) := by decide +kernel
theorem dL_law_807 : decode code 807 = .ok (.iload_n 3, 1) := by decide +kernel
theorem dL_law_808 : decode code 808 = .ok (.bipush 6, 2) := by decide +kernel
theorem dL_law_810 : decode code 810 = .ok (.iadd, 1) := by decide +kernel
theorem dL_law_811 : decode code 811 = .ok (.iaload, 1) := by decide +kernel
theorem dL_law_812 : decode code 812 = .ok (.aload_n 0, 1) := by decide +kernel
theorem dL_law_813 : decode code 813 = .ok (.iload_n 3, 1) := by decide +kernel
theorem dL_law_814 : decode code 814 = .ok (.bipush 7, 2) := by decide +kernel
theorem dL_law_816 : decode code 816 = .ok (.iadd, 1) := by decide +kernel
theorem dL_law_817 : decode code 817 = .ok (.iaload, 1) := by decide +kernel
theorem dL_law_818 : decode code 818 = .ok (.invokevirtual 73, 3) := by decide +kernel
theorem dL_law_821 : decode code 821 = .ok (.if_icmp .eq 1284, 3) := by decide +kernel
theorem dL_law_824 : decode code 824 = .ok (.iconst 0, 1) := by decide +kernel
theorem dL_law_825 : decode code 825 = .ok (.ireturn, 1) := by decide +kernel
theorem dL_law_826 : decode code 826 = .ok (.aload_n 1, 1) := by decide +kernel
theorem dL_law_827 : decode code 827 = .ok (.aload_n 0, 1) := by decide +kernel
theorem dL_law_828 : decode code 828 = .ok (.iload_n 3, 1) := by decide +kernel
theorem dL_law_829 : decode code 829 = .ok (.iconst 1, 1) := by decide +kernel
theorem dL_law_830 : decode code 830 = .ok (.iadd, 1) := by decide +kernel
theorem dL_law_831 : decode code 831 = .ok (.iaload, 1) := by decide +kernel
theorem dL_law_832 : decode code 832 = .ok (.aload_n 0, 1) := by decide +kernel
theorem dL_law_833 : decode code 833 = .ok (.iload_n 3, 1) := by decide +kernel
theorem dL_law_834 : decode code 834 = .ok (.iconst 2, 1) := by decide +kernel
theorem dL_law_835 : decode code 835 = .ok (.iadd, 1) := by decide +kernel
theorem dL_law_836 : decode code 836 = .ok (.iaload, 1) := by decide +kernel
theorem dL_law_837 : decode code 837 = .ok (.invokevirtual 74, 3) := by decide +kernel
theorem dL_law_840 : decode code 840 = .ok (.aload_n 2, 1) := by decide +kernel
theorem dL_law_841 : decode code 841 = .ok (.aload_n 0, 1) := by decide +kernel
theorem dL_law_842 : decode code 842 = .ok (.iload_n 3, 1) := by decide +kernel
theorem dL_law_843 : decode code 843 = .ok (.iconst 1, 1) := by decide +kernel
theorem dL_law_844 : decode code 844 = .ok (.iadd, 1) := by decide +kernel
theorem dL_law_845 : decode code 845 = .ok (.iaload, 1) := by decide +kernel
theorem dL_law_846 : decode code 846 = .ok (.aload_n 0, 1) := by decide +kernel
theorem dL_law_847 : decode code 847 = .ok (.iload_n 3, 1) := by decide +kernel
theorem dL_law_848 : decode code 848 = .ok (.iconst 2, 1) := by decide +kernel
theorem dL_law_849 : decode code 849 = .ok (.iadd, 1) := by decide +kernel
theorem dL_law_850 : decode code 850 = .ok (.iaload, 1) := by decide +kernel
theorem dL_law_851 : decode code 851 = .ok (.invokevirtual 77, 3) := by decide +kernel
theorem dL_law_854 : decode code 854 = .ok (.if_icmp .eq 1251, 3) := by decide +kernel
theorem dL_law_857 : decode code 857 = .ok (.iconst 0, 1) := by decide +kernel
theorem dL_law_858 : decode code 858 = .ok (.ireturn, 1) := by decide +kernel
theorem dL_law_859 : decode code 859 = .ok (.aload_n 1, 1) := by decide +kernel
theorem dL_law_860 : decode code 860 = .ok (.aload_n 0, 1) := by decide +kernel
theorem dL_law_861 : decode code 861 = .ok (.iload_n 3, 1) := by decide +kernel
theorem dL_law_862 : decode code 862 = .ok (.iconst 1, 1) := by decide +kernel
theorem dL_law_863 : decode code 863 = .ok (.iadd, 1) := by decide +kernel
theorem dL_law_864 : decode code 864 = .ok (.iaload, 1) := by decide +kernel
theorem dL_law_865 : decode code 865 = .ok (.invokevirtual 78, 3) := by decide +kernel
theorem dL_law_868 : decode code 868 = .ok (.aload_n 2, 1) := by decide +kernel
theorem dL_law_869 : decode code 869 = .ok (.aload_n 0, 1) := by decide +kernel
theorem dL_law_870 : decode code 870 = .ok (.iload_n 3, 1) := by decide +kernel
theorem dL_law_871 : decode code 871 = .ok (.iconst 1, 1) := by decide +kernel
theorem dL_law_872 : decode code 872 = .ok (.iadd, 1) := by decide +kernel
theorem dL_law_873 : decode code 873 = .ok (.iaload, 1) := by decide +kernel
theorem dL_law_874 : decode code 874 = .ok (.invokevirtual 82, 3) := by decide +kernel
theorem dL_law_877 : decode code 877 = .ok (.lcmp, 1) := by decide +kernel
theorem dL_law_878 : decode code 878 = .ok (.ifCond .eq 1227, 3) := by decide +kernel
theorem dL_law_881 : decode code 881 = .ok (.iconst 0, 1) := by decide +kernel
theorem dL_law_882 : decode code 882 = .ok (.ireturn, 1) := by decide +kernel
theorem dL_law_883 : decode code 883 = .ok (.aload_n 1, 1) := by decide +kernel
theorem dL_law_884 : decode code 884 = .ok (.aload_n 0, 1) := by decide +kernel
theorem dL_law_885 : decode code 885 = .ok (.iload_n 3, 1) := by decide +kernel
theorem dL_law_886 : decode code 886 = .ok (.iconst 1, 1) := by decide +kernel
theorem dL_law_887 : decode code 887 = .ok (.iadd, 1) := by decide +kernel
theorem dL_law_888 : decode code 888 = .ok (.iaload, 1) := by decide +kernel
theorem dL_law_889 : decode code 889 = .ok (.aload_n 0, 1) := by decide +kernel
theorem dL_law_890 : decode code 890 = .ok (.iload_n 3, 1) := by decide +kernel
theorem dL_law_891 : decode code 891 = .ok (.iconst 2, 1) := by decide +kernel
theorem dL_law_892 : decode code 892 = .ok (.iadd, 1) := by decide +kernel
theorem dL_law_893 : decode code 893 = .ok (.iaload, 1) := by decide +kernel
theorem dL_law_894 : decode code 894 = .ok (.aload_n 0, 1) := by decide +kernel
theorem dL_law_895 : decode code 895 = .ok (.iload_n 3, 1) := by decide +kernel
theorem dL_law_896 : decode code 896 = .ok (.iconst 3, 1) := by decide +kernel
theorem dL_law_897 : decode code 897 = .ok (.iadd, 1) := by decide +kernel
theorem dL_law_898 : decode code 898 = .ok (.iaload, 1) := by decide +kernel
theorem dL_law_899 : decode code 899 = .ok (.invokevirtual 83, 3) := by decide +kernel
theorem dL_law_902 : decode code 902 = .ok (.aload_n 2, 1) := by decide +kernel
theorem dL_law_903 : decode code 903 = .ok (.aload_n 0, 1) := by decide +kernel
theorem dL_law_904 : decode code 904 = .ok (.iload_n 3, 1) := by decide +kernel
theorem dL_law_905 : decode code 905 = .ok (.iconst 1, 1) := by decide +kernel
theorem dL_law_906 : decode code 906 = .ok (.iadd, 1) := by decide +kernel
theorem dL_law_907 : decode code 907 = .ok (.iaload, 1) := by decide +kernel
theorem dL_law_908 : decode code 908 = .ok (.aload_n 0, 1) := by decide +kernel
theorem dL_law_909 : decode code 909 = .ok (.iload_n 3, 1) := by decide +kernel
theorem dL_law_910 : decode code 910 = .ok (.iconst 2, 1) := by decide +kernel
theorem dL_law_911 : decode code 911 = .ok (.iadd, 1) := by decide +kernel
theorem dL_law_912 : decode code 912 = .ok (.iaload, 1) := by decide +kernel
theorem dL_law_913 : decode code 913 = .ok (.aload_n 0, 1) := by decide +kernel
theorem dL_law_914 : decode code 914 = .ok (.iload_n 3, 1) := by decide +kernel
theorem dL_law_915 : decode code 915 = .ok (.iconst 3, 1) := by decide +kernel
theorem dL_law_916 : decode code 916 = .ok (.iadd, 1) := by decide +kernel
theorem dL_law_917 : decode code 917 = .ok (.iaload, 1) := by decide +kernel
theorem dL_law_918 : decode code 918 = .ok (.invokevirtual 86, 3) := by decide +kernel
theorem dL_law_921 : decode code 921 = .ok (.if_icmp .eq 1184, 3) := by decide +kernel
theorem dL_law_924 : decode code 924 = .ok (.iconst 0, 1) := by decide +kernel
theorem dL_law_925 : decode code 925 = .ok (.ireturn, 1) := by decide +kernel
theorem dL_law_926 : decode code 926 = .ok (.aload_n 1, 1) := by decide +kernel
theorem dL_law_927 : decode code 927 = .ok (.aload_n 0, 1) := by decide +kernel
theorem dL_law_928 : decode code 928 = .ok (.iload_n 3, 1) := by decide +kernel
theorem dL_law_929 : decode code 929 = .ok (.iconst 1, 1) := by decide +kernel
theorem dL_law_930 : decode code 930 = .ok (.iadd, 1) := by decide +kernel
theorem dL_law_931 : decode code 931 = .ok (.iaload, 1) := by decide +kernel
theorem dL_law_932 : decode code 932 = .ok (.invokevirtual 87, 3) := by decide +kernel
theorem dL_law_935 : decode code 935 = .ok (.aload_n 2, 1) := by decide +kernel
theorem dL_law_936 : decode code 936 = .ok (.aload_n 0, 1) := by decide +kernel
theorem dL_law_937 : decode code 937 = .ok (.iload_n 3, 1) := by decide +kernel
theorem dL_law_938 : decode code 938 = .ok (.iconst 1, 1) := by decide +kernel
theorem dL_law_939 : decode code 939 = .ok (.iadd, 1) := by decide +kernel
theorem dL_law_940 : decode code 940 = .ok (.iaload, 1) := by decide +kernel
theorem dL_law_941 : decode code 941 = .ok (.invokevirtual 90, 3) := by decide +kernel
theorem dL_law_944 : decode code 944 = .ok (.if_icmp .eq 1161, 3) := by decide +kernel
theorem dL_law_947 : decode code 947 = .ok (.iconst 0, 1) := by decide +kernel
theorem dL_law_948 : decode code 948 = .ok (.ireturn, 1) := by decide +kernel
theorem dL_law_949 : decode code 949 = .ok (.aload_n 1, 1) := by decide +kernel
theorem dL_law_950 : decode code 950 = .ok (.aload_n 0, 1) := by decide +kernel
theorem dL_law_951 : decode code 951 = .ok (.iload_n 3, 1) := by decide +kernel
theorem dL_law_952 : decode code 952 = .ok (.iconst 1, 1) := by decide +kernel
theorem dL_law_953 : decode code 953 = .ok (.iadd, 1) := by decide +kernel
theorem dL_law_954 : decode code 954 = .ok (.iaload, 1) := by decide +kernel
theorem dL_law_955 : decode code 955 = .ok (.invokevirtual 91, 3) := by decide +kernel
theorem dL_law_958 : decode code 958 = .ok (.aload_n 2, 1) := by decide +kernel
theorem dL_law_959 : decode code 959 = .ok (.aload_n 0, 1) := by decide +kernel
theorem dL_law_960 : decode code 960 = .ok (.iload_n 3, 1) := by decide +kernel
theorem dL_law_961 : decode code 961 = .ok (.iconst 1, 1) := by decide +kernel
theorem dL_law_962 : decode code 962 = .ok (.iadd, 1) := by decide +kernel
theorem dL_law_963 : decode code 963 = .ok (.iaload, 1) := by decide +kernel
theorem dL_law_964 : decode code 964 = .ok (.invokevirtual 94, 3) := by decide +kernel
theorem dL_law_967 : decode code 967 = .ok (.if_icmp .eq 1138, 3) := by decide +kernel
theorem dL_law_970 : decode code 970 = .ok (.iconst 0, 1) := by decide +kernel
theorem dL_law_971 : decode code 971 = .ok (.ireturn, 1) := by decide +kernel
theorem dL_law_972 : decode code 972 = .ok (.aload_n 1, 1) := by decide +kernel
theorem dL_law_973 : decode code 973 = .ok (.aload_n 0, 1) := by decide +kernel
theorem dL_law_974 : decode code 974 = .ok (.iload_n 3, 1) := by decide +kernel
theorem dL_law_975 : decode code 975 = .ok (.iconst 1, 1) := by decide +kernel
theorem dL_law_976 : decode code 976 = .ok (.iadd, 1) := by decide +kernel
theorem dL_law_977 : decode code 977 = .ok (.iaload, 1) := by decide +kernel
theorem dL_law_978 : decode code 978 = .ok (.invokevirtual 95, 3) := by decide +kernel
theorem dL_law_981 : decode code 981 = .ok (.aload_n 2, 1) := by decide +kernel
theorem dL_law_982 : decode code 982 = .ok (.aload_n 0, 1) := by decide +kernel
theorem dL_law_983 : decode code 983 = .ok (.iload_n 3, 1) := by decide +kernel
theorem dL_law_984 : decode code 984 = .ok (.iconst 1, 1) := by decide +kernel
theorem dL_law_985 : decode code 985 = .ok (.iadd, 1) := by decide +kernel
theorem dL_law_986 : decode code 986 = .ok (.iaload, 1) := by decide +kernel
theorem dL_law_987 : decode code 987 = .ok (.invokevirtual 98, 3) := by decide +kernel
theorem dL_law_990 : decode code 990 = .ok (.if_icmp .eq 1115, 3) := by decide +kernel
theorem dL_law_993 : decode code 993 = .ok (.iconst 0, 1) := by decide +kernel
theorem dL_law_994 : decode code 994 = .ok (.ireturn, 1) := by decide +kernel
theorem dL_law_995 : decode code 995 = .ok (.aload_n 1, 1) := by decide +kernel
theorem dL_law_996 : decode code 996 = .ok (.aload_n 0, 1) := by decide +kernel
theorem dL_law_997 : decode code 997 = .ok (.iload_n 3, 1) := by decide +kernel
theorem dL_law_998 : decode code 998 = .ok (.iconst 1, 1) := by decide +kernel
theorem dL_law_999 : decode code 999 = .ok (.iadd, 1) := by decide +kernel
theorem dL_law_1000 : decode code 1000 = .ok (.iaload, 1) := by decide +kernel
theorem dL_law_1001 : decode code 1001 = .ok (.aload_n 0, 1) := by decide +kernel
theorem dL_law_1002 : decode code 1002 = .ok (.iload_n 3, 1) := by decide +kernel
theorem dL_law_1003 : decode code 1003 = .ok (.iconst 2, 1) := by decide +kernel
theorem dL_law_1004 : decode code 1004 = .ok (.iadd, 1) := by decide +kernel
theorem dL_law_1005 : decode code 1005 = .ok (.iaload, 1) := by decide +kernel
theorem dL_law_1006 : decode code 1006 = .ok (.invokevirtual 99, 3) := by decide +kernel
theorem dL_law_1009 : decode code 1009 = .ok (.aload_n 2, 1) := by decide +kernel
theorem dL_law_1010 : decode code 1010 = .ok (.aload_n 0, 1) := by decide +kernel
theorem dL_law_1011 : decode code 1011 = .ok (.iload_n 3, 1) := by decide +kernel
theorem dL_law_1012 : decode code 1012 = .ok (.iconst 1, 1) := by decide +kernel
theorem dL_law_1013 : decode code 1013 = .ok (.iadd, 1) := by decide +kernel
theorem dL_law_1014 : decode code 1014 = .ok (.iaload, 1) := by decide +kernel
theorem dL_law_1015 : decode code 1015 = .ok (.aload_n 0, 1) := by decide +kernel
theorem dL_law_1016 : decode code 1016 = .ok (.iload_n 3, 1) := by decide +kernel
theorem dL_law_1017 : decode code 1017 = .ok (.iconst 2, 1) := by decide +kernel
theorem dL_law_1018 : decode code 1018 = .ok (.iadd, 1) := by decide +kernel
theorem dL_law_1019 : decode code 1019 = .ok (.iaload, 1) := by decide +kernel
theorem dL_law_1020 : decode code 1020 = .ok (.invokevirtual 102, 3) := by decide +kernel
theorem dL_law_1023 : decode code 1023 = .ok (.if_icmp .eq 1082, 3) := by decide +kernel
theorem dL_law_1026 : decode code 1026 = .ok (.iconst 0, 1) := by decide +kernel
theorem dL_law_1027 : decode code 1027 = .ok (.ireturn, 1) := by decide +kernel
theorem dL_law_1028 : decode code 1028 = .ok (.aload_n 1, 1) := by decide +kernel
theorem dL_law_1029 : decode code 1029 = .ok (.invokevirtual 103, 3) := by decide +kernel
theorem dL_law_1032 : decode code 1032 = .ok (.aload_n 2, 1) := by decide +kernel
theorem dL_law_1033 : decode code 1033 = .ok (.invokevirtual 107, 3) := by decide +kernel
theorem dL_law_1036 : decode code 1036 = .ok (.if_icmp .eq 1069, 3) := by decide +kernel
theorem dL_law_1039 : decode code 1039 = .ok (.iconst 0, 1) := by decide +kernel
theorem dL_law_1040 : decode code 1040 = .ok (.ireturn, 1) := by decide +kernel
theorem dL_law_1041 : decode code 1041 = .ok (.aload_n 1, 1) := by decide +kernel
theorem dL_law_1042 : decode code 1042 = .ok (.aload_n 0, 1) := by decide +kernel
theorem dL_law_1043 : decode code 1043 = .ok (.iload_n 3, 1) := by decide +kernel
theorem dL_law_1044 : decode code 1044 = .ok (.iconst 1, 1) := by decide +kernel
theorem dL_law_1045 : decode code 1045 = .ok (.iadd, 1) := by decide +kernel
theorem dL_law_1046 : decode code 1046 = .ok (.iaload, 1) := by decide +kernel
theorem dL_law_1047 : decode code 1047 = .ok (.invokevirtual 108, 3) := by decide +kernel
theorem dL_law_1050 : decode code 1050 = .ok (.aload_n 2, 1) := by decide +kernel
theorem dL_law_1051 : decode code 1051 = .ok (.aload_n 0, 1) := by decide +kernel
theorem dL_law_1052 : decode code 1052 = .ok (.iload_n 3, 1) := by decide +kernel
theorem dL_law_1053 : decode code 1053 = .ok (.iconst 1, 1) := by decide +kernel
theorem dL_law_1054 : decode code 1054 = .ok (.iadd, 1) := by decide +kernel
theorem dL_law_1055 : decode code 1055 = .ok (.iaload, 1) := by decide +kernel
theorem dL_law_1056 : decode code 1056 = .ok (.invokevirtual 111, 3) := by decide +kernel
theorem dL_law_1059 : decode code 1059 = .ok (.if_icmp .eq 1046, 3) := by decide +kernel
theorem dL_law_1062 : decode code 1062 = .ok (.iconst 0, 1) := by decide +kernel
theorem dL_law_1063 : decode code 1063 = .ok (.ireturn, 1) := by decide +kernel
theorem dL_law_1064 : decode code 1064 = .ok (.aload_n 1, 1) := by decide +kernel
theorem dL_law_1065 : decode code 1065 = .ok (.aload_n 0, 1) := by decide +kernel
theorem dL_law_1066 : decode code 1066 = .ok (.iload_n 3, 1) := by decide +kernel
theorem dL_law_1067 : decode code 1067 = .ok (.iconst 1, 1) := by decide +kernel
theorem dL_law_1068 : decode code 1068 = .ok (.iadd, 1) := by decide +kernel
theorem dL_law_1069 : decode code 1069 = .ok (.iaload, 1) := by decide +kernel
theorem dL_law_1070 : decode code 1070 = .ok (.aload_n 0, 1) := by decide +kernel
theorem dL_law_1071 : decode code 1071 = .ok (.iload_n 3, 1) := by decide +kernel
theorem dL_law_1072 : decode code 1072 = .ok (.iconst 2, 1) := by decide +kernel
theorem dL_law_1073 : decode code 1073 = .ok (.iadd, 1) := by decide +kernel
theorem dL_law_1074 : decode code 1074 = .ok (.iaload, 1) := by decide +kernel
theorem dL_law_1075 : decode code 1075 = .ok (.invokevirtual 112, 3) := by decide +kernel
theorem dL_law_1078 : decode code 1078 = .ok (.aload_n 2, 1) := by decide +kernel
theorem dL_law_1079 : decode code 1079 = .ok (.aload_n 0, 1) := by decide +kernel
theorem dL_law_1080 : decode code 1080 = .ok (.iload_n 3, 1) := by decide +kernel
theorem dL_law_1081 : decode code 1081 = .ok (.iconst 1, 1) := by decide +kernel
theorem dL_law_1082 : decode code 1082 = .ok (.iadd, 1) := by decide +kernel
theorem dL_law_1083 : decode code 1083 = .ok (.iaload, 1) := by decide +kernel
theorem dL_law_1084 : decode code 1084 = .ok (.aload_n 0, 1) := by decide +kernel
theorem dL_law_1085 : decode code 1085 = .ok (.iload_n 3, 1) := by decide +kernel
theorem dL_law_1086 : decode code 1086 = .ok (.iconst 2, 1) := by decide +kernel
theorem dL_law_1087 : decode code 1087 = .ok (.iadd, 1) := by decide +kernel
theorem dL_law_1088 : decode code 1088 = .ok (.iaload, 1) := by decide +kernel
theorem dL_law_1089 : decode code 1089 = .ok (.invokevirtual 115, 3) := by decide +kernel
theorem dL_law_1092 : decode code 1092 = .ok (.if_icmp .eq 1013, 3) := by decide +kernel
theorem dL_law_1095 : decode code 1095 = .ok (.iconst 0, 1) := by decide +kernel
theorem dL_law_1096 : decode code 1096 = .ok (.ireturn, 1) := by decide +kernel
theorem dL_law_1097 : decode code 1097 = .ok (.aload_n 1, 1) := by decide +kernel
theorem dL_law_1098 : decode code 1098 = .ok (.invokevirtual 116, 3) := by decide +kernel
theorem dL_law_1101 : decode code 1101 = .ok (.aload_n 2, 1) := by decide +kernel
theorem dL_law_1102 : decode code 1102 = .ok (.invokevirtual 119, 3) := by decide +kernel
theorem dL_law_1105 : decode code 1105 = .ok (.if_icmp .eq 1000, 3) := by decide +kernel
theorem dL_law_1108 : decode code 1108 = .ok (.iconst 0, 1) := by decide +kernel
theorem dL_law_1109 : decode code 1109 = .ok (.ireturn, 1) := by decide +kernel
theorem dL_law_1110 : decode code 1110 = .ok (.aload_n 1, 1) := by decide +kernel
theorem dL_law_1111 : decode code 1111 = .ok (.aload_n 0, 1) := by decide +kernel
theorem dL_law_1112 : decode code 1112 = .ok (.iload_n 3, 1) := by decide +kernel
theorem dL_law_1113 : decode code 1113 = .ok (.iconst 1, 1) := by decide +kernel
theorem dL_law_1114 : decode code 1114 = .ok (.iadd, 1) := by decide +kernel
theorem dL_law_1115 : decode code 1115 = .ok (.iaload, 1) := by decide +kernel
theorem dL_law_1116 : decode code 1116 = .ok (.aload_n 0, 1) := by decide +kernel
theorem dL_law_1117 : decode code 1117 = .ok (.iload_n 3, 1) := by decide +kernel
theorem dL_law_1118 : decode code 1118 = .ok (.iconst 2, 1) := by decide +kernel
theorem dL_law_1119 : decode code 1119 = .ok (.iadd, 1) := by decide +kernel
theorem dL_law_1120 : decode code 1120 = .ok (.iaload, 1) := by decide +kernel
theorem dL_law_1121 : decode code 1121 = .ok (.aload_n 0, 1) := by decide +kernel
theorem dL_law_1122 : decode code 1122 = .ok (.iload_n 3, 1) := by decide +kernel
theorem dL_law_1123 : decode code 1123 = .ok (.iconst 3, 1) := by decide +kernel
theorem dL_law_1124 : decode code 1124 = .ok (.iadd, 1) := by decide +kernel
theorem dL_law_1125 : decode code 1125 = .ok (.iaload, 1) := by decide +kernel
theorem dL_law_1126 : decode code 1126 = .ok (.aload_n 0, 1) := by decide +kernel
theorem dL_law_1127 : decode code 1127 = .ok (.iload_n 3, 1) := by decide +kernel
theorem dL_law_1128 : decode code 1128 = .ok (.iconst 4, 1) := by decide +kernel
theorem dL_law_1129 : decode code 1129 = .ok (.iadd, 1) := by decide +kernel
theorem dL_law_1130 : decode code 1130 = .ok (.iaload, 1) := by decide +kernel
theorem dL_law_1131 : decode code 1131 = .ok (.aload_n 0, 1) := by decide +kernel
theorem dL_law_1132 : decode code 1132 = .ok (.iload_n 3, 1) := by decide +kernel
theorem dL_law_1133 : decode code 1133 = .ok (.iconst 5, 1) := by decide +kernel
theorem dL_law_1134 : decode code 1134 = .ok (.iadd, 1) := by decide +kernel
theorem dL_law_1135 : decode code 1135 = .ok (.iaload, 1) := by decide +kernel
theorem dL_law_1136 : decode code 1136 = .ok (.aload_n 0, 1) := by decide +kernel
theorem dL_law_1137 : decode code 1137 = .ok (.iload_n 3, 1) := by decide +kernel
theorem dL_law_1138 : decode code 1138 = .ok (.bipush 6, 2) := by decide +kernel
theorem dL_law_1140 : decode code 1140 = .ok (.iadd, 1) := by decide +kernel
theorem dL_law_1141 : decode code 1141 = .ok (.iaload, 1) := by decide +kernel
theorem dL_law_1142 : decode code 1142 = .ok (.aload_n 0, 1) := by decide +kernel
theorem dL_law_1143 : decode code 1143 = .ok (.iload_n 3, 1) := by decide +kernel
theorem dL_law_1144 : decode code 1144 = .ok (.bipush 7, 2) := by decide +kernel
theorem dL_law_1146 : decode code 1146 = .ok (.iadd, 1) := by decide +kernel
theorem dL_law_1147 : decode code 1147 = .ok (.iaload, 1) := by decide +kernel
theorem dL_law_1148 : decode code 1148 = .ok (.invokevirtual 120, 3) := by decide +kernel
theorem dL_law_1151 : decode code 1151 = .ok (.aload_n 2, 1) := by decide +kernel
theorem dL_law_1152 : decode code 1152 = .ok (.aload_n 0, 1) := by decide +kernel
theorem dL_law_1153 : decode code 1153 = .ok (.iload_n 3, 1) := by decide +kernel
theorem dL_law_1154 : decode code 1154 = .ok (.iconst 1, 1) := by decide +kernel
theorem dL_law_1155 : decode code 1155 = .ok (.iadd, 1) := by decide +kernel
theorem dL_law_1156 : decode code 1156 = .ok (.iaload, 1) := by decide +kernel
theorem dL_law_1157 : decode code 1157 = .ok (.aload_n 0, 1) := by decide +kernel
theorem dL_law_1158 : decode code 1158 = .ok (.iload_n 3, 1) := by decide +kernel
theorem dL_law_1159 : decode code 1159 = .ok (.iconst 2, 1) := by decide +kernel
theorem dL_law_1160 : decode code 1160 = .ok (.iadd, 1) := by decide +kernel
theorem dL_law_1161 : decode code 1161 = .ok (.iaload, 1) := by decide +kernel
theorem dL_law_1162 : decode code 1162 = .ok (.aload_n 0, 1) := by decide +kernel
theorem dL_law_1163 : decode code 1163 = .ok (.iload_n 3, 1) := by decide +kernel
theorem dL_law_1164 : decode code 1164 = .ok (.iconst 3, 1) := by decide +kernel
theorem dL_law_1165 : decode code 1165 = .ok (.iadd, 1) := by decide +kernel
theorem dL_law_1166 : decode code 1166 = .ok (.iaload, 1) := by decide +kernel
theorem dL_law_1167 : decode code 1167 = .ok (.aload_n 0, 1) := by decide +kernel
theorem dL_law_1168 : decode code 1168 = .ok (.iload_n 3, 1) := by decide +kernel
theorem dL_law_1169 : decode code 1169 = .ok (.iconst 4, 1) := by decide +kernel
theorem dL_law_1170 : decode code 1170 = .ok (.iadd, 1) := by decide +kernel
theorem dL_law_1171 : decode code 1171 = .ok (.iaload, 1) := by decide +kernel
theorem dL_law_1172 : decode code 1172 = .ok (.aload_n 0, 1) := by decide +kernel
theorem dL_law_1173 : decode code 1173 = .ok (.iload_n 3, 1) := by decide +kernel
theorem dL_law_1174 : decode code 1174 = .ok (.iconst 5, 1) := by decide +kernel
theorem dL_law_1175 : decode code 1175 = .ok (.iadd, 1) := by decide +kernel
theorem dL_law_1176 : decode code 1176 = .ok (.iaload, 1) := by decide +kernel
theorem dL_law_1177 : decode code 1177 = .ok (.aload_n 0, 1) := by decide +kernel
theorem dL_law_1178 : decode code 1178 = .ok (.iload_n 3, 1) := by decide +kernel
theorem dL_law_1179 : decode code 1179 = .ok (.bipush 6, 2) := by decide +kernel
theorem dL_law_1181 : decode code 1181 = .ok (.iadd, 1) := by decide +kernel
theorem dL_law_1182 : decode code 1182 = .ok (.iaload, 1) := by decide +kernel
theorem dL_law_1183 : decode code 1183 = .ok (.aload_n 0, 1) := by decide +kernel
theorem dL_law_1184 : decode code 1184 = .ok (.iload_n 3, 1) := by decide +kernel
theorem dL_law_1185 : decode code 1185 = .ok (.bipush 7, 2) := by decide +kernel
theorem dL_law_1187 : decode code 1187 = .ok (.iadd, 1) := by decide +kernel
theorem dL_law_1188 : decode code 1188 = .ok (.iaload, 1) := by decide +kernel
theorem dL_law_1189 : decode code 1189 = .ok (.invokevirtual 123, 3) := by decide +kernel
theorem dL_law_1192 : decode code 1192 = .ok (.if_icmp .eq 913, 3) := by decide +kernel
theorem dL_law_1195 : decode code 1195 = .ok (.iconst 0, 1) := by decide +kernel
theorem dL_law_1196 : decode code 1196 = .ok (.ireturn, 1) := by decide +kernel
theorem dL_law_1197 : decode code 1197 = .ok (.aload_n 1, 1) := by decide +kernel
theorem dL_law_1198 : decode code 1198 = .ok (.aload_n 0, 1) := by decide +kernel
theorem dL_law_1199 : decode code 1199 = .ok (.iload_n 3, 1) := by decide +kernel
theorem dL_law_1200 : decode code 1200 = .ok (.iconst 1, 1) := by decide +kernel
theorem dL_law_1201 : decode code 1201 = .ok (.iadd, 1) := by decide +kernel
theorem dL_law_1202 : decode code 1202 = .ok (.iaload, 1) := by decide +kernel
theorem dL_law_1203 : decode code 1203 = .ok (.aload_n 0, 1) := by decide +kernel
theorem dL_law_1204 : decode code 1204 = .ok (.iload_n 3, 1) := by decide +kernel
theorem dL_law_1205 : decode code 1205 = .ok (.iconst 2, 1) := by decide +kernel
theorem dL_law_1206 : decode code 1206 = .ok (.iadd, 1) := by decide +kernel
theorem dL_law_1207 : decode code 1207 = .ok (.iaload, 1) := by decide +kernel
theorem dL_law_1208 : decode code 1208 = .ok (.aload_n 0, 1) := by decide +kernel
theorem dL_law_1209 : decode code 1209 = .ok (.iload_n 3, 1) := by decide +kernel
theorem dL_law_1210 : decode code 1210 = .ok (.iconst 3, 1) := by decide +kernel
theorem dL_law_1211 : decode code 1211 = .ok (.iadd, 1) := by decide +kernel
theorem dL_law_1212 : decode code 1212 = .ok (.iaload, 1) := by decide +kernel
theorem dL_law_1213 : decode code 1213 = .ok (.aload_n 0, 1) := by decide +kernel
theorem dL_law_1214 : decode code 1214 = .ok (.iload_n 3, 1) := by decide +kernel
theorem dL_law_1215 : decode code 1215 = .ok (.iconst 4, 1) := by decide +kernel
theorem dL_law_1216 : decode code 1216 = .ok (.iadd, 1) := by decide +kernel
theorem dL_law_1217 : decode code 1217 = .ok (.iaload, 1) := by decide +kernel
theorem dL_law_1218 : decode code 1218 = .ok (.aload_n 0, 1) := by decide +kernel
theorem dL_law_1219 : decode code 1219 = .ok (.iload_n 3, 1) := by decide +kernel
theorem dL_law_1220 : decode code 1220 = .ok (.iconst 5, 1) := by decide +kernel
theorem dL_law_1221 : decode code 1221 = .ok (.iadd, 1) := by decide +kernel
theorem dL_law_1222 : decode code 1222 = .ok (.iaload, 1) := by decide +kernel
theorem dL_law_1223 : decode code 1223 = .ok (.invokevirtual 124, 3) := by decide +kernel
theorem dL_law_1226 : decode code 1226 = .ok (.aload_n 2, 1) := by decide +kernel
theorem dL_law_1227 : decode code 1227 = .ok (.aload_n 0, 1) := by decide +kernel
theorem dL_law_1228 : decode code 1228 = .ok (.iload_n 3, 1) := by decide +kernel
theorem dL_law_1229 : decode code 1229 = .ok (.iconst 1, 1) := by decide +kernel
theorem dL_law_1230 : decode code 1230 = .ok (.iadd, 1) := by decide +kernel
theorem dL_law_1231 : decode code 1231 = .ok (.iaload, 1) := by decide +kernel
theorem dL_law_1232 : decode code 1232 = .ok (.aload_n 0, 1) := by decide +kernel
theorem dL_law_1233 : decode code 1233 = .ok (.iload_n 3, 1) := by decide +kernel
theorem dL_law_1234 : decode code 1234 = .ok (.iconst 2, 1) := by decide +kernel
theorem dL_law_1235 : decode code 1235 = .ok (.iadd, 1) := by decide +kernel
theorem dL_law_1236 : decode code 1236 = .ok (.iaload, 1) := by decide +kernel
theorem dL_law_1237 : decode code 1237 = .ok (.aload_n 0, 1) := by decide +kernel
theorem dL_law_1238 : decode code 1238 = .ok (.iload_n 3, 1) := by decide +kernel
theorem dL_law_1239 : decode code 1239 = .ok (.iconst 3, 1) := by decide +kernel
theorem dL_law_1240 : decode code 1240 = .ok (.iadd, 1) := by decide +kernel
theorem dL_law_1241 : decode code 1241 = .ok (.iaload, 1) := by decide +kernel
theorem dL_law_1242 : decode code 1242 = .ok (.aload_n 0, 1) := by decide +kernel
theorem dL_law_1243 : decode code 1243 = .ok (.iload_n 3, 1) := by decide +kernel
theorem dL_law_1244 : decode code 1244 = .ok (.iconst 4, 1) := by decide +kernel
theorem dL_law_1245 : decode code 1245 = .ok (.iadd, 1) := by decide +kernel
theorem dL_law_1246 : decode code 1246 = .ok (.iaload, 1) := by decide +kernel
theorem dL_law_1247 : decode code 1247 = .ok (.aload_n 0, 1) := by decide +kernel
theorem dL_law_1248 : decode code 1248 = .ok (.iload_n 3, 1) := by decide +kernel
theorem dL_law_1249 : decode code 1249 = .ok (.iconst 5, 1) := by decide +kernel
theorem dL_law_1250 : decode code 1250 = .ok (.iadd, 1) := by decide +kernel
theorem dL_law_1251 : decode code 1251 = .ok (.iaload, 1) := by decide +kernel
theorem dL_law_1252 : decode code 1252 = .ok (.invokevirtual 127, 3) := by decide +kernel
theorem dL_law_1255 : decode code 1255 = .ok (.if_icmp .eq 850, 3) := by decide +kernel
theorem dL_law_1258 : decode code 1258 = .ok (.iconst 0, 1) := by decide +kernel
theorem dL_law_1259 : decode code 1259 = .ok (.ireturn, 1) := by decide +kernel
theorem dL_law_1260 : decode code 1260 = .ok (.aload_n 1, 1) := by decide +kernel
theorem dL_law_1261 : decode code 1261 = .ok (.aload_n 0, 1) := by decide +kernel
theorem dL_law_1262 : decode code 1262 = .ok (.iload_n 3, 1) := by decide +kernel
theorem dL_law_1263 : decode code 1263 = .ok (.iconst 1, 1) := by decide +kernel
theorem dL_law_1264 : decode code 1264 = .ok (.iadd, 1) := by decide +kernel
theorem dL_law_1265 : decode code 1265 = .ok (.iaload, 1) := by decide +kernel
theorem dL_law_1266 : decode code 1266 = .ok (.invokevirtual 128, 3) := by decide +kernel
theorem dL_law_1269 : decode code 1269 = .ok (.aload_n 2, 1) := by decide +kernel
theorem dL_law_1270 : decode code 1270 = .ok (.aload_n 0, 1) := by decide +kernel
theorem dL_law_1271 : decode code 1271 = .ok (.iload_n 3, 1) := by decide +kernel
theorem dL_law_1272 : decode code 1272 = .ok (.iconst 1, 1) := by decide +kernel
theorem dL_law_1273 : decode code 1273 = .ok (.iadd, 1) := by decide +kernel
theorem dL_law_1274 : decode code 1274 = .ok (.iaload, 1) := by decide +kernel
theorem dL_law_1275 : decode code 1275 = .ok (.invokevirtual 131, 3) := by decide +kernel
theorem dL_law_1278 : decode code 1278 = .ok (.if_icmp .eq 827, 3) := by decide +kernel
theorem dL_law_1281 : decode code 1281 = .ok (.iconst 0, 1) := by decide +kernel
theorem dL_law_1282 : decode code 1282 = .ok (.ireturn, 1) := by decide +kernel
theorem dL_law_1283 : decode code 1283 = .ok (.aload_n 1, 1) := by decide +kernel
theorem dL_law_1284 : decode code 1284 = .ok (.aload_n 0, 1) := by decide +kernel
theorem dL_law_1285 : decode code 1285 = .ok (.iload_n 3, 1) := by decide +kernel
theorem dL_law_1286 : decode code 1286 = .ok (.iconst 1, 1) := by decide +kernel
theorem dL_law_1287 : decode code 1287 = .ok (.iadd, 1) := by decide +kernel
theorem dL_law_1288 : decode code 1288 = .ok (.iaload, 1) := by decide +kernel
theorem dL_law_1289 : decode code 1289 = .ok (.aload_n 0, 1) := by decide +kernel
theorem dL_law_1290 : decode code 1290 = .ok (.iload_n 3, 1) := by decide +kernel
theorem dL_law_1291 : decode code 1291 = .ok (.iconst 2, 1) := by decide +kernel
theorem dL_law_1292 : decode code 1292 = .ok (.iadd, 1) := by decide +kernel
theorem dL_law_1293 : decode code 1293 = .ok (.iaload, 1) := by decide +kernel
theorem dL_law_1294 : decode code 1294 = .ok (.invokevirtual 132, 3) := by decide +kernel
theorem dL_law_1297 : decode code 1297 = .ok (.aload_n 2, 1) := by decide +kernel
theorem dL_law_1298 : decode code 1298 = .ok (.aload_n 0, 1) := by decide +kernel
theorem dL_law_1299 : decode code 1299 = .ok (.iload_n 3, 1) := by decide +kernel
theorem dL_law_1300 : decode code 1300 = .ok (.iconst 1, 1) := by decide +kernel
theorem dL_law_1301 : decode code 1301 = .ok (.iadd, 1) := by decide +kernel
theorem dL_law_1302 : decode code 1302 = .ok (.iaload, 1) := by decide +kernel
theorem dL_law_1303 : decode code 1303 = .ok (.aload_n 0, 1) := by decide +kernel
theorem dL_law_1304 : decode code 1304 = .ok (.iload_n 3, 1) := by decide +kernel
theorem dL_law_1305 : decode code 1305 = .ok (.iconst 2, 1) := by decide +kernel
theorem dL_law_1306 : decode code 1306 = .ok (.iadd, 1) := by decide +kernel
theorem dL_law_1307 : decode code 1307 = .ok (.iaload, 1) := by decide +kernel
theorem dL_law_1308 : decode code 1308 = .ok (.invokevirtual 135, 3) := by decide +kernel
theorem dL_law_1311 : decode code 1311 = .ok (.if_icmp .eq 794, 3) := by decide +kernel
theorem dL_law_1314 : decode code 1314 = .ok (.iconst 0, 1) := by decide +kernel
theorem dL_law_1315 : decode code 1315 = .ok (.ireturn, 1) := by decide +kernel
theorem dL_law_1316 : decode code 1316 = .ok (.aload_n 1, 1) := by decide +kernel
theorem dL_law_1317 : decode code 1317 = .ok (.aload_n 0, 1) := by decide +kernel
theorem dL_law_1318 : decode code 1318 = .ok (.iload_n 3, 1) := by decide +kernel
theorem dL_law_1319 : decode code 1319 = .ok (.iconst 1, 1) := by decide +kernel
theorem dL_law_1320 : decode code 1320 = .ok (.iadd, 1) := by decide +kernel
theorem dL_law_1321 : decode code 1321 = .ok (.iaload, 1) := by decide +kernel
theorem dL_law_1322 : decode code 1322 = .ok (.aload_n 0, 1) := by decide +kernel
theorem dL_law_1323 : decode code 1323 = .ok (.iload_n 3, 1) := by decide +kernel
theorem dL_law_1324 : decode code 1324 = .ok (.iconst 2, 1) := by decide +kernel
theorem dL_law_1325 : decode code 1325 = .ok (.iadd, 1) := by decide +kernel
theorem dL_law_1326 : decode code 1326 = .ok (.iaload, 1) := by decide +kernel
theorem dL_law_1327 : decode code 1327 = .ok (.invokevirtual 136, 3) := by decide +kernel
theorem dL_law_1330 : decode code 1330 = .ok (.aload_n 2, 1) := by decide +kernel
theorem dL_law_1331 : decode code 1331 = .ok (.aload_n 0, 1) := by decide +kernel
theorem dL_law_1332 : decode code 1332 = .ok (.iload_n 3, 1) := by decide +kernel
theorem dL_law_1333 : decode code 1333 = .ok (.iconst 1, 1) := by decide +kernel
theorem dL_law_1334 : decode code 1334 = .ok (.iadd, 1) := by decide +kernel
theorem dL_law_1335 : decode code 1335 = .ok (.iaload, 1) := by decide +kernel
theorem dL_law_1336 : decode code 1336 = .ok (.aload_n 0, 1) := by decide +kernel
theorem dL_law_1337 : decode code 1337 = .ok (.iload_n 3, 1) := by decide +kernel
theorem dL_law_1338 : decode code 1338 = .ok (.iconst 2, 1) := by decide +kernel
theorem dL_law_1339 : decode code 1339 = .ok (.iadd, 1) := by decide +kernel
theorem dL_law_1340 : decode code 1340 = .ok (.iaload, 1) := by decide +kernel
theorem dL_law_1341 : decode code 1341 = .ok (.invokevirtual 139, 3) := by decide +kernel
theorem dL_law_1344 : decode code 1344 = .ok (.if_icmp .eq 761, 3) := by decide +kernel
theorem dL_law_1347 : decode code 1347 = .ok (.iconst 0, 1) := by decide +kernel
theorem dL_law_1348 : decode code 1348 = .ok (.ireturn, 1) := by decide +kernel
theorem dL_law_1349 : decode code 1349 = .ok (.aload_n 1, 1) := by decide +kernel
theorem dL_law_1350 : decode code 1350 = .ok (.aload_n 0, 1) := by decide +kernel
theorem dL_law_1351 : decode code 1351 = .ok (.iload_n 3, 1) := by decide +kernel
theorem dL_law_1352 : decode code 1352 = .ok (.iconst 1, 1) := by decide +kernel
theorem dL_law_1353 : decode code 1353 = .ok (.iadd, 1) := by decide +kernel
theorem dL_law_1354 : decode code 1354 = .ok (.iaload, 1) := by decide +kernel
theorem dL_law_1355 : decode code 1355 = .ok (.aload_n 0, 1) := by decide +kernel
theorem dL_law_1356 : decode code 1356 = .ok (.iload_n 3, 1) := by decide +kernel
theorem dL_law_1357 : decode code 1357 = .ok (.iconst 2, 1) := by decide +kernel
theorem dL_law_1358 : decode code 1358 = .ok (.iadd, 1) := by decide +kernel
theorem dL_law_1359 : decode code 1359 = .ok (.iaload, 1) := by decide +kernel
theorem dL_law_1360 : decode code 1360 = .ok (.aload_n 0, 1) := by decide +kernel
theorem dL_law_1361 : decode code 1361 = .ok (.iload_n 3, 1) := by decide +kernel
theorem dL_law_1362 : decode code 1362 = .ok (.iconst 3, 1) := by decide +kernel
theorem dL_law_1363 : decode code 1363 = .ok (.iadd, 1) := by decide +kernel
theorem dL_law_1364 : decode code 1364 = .ok (.iaload, 1) := by decide +kernel
theorem dL_law_1365 : decode code 1365 = .ok (.invokevirtual 140, 3) := by decide +kernel
theorem dL_law_1368 : decode code 1368 = .ok (.aload_n 2, 1) := by decide +kernel
theorem dL_law_1369 : decode code 1369 = .ok (.aload_n 0, 1) := by decide +kernel
theorem dL_law_1370 : decode code 1370 = .ok (.iload_n 3, 1) := by decide +kernel
theorem dL_law_1371 : decode code 1371 = .ok (.iconst 1, 1) := by decide +kernel
theorem dL_law_1372 : decode code 1372 = .ok (.iadd, 1) := by decide +kernel
theorem dL_law_1373 : decode code 1373 = .ok (.iaload, 1) := by decide +kernel
theorem dL_law_1374 : decode code 1374 = .ok (.aload_n 0, 1) := by decide +kernel
theorem dL_law_1375 : decode code 1375 = .ok (.iload_n 3, 1) := by decide +kernel
theorem dL_law_1376 : decode code 1376 = .ok (.iconst 2, 1) := by decide +kernel
theorem dL_law_1377 : decode code 1377 = .ok (.iadd, 1) := by decide +kernel
theorem dL_law_1378 : decode code 1378 = .ok (.iaload, 1) := by decide +kernel
theorem dL_law_1379 : decode code 1379 = .ok (.aload_n 0, 1) := by decide +kernel
theorem dL_law_1380 : decode code 1380 = .ok (.iload_n 3, 1) := by decide +kernel
theorem dL_law_1381 : decode code 1381 = .ok (.iconst 3, 1) := by decide +kernel
theorem dL_law_1382 : decode code 1382 = .ok (.iadd, 1) := by decide +kernel
theorem dL_law_1383 : decode code 1383 = .ok (.iaload, 1) := by decide +kernel
theorem dL_law_1384 : decode code 1384 = .ok (.invokevirtual 143, 3) := by decide +kernel
theorem dL_law_1387 : decode code 1387 = .ok (.if_icmp .eq 718, 3) := by decide +kernel
theorem dL_law_1390 : decode code 1390 = .ok (.iconst 0, 1) := by decide +kernel
theorem dL_law_1391 : decode code 1391 = .ok (.ireturn, 1) := by decide +kernel
theorem dL_law_1392 : decode code 1392 = .ok (.aload_n 1, 1) := by decide +kernel
theorem dL_law_1393 : decode code 1393 = .ok (.aload_n 0, 1) := by decide +kernel
theorem dL_law_1394 : decode code 1394 = .ok (.iload_n 3, 1) := by decide +kernel
theorem dL_law_1395 : decode code 1395 = .ok (.iconst 1, 1) := by decide +kernel
theorem dL_law_1396 : decode code 1396 = .ok (.iadd, 1) := by decide +kernel
theorem dL_law_1397 : decode code 1397 = .ok (.iaload, 1) := by decide +kernel
theorem dL_law_1398 : decode code 1398 = .ok (.aload_n 0, 1) := by decide +kernel
theorem dL_law_1399 : decode code 1399 = .ok (.iload_n 3, 1) := by decide +kernel
theorem dL_law_1400 : decode code 1400 = .ok (.iconst 2, 1) := by decide +kernel
theorem dL_law_1401 : decode code 1401 = .ok (.iadd, 1) := by decide +kernel
theorem dL_law_1402 : decode code 1402 = .ok (.iaload, 1) := by decide +kernel
theorem dL_law_1403 : decode code 1403 = .ok (.aload_n 0, 1) := by decide +kernel
theorem dL_law_1404 : decode code 1404 = .ok (.iload_n 3, 1) := by decide +kernel
theorem dL_law_1405 : decode code 1405 = .ok (.iconst 3, 1) := by decide +kernel
theorem dL_law_1406 : decode code 1406 = .ok (.iadd, 1) := by decide +kernel
theorem dL_law_1407 : decode code 1407 = .ok (.iaload, 1) := by decide +kernel
theorem dL_law_1408 : decode code 1408 = .ok (.invokevirtual 144, 3) := by decide +kernel
theorem dL_law_1411 : decode code 1411 = .ok (.aload_n 2, 1) := by decide +kernel
theorem dL_law_1412 : decode code 1412 = .ok (.aload_n 0, 1) := by decide +kernel
theorem dL_law_1413 : decode code 1413 = .ok (.iload_n 3, 1) := by decide +kernel
theorem dL_law_1414 : decode code 1414 = .ok (.iconst 1, 1) := by decide +kernel
theorem dL_law_1415 : decode code 1415 = .ok (.iadd, 1) := by decide +kernel
theorem dL_law_1416 : decode code 1416 = .ok (.iaload, 1) := by decide +kernel
theorem dL_law_1417 : decode code 1417 = .ok (.aload_n 0, 1) := by decide +kernel
theorem dL_law_1418 : decode code 1418 = .ok (.iload_n 3, 1) := by decide +kernel
theorem dL_law_1419 : decode code 1419 = .ok (.iconst 2, 1) := by decide +kernel
theorem dL_law_1420 : decode code 1420 = .ok (.iadd, 1) := by decide +kernel
theorem dL_law_1421 : decode code 1421 = .ok (.iaload, 1) := by decide +kernel
theorem dL_law_1422 : decode code 1422 = .ok (.aload_n 0, 1) := by decide +kernel
theorem dL_law_1423 : decode code 1423 = .ok (.iload_n 3, 1) := by decide +kernel
theorem dL_law_1424 : decode code 1424 = .ok (.iconst 3, 1) := by decide +kernel
theorem dL_law_1425 : decode code 1425 = .ok (.iadd, 1) := by decide +kernel
theorem dL_law_1426 : decode code 1426 = .ok (.iaload, 1) := by decide +kernel
theorem dL_law_1427 : decode code 1427 = .ok (.invokevirtual 147, 3) := by decide +kernel
theorem dL_law_1430 : decode code 1430 = .ok (.if_icmp .eq 675, 3) := by decide +kernel
theorem dL_law_1433 : decode code 1433 = .ok (.iconst 0, 1) := by decide +kernel
theorem dL_law_1434 : decode code 1434 = .ok (.ireturn, 1) := by decide +kernel
theorem dL_law_1435 : decode code 1435 = .ok (.aload_n 1, 1) := by decide +kernel
theorem dL_law_1436 : decode code 1436 = .ok (.aload_n 0, 1) := by decide +kernel
theorem dL_law_1437 : decode code 1437 = .ok (.iload_n 3, 1) := by decide +kernel
theorem dL_law_1438 : decode code 1438 = .ok (.iconst 1, 1) := by decide +kernel
theorem dL_law_1439 : decode code 1439 = .ok (.iadd, 1) := by decide +kernel
theorem dL_law_1440 : decode code 1440 = .ok (.iaload, 1) := by decide +kernel
theorem dL_law_1441 : decode code 1441 = .ok (.aload_n 0, 1) := by decide +kernel
theorem dL_law_1442 : decode code 1442 = .ok (.iload_n 3, 1) := by decide +kernel
theorem dL_law_1443 : decode code 1443 = .ok (.iconst 2, 1) := by decide +kernel
theorem dL_law_1444 : decode code 1444 = .ok (.iadd, 1) := by decide +kernel
theorem dL_law_1445 : decode code 1445 = .ok (.iaload, 1) := by decide +kernel
theorem dL_law_1446 : decode code 1446 = .ok (.aload_n 0, 1) := by decide +kernel
theorem dL_law_1447 : decode code 1447 = .ok (.iload_n 3, 1) := by decide +kernel
theorem dL_law_1448 : decode code 1448 = .ok (.iconst 3, 1) := by decide +kernel
theorem dL_law_1449 : decode code 1449 = .ok (.iadd, 1) := by decide +kernel
theorem dL_law_1450 : decode code 1450 = .ok (.iaload, 1) := by decide +kernel
theorem dL_law_1451 : decode code 1451 = .ok (.invokevirtual 148, 3) := by decide +kernel
theorem dL_law_1454 : decode code 1454 = .ok (.aload_n 2, 1) := by decide +kernel
theorem dL_law_1455 : decode code 1455 = .ok (.aload_n 0, 1) := by decide +kernel
theorem dL_law_1456 : decode code 1456 = .ok (.iload_n 3, 1) := by decide +kernel
theorem dL_law_1457 : decode code 1457 = .ok (.iconst 1, 1) := by decide +kernel
theorem dL_law_1458 : decode code 1458 = .ok (.iadd, 1) := by decide +kernel
theorem dL_law_1459 : decode code 1459 = .ok (.iaload, 1) := by decide +kernel
theorem dL_law_1460 : decode code 1460 = .ok (.aload_n 0, 1) := by decide +kernel
theorem dL_law_1461 : decode code 1461 = .ok (.iload_n 3, 1) := by decide +kernel
theorem dL_law_1462 : decode code 1462 = .ok (.iconst 2, 1) := by decide +kernel
theorem dL_law_1463 : decode code 1463 = .ok (.iadd, 1) := by decide +kernel
theorem dL_law_1464 : decode code 1464 = .ok (.iaload, 1) := by decide +kernel
theorem dL_law_1465 : decode code 1465 = .ok (.aload_n 0, 1) := by decide +kernel
theorem dL_law_1466 : decode code 1466 = .ok (.iload_n 3, 1) := by decide +kernel
theorem dL_law_1467 : decode code 1467 = .ok (.iconst 3, 1) := by decide +kernel
theorem dL_law_1468 : decode code 1468 = .ok (.iadd, 1) := by decide +kernel
theorem dL_law_1469 : decode code 1469 = .ok (.iaload, 1) := by decide +kernel
theorem dL_law_1470 : decode code 1470 = .ok (.invokevirtual 151, 3) := by decide +kernel
theorem dL_law_1473 : decode code 1473 = .ok (.if_icmp .eq 632, 3) := by decide +kernel
theorem dL_law_1476 : decode code 1476 = .ok (.iconst 0, 1) := by decide +kernel
theorem dL_law_1477 : decode code 1477 = .ok (.ireturn, 1) := by decide +kernel
theorem dL_law_1478 : decode code 1478 = .ok (.aload_n 1, 1) := by decide +kernel
theorem dL_law_1479 : decode code 1479 = .ok (.aload_n 0, 1) := by decide +kernel
theorem dL_law_1480 : decode code 1480 = .ok (.iload_n 3, 1) := by decide +kernel
theorem dL_law_1481 : decode code 1481 = .ok (.iconst 1, 1) := by decide +kernel
theorem dL_law_1482 : decode code 1482 = .ok (.iadd, 1) := by decide +kernel
theorem dL_law_1483 : decode code 1483 = .ok (.iaload, 1) := by decide +kernel
theorem dL_law_1484 : decode code 1484 = .ok (.invokevirtual 152, 3) := by decide +kernel
theorem dL_law_1487 : decode code 1487 = .ok (.aload_n 2, 1) := by decide +kernel
theorem dL_law_1488 : decode code 1488 = .ok (.aload_n 0, 1) := by decide +kernel
theorem dL_law_1489 : decode code 1489 = .ok (.iload_n 3, 1) := by decide +kernel
theorem dL_law_1490 : decode code 1490 = .ok (.iconst 1, 1) := by decide +kernel
theorem dL_law_1491 : decode code 1491 = .ok (.iadd, 1) := by decide +kernel
theorem dL_law_1492 : decode code 1492 = .ok (.iaload, 1) := by decide +kernel
theorem dL_law_1493 : decode code 1493 = .ok (.invokevirtual 155, 3) := by decide +kernel
theorem dL_law_1496 : decode code 1496 = .ok (.if_icmp .eq 609, 3) := by decide +kernel
theorem dL_law_1499 : decode code 1499 = .ok (.iconst 0, 1) := by decide +kernel
theorem dL_law_1500 : decode code 1500 = .ok (.ireturn, 1) := by decide +kernel
theorem dL_law_1501 : decode code 1501 = .ok (.aload_n 1, 1) := by decide +kernel
theorem dL_law_1502 : decode code 1502 = .ok (.aload_n 0, 1) := by decide +kernel
theorem dL_law_1503 : decode code 1503 = .ok (.iload_n 3, 1) := by decide +kernel
theorem dL_law_1504 : decode code 1504 = .ok (.iconst 1, 1) := by decide +kernel
theorem dL_law_1505 : decode code 1505 = .ok (.iadd, 1) := by decide +kernel
theorem dL_law_1506 : decode code 1506 = .ok (.iaload, 1) := by decide +kernel
theorem dL_law_1507 : decode code 1507 = .ok (.aload_n 0, 1) := by decide +kernel
theorem dL_law_1508 : decode code 1508 = .ok (.iload_n 3, 1) := by decide +kernel
theorem dL_law_1509 : decode code 1509 = .ok (.iconst 2, 1) := by decide +kernel
theorem dL_law_1510 : decode code 1510 = .ok (.iadd, 1) := by decide +kernel
theorem dL_law_1511 : decode code 1511 = .ok (.iaload, 1) := by decide +kernel
theorem dL_law_1512 : decode code 1512 = .ok (.aload_n 0, 1) := by decide +kernel
theorem dL_law_1513 : decode code 1513 = .ok (.iload_n 3, 1) := by decide +kernel
theorem dL_law_1514 : decode code 1514 = .ok (.iconst 3, 1) := by decide +kernel
theorem dL_law_1515 : decode code 1515 = .ok (.iadd, 1) := by decide +kernel
theorem dL_law_1516 : decode code 1516 = .ok (.iaload, 1) := by decide +kernel
theorem dL_law_1517 : decode code 1517 = .ok (.invokevirtual 156, 3) := by decide +kernel
theorem dL_law_1520 : decode code 1520 = .ok (.aload_n 2, 1) := by decide +kernel
theorem dL_law_1521 : decode code 1521 = .ok (.aload_n 0, 1) := by decide +kernel
theorem dL_law_1522 : decode code 1522 = .ok (.iload_n 3, 1) := by decide +kernel
theorem dL_law_1523 : decode code 1523 = .ok (.iconst 1, 1) := by decide +kernel
theorem dL_law_1524 : decode code 1524 = .ok (.iadd, 1) := by decide +kernel
theorem dL_law_1525 : decode code 1525 = .ok (.iaload, 1) := by decide +kernel
theorem dL_law_1526 : decode code 1526 = .ok (.aload_n 0, 1) := by decide +kernel
theorem dL_law_1527 : decode code 1527 = .ok (.iload_n 3, 1) := by decide +kernel
theorem dL_law_1528 : decode code 1528 = .ok (.iconst 2, 1) := by decide +kernel
theorem dL_law_1529 : decode code 1529 = .ok (.iadd, 1) := by decide +kernel
theorem dL_law_1530 : decode code 1530 = .ok (.iaload, 1) := by decide +kernel
theorem dL_law_1531 : decode code 1531 = .ok (.aload_n 0, 1) := by decide +kernel
theorem dL_law_1532 : decode code 1532 = .ok (.iload_n 3, 1) := by decide +kernel
theorem dL_law_1533 : decode code 1533 = .ok (.iconst 3, 1) := by decide +kernel
theorem dL_law_1534 : decode code 1534 = .ok (.iadd, 1) := by decide +kernel
theorem dL_law_1535 : decode code 1535 = .ok (.iaload, 1) := by decide +kernel
theorem dL_law_1536 : decode code 1536 = .ok (.invokevirtual 159, 3) := by decide +kernel
theorem dL_law_1539 : decode code 1539 = .ok (.if_icmp .eq 566, 3) := by decide +kernel
theorem dL_law_1542 : decode code 1542 = .ok (.iconst 0, 1) := by decide +kernel
theorem dL_law_1543 : decode code 1543 = .ok (.ireturn, 1) := by decide +kernel
theorem dL_law_1544 : decode code 1544 = .ok (.aload_n 1, 1) := by decide +kernel
theorem dL_law_1545 : decode code 1545 = .ok (.aload_n 0, 1) := by decide +kernel
theorem dL_law_1546 : decode code 1546 = .ok (.iload_n 3, 1) := by decide +kernel
theorem dL_law_1547 : decode code 1547 = .ok (.iconst 1, 1) := by decide +kernel
theorem dL_law_1548 : decode code 1548 = .ok (.iadd, 1) := by decide +kernel
theorem dL_law_1549 : decode code 1549 = .ok (.iaload, 1) := by decide +kernel
theorem dL_law_1550 : decode code 1550 = .ok (.aload_n 0, 1) := by decide +kernel
theorem dL_law_1551 : decode code 1551 = .ok (.iload_n 3, 1) := by decide +kernel
theorem dL_law_1552 : decode code 1552 = .ok (.iconst 2, 1) := by decide +kernel
theorem dL_law_1553 : decode code 1553 = .ok (.iadd, 1) := by decide +kernel
theorem dL_law_1554 : decode code 1554 = .ok (.iaload, 1) := by decide +kernel
theorem dL_law_1555 : decode code 1555 = .ok (.aload_n 0, 1) := by decide +kernel
theorem dL_law_1556 : decode code 1556 = .ok (.iload_n 3, 1) := by decide +kernel
theorem dL_law_1557 : decode code 1557 = .ok (.iconst 3, 1) := by decide +kernel
theorem dL_law_1558 : decode code 1558 = .ok (.iadd, 1) := by decide +kernel
theorem dL_law_1559 : decode code 1559 = .ok (.iaload, 1) := by decide +kernel
theorem dL_law_1560 : decode code 1560 = .ok (.aload_n 0, 1) := by decide +kernel
theorem dL_law_1561 : decode code 1561 = .ok (.iload_n 3, 1) := by decide +kernel
theorem dL_law_1562 : decode code 1562 = .ok (.iconst 4, 1) := by decide +kernel
theorem dL_law_1563 : decode code 1563 = .ok (.iadd, 1) := by decide +kernel
theorem dL_law_1564 : decode code 1564 = .ok (.iaload, 1) := by decide +kernel
theorem dL_law_1565 : decode code 1565 = .ok (.invokevirtual 160, 3) := by decide +kernel
theorem dL_law_1568 : decode code 1568 = .ok (.aload_n 2, 1) := by decide +kernel
theorem dL_law_1569 : decode code 1569 = .ok (.aload_n 0, 1) := by decide +kernel
theorem dL_law_1570 : decode code 1570 = .ok (.iload_n 3, 1) := by decide +kernel
theorem dL_law_1571 : decode code 1571 = .ok (.iconst 1, 1) := by decide +kernel
theorem dL_law_1572 : decode code 1572 = .ok (.iadd, 1) := by decide +kernel
theorem dL_law_1573 : decode code 1573 = .ok (.iaload, 1) := by decide +kernel
theorem dL_law_1574 : decode code 1574 = .ok (.aload_n 0, 1) := by decide +kernel
theorem dL_law_1575 : decode code 1575 = .ok (.iload_n 3, 1) := by decide +kernel
theorem dL_law_1576 : decode code 1576 = .ok (.iconst 2, 1) := by decide +kernel
theorem dL_law_1577 : decode code 1577 = .ok (.iadd, 1) := by decide +kernel
theorem dL_law_1578 : decode code 1578 = .ok (.iaload, 1) := by decide +kernel
theorem dL_law_1579 : decode code 1579 = .ok (.aload_n 0, 1) := by decide +kernel
theorem dL_law_1580 : decode code 1580 = .ok (.iload_n 3, 1) := by decide +kernel
theorem dL_law_1581 : decode code 1581 = .ok (.iconst 3, 1) := by decide +kernel
theorem dL_law_1582 : decode code 1582 = .ok (.iadd, 1) := by decide +kernel
theorem dL_law_1583 : decode code 1583 = .ok (.iaload, 1) := by decide +kernel
theorem dL_law_1584 : decode code 1584 = .ok (.aload_n 0, 1) := by decide +kernel
theorem dL_law_1585 : decode code 1585 = .ok (.iload_n 3, 1) := by decide +kernel
theorem dL_law_1586 : decode code 1586 = .ok (.iconst 4, 1) := by decide +kernel
theorem dL_law_1587 : decode code 1587 = .ok (.iadd, 1) := by decide +kernel
theorem dL_law_1588 : decode code 1588 = .ok (.iaload, 1) := by decide +kernel
theorem dL_law_1589 : decode code 1589 = .ok (.invokevirtual 164, 3) := by decide +kernel
theorem dL_law_1592 : decode code 1592 = .ok (.if_icmp .eq 513, 3) := by decide +kernel
theorem dL_law_1595 : decode code 1595 = .ok (.iconst 0, 1) := by decide +kernel
theorem dL_law_1596 : decode code 1596 = .ok (.ireturn, 1) := by decide +kernel
theorem dL_law_1597 : decode code 1597 = .ok (.aload_n 1, 1) := by decide +kernel
theorem dL_law_1598 : decode code 1598 = .ok (.aload_n 0, 1) := by decide +kernel
theorem dL_law_1599 : decode code 1599 = .ok (.iload_n 3, 1) := by decide +kernel
theorem dL_law_1600 : decode code 1600 = .ok (.iconst 1, 1) := by decide +kernel
theorem dL_law_1601 : decode code 1601 = .ok (.iadd, 1) := by decide +kernel
theorem dL_law_1602 : decode code 1602 = .ok (.iaload, 1) := by decide +kernel
theorem dL_law_1603 : decode code 1603 = .ok (.aload_n 0, 1) := by decide +kernel
theorem dL_law_1604 : decode code 1604 = .ok (.iload_n 3, 1) := by decide +kernel
theorem dL_law_1605 : decode code 1605 = .ok (.iconst 2, 1) := by decide +kernel
theorem dL_law_1606 : decode code 1606 = .ok (.iadd, 1) := by decide +kernel
theorem dL_law_1607 : decode code 1607 = .ok (.iaload, 1) := by decide +kernel
theorem dL_law_1608 : decode code 1608 = .ok (.aload_n 0, 1) := by decide +kernel
theorem dL_law_1609 : decode code 1609 = .ok (.iload_n 3, 1) := by decide +kernel
theorem dL_law_1610 : decode code 1610 = .ok (.iconst 3, 1) := by decide +kernel
theorem dL_law_1611 : decode code 1611 = .ok (.iadd, 1) := by decide +kernel
theorem dL_law_1612 : decode code 1612 = .ok (.iaload, 1) := by decide +kernel
theorem dL_law_1613 : decode code 1613 = .ok (.aload_n 0, 1) := by decide +kernel
theorem dL_law_1614 : decode code 1614 = .ok (.iload_n 3, 1) := by decide +kernel
theorem dL_law_1615 : decode code 1615 = .ok (.iconst 4, 1) := by decide +kernel
theorem dL_law_1616 : decode code 1616 = .ok (.iadd, 1) := by decide +kernel
theorem dL_law_1617 : decode code 1617 = .ok (.iaload, 1) := by decide +kernel
theorem dL_law_1618 : decode code 1618 = .ok (.aload_n 0, 1) := by decide +kernel
theorem dL_law_1619 : decode code 1619 = .ok (.iload_n 3, 1) := by decide +kernel
theorem dL_law_1620 : decode code 1620 = .ok (.iconst 5, 1) := by decide +kernel
theorem dL_law_1621 : decode code 1621 = .ok (.iadd, 1) := by decide +kernel
theorem dL_law_1622 : decode code 1622 = .ok (.iaload, 1) := by decide +kernel
theorem dL_law_1623 : decode code 1623 = .ok (.invokevirtual 165, 3) := by decide +kernel
theorem dL_law_1626 : decode code 1626 = .ok (.aload_n 2, 1) := by decide +kernel
theorem dL_law_1627 : decode code 1627 = .ok (.aload_n 0, 1) := by decide +kernel
theorem dL_law_1628 : decode code 1628 = .ok (.iload_n 3, 1) := by decide +kernel
theorem dL_law_1629 : decode code 1629 = .ok (.iconst 1, 1) := by decide +kernel
theorem dL_law_1630 : decode code 1630 = .ok (.iadd, 1) := by decide +kernel
theorem dL_law_1631 : decode code 1631 = .ok (.iaload, 1) := by decide +kernel
theorem dL_law_1632 : decode code 1632 = .ok (.aload_n 0, 1) := by decide +kernel
theorem dL_law_1633 : decode code 1633 = .ok (.iload_n 3, 1) := by decide +kernel
theorem dL_law_1634 : decode code 1634 = .ok (.iconst 2, 1) := by decide +kernel
theorem dL_law_1635 : decode code 1635 = .ok (.iadd, 1) := by decide +kernel
theorem dL_law_1636 : decode code 1636 = .ok (.iaload, 1) := by decide +kernel
theorem dL_law_1637 : decode code 1637 = .ok (.aload_n 0, 1) := by decide +kernel
theorem dL_law_1638 : decode code 1638 = .ok (.iload_n 3, 1) := by decide +kernel
theorem dL_law_1639 : decode code 1639 = .ok (.iconst 3, 1) := by decide +kernel
theorem dL_law_1640 : decode code 1640 = .ok (.iadd, 1) := by decide +kernel
theorem dL_law_1641 : decode code 1641 = .ok (.iaload, 1) := by decide +kernel
theorem dL_law_1642 : decode code 1642 = .ok (.aload_n 0, 1) := by decide +kernel
theorem dL_law_1643 : decode code 1643 = .ok (.iload_n 3, 1) := by decide +kernel
theorem dL_law_1644 : decode code 1644 = .ok (.iconst 4, 1) := by decide +kernel
theorem dL_law_1645 : decode code 1645 = .ok (.iadd, 1) := by decide +kernel
theorem dL_law_1646 : decode code 1646 = .ok (.iaload, 1) := by decide +kernel
theorem dL_law_1647 : decode code 1647 = .ok (.aload_n 0, 1) := by decide +kernel
theorem dL_law_1648 : decode code 1648 = .ok (.iload_n 3, 1) := by decide +kernel
theorem dL_law_1649 : decode code 1649 = .ok (.iconst 5, 1) := by decide +kernel
theorem dL_law_1650 : decode code 1650 = .ok (.iadd, 1) := by decide +kernel
theorem dL_law_1651 : decode code 1651 = .ok (.iaload, 1) := by decide +kernel
theorem dL_law_1652 : decode code 1652 = .ok (.invokevirtual 168, 3) := by decide +kernel
theorem dL_law_1655 : decode code 1655 = .ok (.if_icmp .eq 450, 3) := by decide +kernel
theorem dL_law_1658 : decode code 1658 = .ok (.iconst 0, 1) := by decide +kernel
theorem dL_law_1659 : decode code 1659 = .ok (.ireturn, 1) := by decide +kernel
theorem dL_law_1660 : decode code 1660 = .ok (.aload_n 1, 1) := by decide +kernel
theorem dL_law_1661 : decode code 1661 = .ok (.aload_n 0, 1) := by decide +kernel
theorem dL_law_1662 : decode code 1662 = .ok (.iload_n 3, 1) := by decide +kernel
theorem dL_law_1663 : decode code 1663 = .ok (.iconst 1, 1) := by decide +kernel
theorem dL_law_1664 : decode code 1664 = .ok (.iadd, 1) := by decide +kernel
theorem dL_law_1665 : decode code 1665 = .ok (.iaload, 1) := by decide +kernel
theorem dL_law_1666 : decode code 1666 = .ok (.aload_n 0, 1) := by decide +kernel
theorem dL_law_1667 : decode code 1667 = .ok (.iload_n 3, 1) := by decide +kernel
theorem dL_law_1668 : decode code 1668 = .ok (.iconst 2, 1) := by decide +kernel
theorem dL_law_1669 : decode code 1669 = .ok (.iadd, 1) := by decide +kernel
theorem dL_law_1670 : decode code 1670 = .ok (.iaload, 1) := by decide +kernel
theorem dL_law_1671 : decode code 1671 = .ok (.invokevirtual 169, 3) := by decide +kernel
theorem dL_law_1674 : decode code 1674 = .ok (.aload_n 2, 1) := by decide +kernel
theorem dL_law_1675 : decode code 1675 = .ok (.aload_n 0, 1) := by decide +kernel
theorem dL_law_1676 : decode code 1676 = .ok (.iload_n 3, 1) := by decide +kernel
theorem dL_law_1677 : decode code 1677 = .ok (.iconst 1, 1) := by decide +kernel
theorem dL_law_1678 : decode code 1678 = .ok (.iadd, 1) := by decide +kernel
theorem dL_law_1679 : decode code 1679 = .ok (.iaload, 1) := by decide +kernel
theorem dL_law_1680 : decode code 1680 = .ok (.aload_n 0, 1) := by decide +kernel
theorem dL_law_1681 : decode code 1681 = .ok (.iload_n 3, 1) := by decide +kernel
theorem dL_law_1682 : decode code 1682 = .ok (.iconst 2, 1) := by decide +kernel
theorem dL_law_1683 : decode code 1683 = .ok (.iadd, 1) := by decide +kernel
theorem dL_law_1684 : decode code 1684 = .ok (.iaload, 1) := by decide +kernel
theorem dL_law_1685 : decode code 1685 = .ok (.invokevirtual 172, 3) := by decide +kernel
theorem dL_law_1688 : decode code 1688 = .ok (.if_icmp .eq 417, 3) := by decide +kernel
theorem dL_law_1691 : decode code 1691 = .ok (.iconst 0, 1) := by decide +kernel
theorem dL_law_1692 : decode code 1692 = .ok (.ireturn, 1) := by decide +kernel
theorem dL_law_1693 : decode code 1693 = .ok (.aload_n 1, 1) := by decide +kernel
theorem dL_law_1694 : decode code 1694 = .ok (.aload_n 0, 1) := by decide +kernel
theorem dL_law_1695 : decode code 1695 = .ok (.iload_n 3, 1) := by decide +kernel
theorem dL_law_1696 : decode code 1696 = .ok (.iconst 1, 1) := by decide +kernel
theorem dL_law_1697 : decode code 1697 = .ok (.iadd, 1) := by decide +kernel
theorem dL_law_1698 : decode code 1698 = .ok (.iaload, 1) := by decide +kernel
theorem dL_law_1699 : decode code 1699 = .ok (.aload_n 0, 1) := by decide +kernel
theorem dL_law_1700 : decode code 1700 = .ok (.iload_n 3, 1) := by decide +kernel
theorem dL_law_1701 : decode code 1701 = .ok (.iconst 2, 1) := by decide +kernel
theorem dL_law_1702 : decode code 1702 = .ok (.iadd, 1) := by decide +kernel
theorem dL_law_1703 : decode code 1703 = .ok (.iaload, 1) := by decide +kernel
theorem dL_law_1704 : decode code 1704 = .ok (.aload_n 0, 1) := by decide +kernel
theorem dL_law_1705 : decode code 1705 = .ok (.iload_n 3, 1) := by decide +kernel
theorem dL_law_1706 : decode code 1706 = .ok (.iconst 3, 1) := by decide +kernel
theorem dL_law_1707 : decode code 1707 = .ok (.iadd, 1) := by decide +kernel
theorem dL_law_1708 : decode code 1708 = .ok (.iaload, 1) := by decide +kernel
theorem dL_law_1709 : decode code 1709 = .ok (.invokevirtual 173, 3) := by decide +kernel
theorem dL_law_1712 : decode code 1712 = .ok (.aload_n 2, 1) := by decide +kernel
theorem dL_law_1713 : decode code 1713 = .ok (.aload_n 0, 1) := by decide +kernel
theorem dL_law_1714 : decode code 1714 = .ok (.iload_n 3, 1) := by decide +kernel
theorem dL_law_1715 : decode code 1715 = .ok (.iconst 1, 1) := by decide +kernel
theorem dL_law_1716 : decode code 1716 = .ok (.iadd, 1) := by decide +kernel
theorem dL_law_1717 : decode code 1717 = .ok (.iaload, 1) := by decide +kernel
theorem dL_law_1718 : decode code 1718 = .ok (.aload_n 0, 1) := by decide +kernel
theorem dL_law_1719 : decode code 1719 = .ok (.iload_n 3, 1) := by decide +kernel
theorem dL_law_1720 : decode code 1720 = .ok (.iconst 2, 1) := by decide +kernel
theorem dL_law_1721 : decode code 1721 = .ok (.iadd, 1) := by decide +kernel
theorem dL_law_1722 : decode code 1722 = .ok (.iaload, 1) := by decide +kernel
theorem dL_law_1723 : decode code 1723 = .ok (.aload_n 0, 1) := by decide +kernel
theorem dL_law_1724 : decode code 1724 = .ok (.iload_n 3, 1) := by decide +kernel
theorem dL_law_1725 : decode code 1725 = .ok (.iconst 3, 1) := by decide +kernel
theorem dL_law_1726 : decode code 1726 = .ok (.iadd, 1) := by decide +kernel
theorem dL_law_1727 : decode code 1727 = .ok (.iaload, 1) := by decide +kernel
theorem dL_law_1728 : decode code 1728 = .ok (.invokevirtual 176, 3) := by decide +kernel
theorem dL_law_1731 : decode code 1731 = .ok (.if_icmp .eq 374, 3) := by decide +kernel
theorem dL_law_1734 : decode code 1734 = .ok (.iconst 0, 1) := by decide +kernel
theorem dL_law_1735 : decode code 1735 = .ok (.ireturn, 1) := by decide +kernel
theorem dL_law_1736 : decode code 1736 = .ok (.aload_n 1, 1) := by decide +kernel
theorem dL_law_1737 : decode code 1737 = .ok (.aload_n 0, 1) := by decide +kernel
theorem dL_law_1738 : decode code 1738 = .ok (.iload_n 3, 1) := by decide +kernel
theorem dL_law_1739 : decode code 1739 = .ok (.iconst 1, 1) := by decide +kernel
theorem dL_law_1740 : decode code 1740 = .ok (.iadd, 1) := by decide +kernel
theorem dL_law_1741 : decode code 1741 = .ok (.iaload, 1) := by decide +kernel
theorem dL_law_1742 : decode code 1742 = .ok (.aload_n 0, 1) := by decide +kernel
theorem dL_law_1743 : decode code 1743 = .ok (.iload_n 3, 1) := by decide +kernel
theorem dL_law_1744 : decode code 1744 = .ok (.iconst 2, 1) := by decide +kernel
theorem dL_law_1745 : decode code 1745 = .ok (.iadd, 1) := by decide +kernel
theorem dL_law_1746 : decode code 1746 = .ok (.iaload, 1) := by decide +kernel
theorem dL_law_1747 : decode code 1747 = .ok (.aload_n 0, 1) := by decide +kernel
theorem dL_law_1748 : decode code 1748 = .ok (.iload_n 3, 1) := by decide +kernel
theorem dL_law_1749 : decode code 1749 = .ok (.iconst 3, 1) := by decide +kernel
theorem dL_law_1750 : decode code 1750 = .ok (.iadd, 1) := by decide +kernel
theorem dL_law_1751 : decode code 1751 = .ok (.iaload, 1) := by decide +kernel
theorem dL_law_1752 : decode code 1752 = .ok (.invokevirtual 177, 3) := by decide +kernel
theorem dL_law_1755 : decode code 1755 = .ok (.aload_n 2, 1) := by decide +kernel
theorem dL_law_1756 : decode code 1756 = .ok (.aload_n 0, 1) := by decide +kernel
theorem dL_law_1757 : decode code 1757 = .ok (.iload_n 3, 1) := by decide +kernel
theorem dL_law_1758 : decode code 1758 = .ok (.iconst 1, 1) := by decide +kernel
theorem dL_law_1759 : decode code 1759 = .ok (.iadd, 1) := by decide +kernel
theorem dL_law_1760 : decode code 1760 = .ok (.iaload, 1) := by decide +kernel
theorem dL_law_1761 : decode code 1761 = .ok (.aload_n 0, 1) := by decide +kernel
theorem dL_law_1762 : decode code 1762 = .ok (.iload_n 3, 1) := by decide +kernel
theorem dL_law_1763 : decode code 1763 = .ok (.iconst 2, 1) := by decide +kernel
theorem dL_law_1764 : decode code 1764 = .ok (.iadd, 1) := by decide +kernel
theorem dL_law_1765 : decode code 1765 = .ok (.iaload, 1) := by decide +kernel
theorem dL_law_1766 : decode code 1766 = .ok (.aload_n 0, 1) := by decide +kernel
theorem dL_law_1767 : decode code 1767 = .ok (.iload_n 3, 1) := by decide +kernel
theorem dL_law_1768 : decode code 1768 = .ok (.iconst 3, 1) := by decide +kernel
theorem dL_law_1769 : decode code 1769 = .ok (.iadd, 1) := by decide +kernel
theorem dL_law_1770 : decode code 1770 = .ok (.iaload, 1) := by decide +kernel
theorem dL_law_1771 : decode code 1771 = .ok (.invokevirtual 180, 3) := by decide +kernel
theorem dL_law_1774 : decode code 1774 = .ok (.if_icmp .eq 331, 3) := by decide +kernel
theorem dL_law_1777 : decode code 1777 = .ok (.iconst 0, 1) := by decide +kernel
theorem dL_law_1778 : decode code 1778 = .ok (.ireturn, 1) := by decide +kernel
theorem dL_law_1779 : decode code 1779 = .ok (.aload_n 1, 1) := by decide +kernel
theorem dL_law_1780 : decode code 1780 = .ok (.aload_n 0, 1) := by decide +kernel
theorem dL_law_1781 : decode code 1781 = .ok (.iload_n 3, 1) := by decide +kernel
theorem dL_law_1782 : decode code 1782 = .ok (.iconst 1, 1) := by decide +kernel
theorem dL_law_1783 : decode code 1783 = .ok (.iadd, 1) := by decide +kernel
theorem dL_law_1784 : decode code 1784 = .ok (.iaload, 1) := by decide +kernel
theorem dL_law_1785 : decode code 1785 = .ok (.aload_n 0, 1) := by decide +kernel
theorem dL_law_1786 : decode code 1786 = .ok (.iload_n 3, 1) := by decide +kernel
theorem dL_law_1787 : decode code 1787 = .ok (.iconst 2, 1) := by decide +kernel
theorem dL_law_1788 : decode code 1788 = .ok (.iadd, 1) := by decide +kernel
theorem dL_law_1789 : decode code 1789 = .ok (.iaload, 1) := by decide +kernel
theorem dL_law_1790 : decode code 1790 = .ok (.invokevirtual 181, 3) := by decide +kernel
theorem dL_law_1793 : decode code 1793 = .ok (.aload_n 2, 1) := by decide +kernel
theorem dL_law_1794 : decode code 1794 = .ok (.aload_n 0, 1) := by decide +kernel
theorem dL_law_1795 : decode code 1795 = .ok (.iload_n 3, 1) := by decide +kernel
theorem dL_law_1796 : decode code 1796 = .ok (.iconst 1, 1) := by decide +kernel
theorem dL_law_1797 : decode code 1797 = .ok (.iadd, 1) := by decide +kernel
theorem dL_law_1798 : decode code 1798 = .ok (.iaload, 1) := by decide +kernel
theorem dL_law_1799 : decode code 1799 = .ok (.aload_n 0, 1) := by decide +kernel
theorem dL_law_1800 : decode code 1800 = .ok (.iload_n 3, 1) := by decide +kernel
theorem dL_law_1801 : decode code 1801 = .ok (.iconst 2, 1) := by decide +kernel
theorem dL_law_1802 : decode code 1802 = .ok (.iadd, 1) := by decide +kernel
theorem dL_law_1803 : decode code 1803 = .ok (.iaload, 1) := by decide +kernel
theorem dL_law_1804 : decode code 1804 = .ok (.invokevirtual 184, 3) := by decide +kernel
theorem dL_law_1807 : decode code 1807 = .ok (.if_icmp .eq 298, 3) := by decide +kernel
theorem dL_law_1810 : decode code 1810 = .ok (.iconst 0, 1) := by decide +kernel
theorem dL_law_1811 : decode code 1811 = .ok (.ireturn, 1) := by decide +kernel
theorem dL_law_1812 : decode code 1812 = .ok (.aload_n 1, 1) := by decide +kernel
theorem dL_law_1813 : decode code 1813 = .ok (.aload_n 0, 1) := by decide +kernel
theorem dL_law_1814 : decode code 1814 = .ok (.iload_n 3, 1) := by decide +kernel
theorem dL_law_1815 : decode code 1815 = .ok (.iconst 1, 1) := by decide +kernel
theorem dL_law_1816 : decode code 1816 = .ok (.iadd, 1) := by decide +kernel
theorem dL_law_1817 : decode code 1817 = .ok (.iaload, 1) := by decide +kernel
theorem dL_law_1818 : decode code 1818 = .ok (.invokevirtual 185, 3) := by decide +kernel
theorem dL_law_1821 : decode code 1821 = .ok (.aload_n 2, 1) := by decide +kernel
theorem dL_law_1822 : decode code 1822 = .ok (.aload_n 0, 1) := by decide +kernel
theorem dL_law_1823 : decode code 1823 = .ok (.iload_n 3, 1) := by decide +kernel
theorem dL_law_1824 : decode code 1824 = .ok (.iconst 1, 1) := by decide +kernel
theorem dL_law_1825 : decode code 1825 = .ok (.iadd, 1) := by decide +kernel
theorem dL_law_1826 : decode code 1826 = .ok (.iaload, 1) := by decide +kernel
theorem dL_law_1827 : decode code 1827 = .ok (.invokevirtual 188, 3) := by decide +kernel
theorem dL_law_1830 : decode code 1830 = .ok (.if_icmp .eq 275, 3) := by decide +kernel
theorem dL_law_1833 : decode code 1833 = .ok (.iconst 0, 1) := by decide +kernel
theorem dL_law_1834 : decode code 1834 = .ok (.ireturn, 1) := by decide +kernel
theorem dL_law_1835 : decode code 1835 = .ok (.aload_n 1, 1) := by decide +kernel
theorem dL_law_1836 : decode code 1836 = .ok (.aload_n 0, 1) := by decide +kernel
theorem dL_law_1837 : decode code 1837 = .ok (.iload_n 3, 1) := by decide +kernel
theorem dL_law_1838 : decode code 1838 = .ok (.iconst 1, 1) := by decide +kernel
theorem dL_law_1839 : decode code 1839 = .ok (.iadd, 1) := by decide +kernel
theorem dL_law_1840 : decode code 1840 = .ok (.iaload, 1) := by decide +kernel
theorem dL_law_1841 : decode code 1841 = .ok (.invokevirtual 189, 3) := by decide +kernel
theorem dL_law_1844 : decode code 1844 = .ok (.aload_n 2, 1) := by decide +kernel
theorem dL_law_1845 : decode code 1845 = .ok (.aload_n 0, 1) := by decide +kernel
theorem dL_law_1846 : decode code 1846 = .ok (.iload_n 3, 1) := by decide +kernel
theorem dL_law_1847 : decode code 1847 = .ok (.iconst 1, 1) := by decide +kernel
theorem dL_law_1848 : decode code 1848 = .ok (.iadd, 1) := by decide +kernel
theorem dL_law_1849 : decode code 1849 = .ok (.iaload, 1) := by decide +kernel
theorem dL_law_1850 : decode code 1850 = .ok (.invokevirtual 192, 3) := by decide +kernel
theorem dL_law_1853 : decode code 1853 = .ok (.if_icmp .eq 252, 3) := by decide +kernel
theorem dL_law_1856 : decode code 1856 = .ok (.iconst 0, 1) := by decide +kernel
theorem dL_law_1857 : decode code 1857 = .ok (.ireturn, 1) := by decide +kernel
theorem dL_law_1858 : decode code 1858 = .ok (.aload_n 1, 1) := by decide +kernel
theorem dL_law_1859 : decode code 1859 = .ok (.aload_n 0, 1) := by decide +kernel
theorem dL_law_1860 : decode code 1860 = .ok (.iload_n 3, 1) := by decide +kernel
theorem dL_law_1861 : decode code 1861 = .ok (.iconst 1, 1) := by decide +kernel
theorem dL_law_1862 : decode code 1862 = .ok (.iadd, 1) := by decide +kernel
theorem dL_law_1863 : decode code 1863 = .ok (.iaload, 1) := by decide +kernel
theorem dL_law_1864 : decode code 1864 = .ok (.aload_n 0, 1) := by decide +kernel
theorem dL_law_1865 : decode code 1865 = .ok (.iload_n 3, 1) := by decide +kernel
theorem dL_law_1866 : decode code 1866 = .ok (.iconst 2, 1) := by decide +kernel
theorem dL_law_1867 : decode code 1867 = .ok (.iadd, 1) := by decide +kernel
theorem dL_law_1868 : decode code 1868 = .ok (.iaload, 1) := by decide +kernel
theorem dL_law_1869 : decode code 1869 = .ok (.invokevirtual 193, 3) := by decide +kernel
theorem dL_law_1872 : decode code 1872 = .ok (.aload_n 2, 1) := by decide +kernel
theorem dL_law_1873 : decode code 1873 = .ok (.aload_n 0, 1) := by decide +kernel
theorem dL_law_1874 : decode code 1874 = .ok (.iload_n 3, 1) := by decide +kernel
theorem dL_law_1875 : decode code 1875 = .ok (.iconst 1, 1) := by decide +kernel
theorem dL_law_1876 : decode code 1876 = .ok (.iadd, 1) := by decide +kernel
theorem dL_law_1877 : decode code 1877 = .ok (.iaload, 1) := by decide +kernel
theorem dL_law_1878 : decode code 1878 = .ok (.aload_n 0, 1) := by decide +kernel
theorem dL_law_1879 : decode code 1879 = .ok (.iload_n 3, 1) := by decide +kernel
theorem dL_law_1880 : decode code 1880 = .ok (.iconst 2, 1) := by decide +kernel
theorem dL_law_1881 : decode code 1881 = .ok (.iadd, 1) := by decide +kernel
theorem dL_law_1882 : decode code 1882 = .ok (.iaload, 1) := by decide +kernel
theorem dL_law_1883 : decode code 1883 = .ok (.invokevirtual 196, 3) := by decide +kernel
theorem dL_law_1886 : decode code 1886 = .ok (.if_icmp .eq 219, 3) := by decide +kernel
theorem dL_law_1889 : decode code 1889 = .ok (.iconst 0, 1) := by decide +kernel
theorem dL_law_1890 : decode code 1890 = .ok (.ireturn, 1) := by decide +kernel
theorem dL_law_1891 : decode code 1891 = .ok (.aload_n 1, 1) := by decide +kernel
theorem dL_law_1892 : decode code 1892 = .ok (.aload_n 0, 1) := by decide +kernel
theorem dL_law_1893 : decode code 1893 = .ok (.iload_n 3, 1) := by decide +kernel
theorem dL_law_1894 : decode code 1894 = .ok (.iconst 1, 1) := by decide +kernel
theorem dL_law_1895 : decode code 1895 = .ok (.iadd, 1) := by decide +kernel
theorem dL_law_1896 : decode code 1896 = .ok (.iaload, 1) := by decide +kernel
theorem dL_law_1897 : decode code 1897 = .ok (.aload_n 0, 1) := by decide +kernel
theorem dL_law_1898 : decode code 1898 = .ok (.iload_n 3, 1) := by decide +kernel
theorem dL_law_1899 : decode code 1899 = .ok (.iconst 2, 1) := by decide +kernel
theorem dL_law_1900 : decode code 1900 = .ok (.iadd, 1) := by decide +kernel
theorem dL_law_1901 : decode code 1901 = .ok (.iaload, 1) := by decide +kernel
theorem dL_law_1902 : decode code 1902 = .ok (.invokevirtual 197, 3) := by decide +kernel
theorem dL_law_1905 : decode code 1905 = .ok (.aload_n 2, 1) := by decide +kernel
theorem dL_law_1906 : decode code 1906 = .ok (.aload_n 0, 1) := by decide +kernel
theorem dL_law_1907 : decode code 1907 = .ok (.iload_n 3, 1) := by decide +kernel
theorem dL_law_1908 : decode code 1908 = .ok (.iconst 1, 1) := by decide +kernel
theorem dL_law_1909 : decode code 1909 = .ok (.iadd, 1) := by decide +kernel
theorem dL_law_1910 : decode code 1910 = .ok (.iaload, 1) := by decide +kernel
theorem dL_law_1911 : decode code 1911 = .ok (.aload_n 0, 1) := by decide +kernel
theorem dL_law_1912 : decode code 1912 = .ok (.iload_n 3, 1) := by decide +kernel
theorem dL_law_1913 : decode code 1913 = .ok (.iconst 2, 1) := by decide +kernel
theorem dL_law_1914 : decode code 1914 = .ok (.iadd, 1) := by decide +kernel
theorem dL_law_1915 : decode code 1915 = .ok (.iaload, 1) := by decide +kernel
theorem dL_law_1916 : decode code 1916 = .ok (.invokevirtual 200, 3) := by decide +kernel
theorem dL_law_1919 : decode code 1919 = .ok (.if_icmp .eq 186, 3) := by decide +kernel
theorem dL_law_1922 : decode code 1922 = .ok (.iconst 0, 1) := by decide +kernel
theorem dL_law_1923 : decode code 1923 = .ok (.ireturn, 1) := by decide +kernel
theorem dL_law_1924 : decode code 1924 = .ok (.aload_n 1, 1) := by decide +kernel
theorem dL_law_1925 : decode code 1925 = .ok (.aload_n 0, 1) := by decide +kernel
theorem dL_law_1926 : decode code 1926 = .ok (.iload_n 3, 1) := by decide +kernel
theorem dL_law_1927 : decode code 1927 = .ok (.iconst 1, 1) := by decide +kernel
theorem dL_law_1928 : decode code 1928 = .ok (.iadd, 1) := by decide +kernel
theorem dL_law_1929 : decode code 1929 = .ok (.iaload, 1) := by decide +kernel
theorem dL_law_1930 : decode code 1930 = .ok (.invokevirtual 201, 3) := by decide +kernel
theorem dL_law_1933 : decode code 1933 = .ok (.aload_n 2, 1) := by decide +kernel
theorem dL_law_1934 : decode code 1934 = .ok (.aload_n 0, 1) := by decide +kernel
theorem dL_law_1935 : decode code 1935 = .ok (.iload_n 3, 1) := by decide +kernel
theorem dL_law_1936 : decode code 1936 = .ok (.iconst 1, 1) := by decide +kernel
theorem dL_law_1937 : decode code 1937 = .ok (.iadd, 1) := by decide +kernel
theorem dL_law_1938 : decode code 1938 = .ok (.iaload, 1) := by decide +kernel
theorem dL_law_1939 : decode code 1939 = .ok (.invokevirtual 204, 3) := by decide +kernel
theorem dL_law_1942 : decode code 1942 = .ok (.if_icmp .eq 163, 3) := by decide +kernel
theorem dL_law_1945 : decode code 1945 = .ok (.iconst 0, 1) := by decide +kernel
theorem dL_law_1946 : decode code 1946 = .ok (.ireturn, 1) := by decide +kernel
theorem dL_law_1947 : decode code 1947 = .ok (.aload_n 1, 1) := by decide +kernel
theorem dL_law_1948 : decode code 1948 = .ok (.aload_n 0, 1) := by decide +kernel
theorem dL_law_1949 : decode code 1949 = .ok (.iload_n 3, 1) := by decide +kernel
theorem dL_law_1950 : decode code 1950 = .ok (.iconst 1, 1) := by decide +kernel
theorem dL_law_1951 : decode code 1951 = .ok (.iadd, 1) := by decide +kernel
theorem dL_law_1952 : decode code 1952 = .ok (.iaload, 1) := by decide +kernel
theorem dL_law_1953 : decode code 1953 = .ok (.invokevirtual 205, 3) := by decide +kernel
theorem dL_law_1956 : decode code 1956 = .ok (.aload_n 2, 1) := by decide +kernel
theorem dL_law_1957 : decode code 1957 = .ok (.aload_n 0, 1) := by decide +kernel
theorem dL_law_1958 : decode code 1958 = .ok (.iload_n 3, 1) := by decide +kernel
theorem dL_law_1959 : decode code 1959 = .ok (.iconst 1, 1) := by decide +kernel
theorem dL_law_1960 : decode code 1960 = .ok (.iadd, 1) := by decide +kernel
theorem dL_law_1961 : decode code 1961 = .ok (.iaload, 1) := by decide +kernel
theorem dL_law_1962 : decode code 1962 = .ok (.invokevirtual 208, 3) := by decide +kernel
theorem dL_law_1965 : decode code 1965 = .ok (.if_icmp .eq 140, 3) := by decide +kernel
theorem dL_law_1968 : decode code 1968 = .ok (.iconst 0, 1) := by decide +kernel
theorem dL_law_1969 : decode code 1969 = .ok (.ireturn, 1) := by decide +kernel
theorem dL_law_1970 : decode code 1970 = .ok (.aload_n 1, 1) := by decide +kernel
theorem dL_law_1971 : decode code 1971 = .ok (.aload_n 0, 1) := by decide +kernel
theorem dL_law_1972 : decode code 1972 = .ok (.iload_n 3, 1) := by decide +kernel
theorem dL_law_1973 : decode code 1973 = .ok (.iconst 1, 1) := by decide +kernel
theorem dL_law_1974 : decode code 1974 = .ok (.iadd, 1) := by decide +kernel
theorem dL_law_1975 : decode code 1975 = .ok (.iaload, 1) := by decide +kernel
theorem dL_law_1976 : decode code 1976 = .ok (.aload_n 0, 1) := by decide +kernel
theorem dL_law_1977 : decode code 1977 = .ok (.iload_n 3, 1) := by decide +kernel
theorem dL_law_1978 : decode code 1978 = .ok (.iconst 2, 1) := by decide +kernel
theorem dL_law_1979 : decode code 1979 = .ok (.iadd, 1) := by decide +kernel
theorem dL_law_1980 : decode code 1980 = .ok (.iaload, 1) := by decide +kernel
theorem dL_law_1981 : decode code 1981 = .ok (.aload_n 0, 1) := by decide +kernel
theorem dL_law_1982 : decode code 1982 = .ok (.iload_n 3, 1) := by decide +kernel
theorem dL_law_1983 : decode code 1983 = .ok (.iconst 3, 1) := by decide +kernel
theorem dL_law_1984 : decode code 1984 = .ok (.iadd, 1) := by decide +kernel
theorem dL_law_1985 : decode code 1985 = .ok (.iaload, 1) := by decide +kernel
theorem dL_law_1986 : decode code 1986 = .ok (.invokevirtual 209, 3) := by decide +kernel
theorem dL_law_1989 : decode code 1989 = .ok (.aload_n 2, 1) := by decide +kernel
theorem dL_law_1990 : decode code 1990 = .ok (.aload_n 0, 1) := by decide +kernel
theorem dL_law_1991 : decode code 1991 = .ok (.iload_n 3, 1) := by decide +kernel
theorem dL_law_1992 : decode code 1992 = .ok (.iconst 1, 1) := by decide +kernel
theorem dL_law_1993 : decode code 1993 = .ok (.iadd, 1) := by decide +kernel
theorem dL_law_1994 : decode code 1994 = .ok (.iaload, 1) := by decide +kernel
theorem dL_law_1995 : decode code 1995 = .ok (.aload_n 0, 1) := by decide +kernel
theorem dL_law_1996 : decode code 1996 = .ok (.iload_n 3, 1) := by decide +kernel
theorem dL_law_1997 : decode code 1997 = .ok (.iconst 2, 1) := by decide +kernel
theorem dL_law_1998 : decode code 1998 = .ok (.iadd, 1) := by decide +kernel
theorem dL_law_1999 : decode code 1999 = .ok (.iaload, 1) := by decide +kernel
theorem dL_law_2000 : decode code 2000 = .ok (.aload_n 0, 1) := by decide +kernel
theorem dL_law_2001 : decode code 2001 = .ok (.iload_n 3, 1) := by decide +kernel
theorem dL_law_2002 : decode code 2002 = .ok (.iconst 3, 1) := by decide +kernel
theorem dL_law_2003 : decode code 2003 = .ok (.iadd, 1) := by decide +kernel
theorem dL_law_2004 : decode code 2004 = .ok (.iaload, 1) := by decide +kernel
theorem dL_law_2005 : decode code 2005 = .ok (.invokevirtual 212, 3) := by decide +kernel
theorem dL_law_2008 : decode code 2008 = .ok (.if_icmp .eq 97, 3) := by decide +kernel
theorem dL_law_2011 : decode code 2011 = .ok (.iconst 0, 1) := by decide +kernel
theorem dL_law_2012 : decode code 2012 = .ok (.ireturn, 1) := by decide +kernel
theorem dL_law_2013 : decode code 2013 = .ok (.aload_n 1, 1) := by decide +kernel
theorem dL_law_2014 : decode code 2014 = .ok (.aload_n 0, 1) := by decide +kernel
theorem dL_law_2015 : decode code 2015 = .ok (.iload_n 3, 1) := by decide +kernel
theorem dL_law_2016 : decode code 2016 = .ok (.iconst 1, 1) := by decide +kernel
theorem dL_law_2017 : decode code 2017 = .ok (.iadd, 1) := by decide +kernel
theorem dL_law_2018 : decode code 2018 = .ok (.iaload, 1) := by decide +kernel
theorem dL_law_2019 : decode code 2019 = .ok (.invokevirtual 213, 3) := by decide +kernel
theorem dL_law_2022 : decode code 2022 = .ok (.aload_n 2, 1) := by decide +kernel
theorem dL_law_2023 : decode code 2023 = .ok (.aload_n 0, 1) := by decide +kernel
theorem dL_law_2024 : decode code 2024 = .ok (.iload_n 3, 1) := by decide +kernel
theorem dL_law_2025 : decode code 2025 = .ok (.iconst 1, 1) := by decide +kernel
theorem dL_law_2026 : decode code 2026 = .ok (.iadd, 1) := by decide +kernel
theorem dL_law_2027 : decode code 2027 = .ok (.iaload, 1) := by decide +kernel
theorem dL_law_2028 : decode code 2028 = .ok (.invokevirtual 216, 3) := by decide +kernel
theorem dL_law_2031 : decode code 2031 = .ok (.if_icmp .eq 74, 3) := by decide +kernel
theorem dL_law_2034 : decode code 2034 = .ok (.iconst 0, 1) := by decide +kernel
theorem dL_law_2035 : decode code 2035 = .ok (.ireturn, 1) := by decide +kernel
theorem dL_law_2036 : decode code 2036 = .ok (.aload_n 1, 1) := by decide +kernel
theorem dL_law_2037 : decode code 2037 = .ok (.aload_n 0, 1) := by decide +kernel
theorem dL_law_2038 : decode code 2038 = .ok (.iload_n 3, 1) := by decide +kernel
theorem dL_law_2039 : decode code 2039 = .ok (.iconst 1, 1) := by decide +kernel
theorem dL_law_2040 : decode code 2040 = .ok (.iadd, 1) := by decide +kernel
theorem dL_law_2041 : decode code 2041 = .ok (.iaload, 1) := by decide +kernel
theorem dL_law_2042 : decode code 2042 = .ok (.invokevirtual 217, 3) := by decide +kernel
theorem dL_law_2045 : decode code 2045 = .ok (.aload_n 2, 1) := by decide +kernel
theorem dL_law_2046 : decode code 2046 = .ok (.aload_n 0, 1) := by decide +kernel
theorem dL_law_2047 : decode code 2047 = .ok (.iload_n 3, 1) := by decide +kernel
theorem dL_law_2048 : decode code 2048 = .ok (.iconst 1, 1) := by decide +kernel
theorem dL_law_2049 : decode code 2049 = .ok (.iadd, 1) := by decide +kernel
theorem dL_law_2050 : decode code 2050 = .ok (.iaload, 1) := by decide +kernel
theorem dL_law_2051 : decode code 2051 = .ok (.invokevirtual 220, 3) := by decide +kernel
theorem dL_law_2054 : decode code 2054 = .ok (.if_icmp .eq 51, 3) := by decide +kernel
theorem dL_law_2057 : decode code 2057 = .ok (.iconst 0, 1) := by decide +kernel
theorem dL_law_2058 : decode code 2058 = .ok (.ireturn, 1) := by decide +kernel
theorem dL_law_2059 : decode code 2059 = .ok (.aload_n 1, 1) := by decide +kernel
theorem dL_law_2060 : decode code 2060 = .ok (.aload_n 0, 1) := by decide +kernel
theorem dL_law_2061 : decode code 2061 = .ok (.iload_n 3, 1) := by decide +kernel
theorem dL_law_2062 : decode code 2062 = .ok (.iconst 1, 1) := by decide +kernel
theorem dL_law_2063 : decode code 2063 = .ok (.iadd, 1) := by decide +kernel
theorem dL_law_2064 : decode code 2064 = .ok (.iaload, 1) := by decide +kernel
theorem dL_law_2065 : decode code 2065 = .ok (.invokevirtual 221, 3) := by decide +kernel
theorem dL_law_2068 : decode code 2068 = .ok (.aload_n 2, 1) := by decide +kernel
theorem dL_law_2069 : decode code 2069 = .ok (.aload_n 0, 1) := by decide +kernel
theorem dL_law_2070 : decode code 2070 = .ok (.iload_n 3, 1) := by decide +kernel
theorem dL_law_2071 : decode code 2071 = .ok (.iconst 1, 1) := by decide +kernel
theorem dL_law_2072 : decode code 2072 = .ok (.iadd, 1) := by decide +kernel
theorem dL_law_2073 : decode code 2073 = .ok (.iaload, 1) := by decide +kernel
theorem dL_law_2074 : decode code 2074 = .ok (.invokevirtual 224, 3) := by decide +kernel
theorem dL_law_2077 : decode code 2077 = .ok (.if_icmp .eq 28, 3) := by decide +kernel
theorem dL_law_2080 : decode code 2080 = .ok (.iconst 0, 1) := by decide +kernel
theorem dL_law_2081 : decode code 2081 = .ok (.ireturn, 1) := by decide +kernel
theorem dL_law_2082 : decode code 2082 = .ok (.aload_n 1, 1) := by decide +kernel
theorem dL_law_2083 : decode code 2083 = .ok (.aload_n 0, 1) := by decide +kernel
theorem dL_law_2084 : decode code 2084 = .ok (.iload_n 3, 1) := by decide +kernel
theorem dL_law_2085 : decode code 2085 = .ok (.iconst 1, 1) := by decide +kernel
theorem dL_law_2086 : decode code 2086 = .ok (.iadd, 1) := by decide +kernel
theorem dL_law_2087 : decode code 2087 = .ok (.iaload, 1) := by decide +kernel
theorem dL_law_2088 : decode code 2088 = .ok (.invokevirtual 225, 3) := by decide +kernel
theorem dL_law_2091 : decode code 2091 = .ok (.aload_n 2, 1) := by decide +kernel
theorem dL_law_2092 : decode code 2092 = .ok (.aload_n 0, 1) := by decide +kernel
theorem dL_law_2093 : decode code 2093 = .ok (.iload_n 3, 1) := by decide +kernel
theorem dL_law_2094 : decode code 2094 = .ok (.iconst 1, 1) := by decide +kernel
theorem dL_law_2095 : decode code 2095 = .ok (.iadd, 1) := by decide +kernel
theorem dL_law_2096 : decode code 2096 = .ok (.iaload, 1) := by decide +kernel
theorem dL_law_2097 : decode code 2097 = .ok (.invokevirtual 228, 3) := by decide +kernel
theorem dL_law_2100 : decode code 2100 = .ok (.if_icmp .eq 5, 3) := by decide +kernel
theorem dL_law_2103 : decode code 2103 = .ok (.iconst 0, 1) := by decide +kernel
theorem dL_law_2104 : decode code 2104 = .ok (.ireturn, 1) := by decide +kernel
theorem dL_law_2105 : decode code 2105 = .ok (.iinc 3 8, 3) := by decide +kernel
theorem dL_law_2108 : decode code 2108 = .ok (.goto (-2090), 3) := by decide +kernel
theorem dL_law_2111 : decode code 2111 = .ok (.iconst 1, 1) := by decide +kernel
theorem dL_law_2112 : decode code 2112 = .ok (.ireturn, 1) := by decide +kernel
