theorem dL_law_268 : decode code 268 = .ok (.aload_n 1, 1) := by decide +kernel
theorem dL_law_269 : decode code 269 = .ok (.aload_n 0, 1) := by decide +kernel
theorem dL_law_270 : decode code 270 = .ok (.iload_n 3, 1) := by decide +kernel
theorem dL_law_271 : decode code 271 = .ok (.iconst 1, 1) := by decide +kernel
theorem dL_law_272 : decode code 272 = .ok (.iadd, 1) := by decide +kernel
theorem dL_law_273 : decode code 273 = .ok (.iaload, 1) := by decide +kernel
theorem dL_law_274 : decode code 274 = .ok (.aload_n 0, 1) := by decide +kernel
theorem dL_law_275 : decode code 275 = .ok (.iload_n 3, 1) := by decide +kernel
theorem dL_law_276 : decode code 276 = .ok (.iconst 2, 1) := by decide +kernel
theorem dL_law_277 : decode code 277 = .ok (.iadd, 1) := by decide +kernel
theorem dL_law_278 : decode code 278 = .ok (.iaload, 1) := by decide +kernel
theorem dL_law_279 : decode code 279 = .ok (.aload_n 0, 1) := by decide +kernel
theorem dL_law_280 : decode code 280 = .ok (.iload_n 3, 1) := by decide +kernel
theorem dL_law_281 : decode code 281 = .ok (.iconst 3, 1) := by decide +kernel
theorem dL_law_282 : decode code 282 = .ok (.iadd, 1) := by decide +kernel
theorem dL_law_283 : decode code 283 = .ok (.iaload, 1) := by decide +kernel
theorem dL_law_284 : decode code 284 = .ok (.aload_n 0, 1) := by decide +kernel
theorem dL_law_285 : decode code 285 = .ok (.iload_n 3, 1) := by decide +kernel
theorem dL_law_286 : decode code 286 = .ok (.iconst 4, 1) := by decide +kernel
theorem dL_law_287 : decode code 287 = .ok (.iadd, 1) := by decide +kernel
theorem dL_law_288 : decode code 288 = .ok (.iaload, 1) := by decide +kernel
theorem dL_law_289 : decode code 289 = .ok (.aload_n 0, 1) := by decide +kernel
theorem dL_law_290 : decode code 290 = .ok (.iload_n 3, 1) := by decide +kernel
theorem dL_law_291 : decode code 291 = .ok (.iconst 5, 1) := by decide +kernel
theorem dL_law_292 : decode code 292 = .ok (.iadd, 1) := by decide +kernel
theorem dL_law_293 : decode code 293 = .ok (.iaload, 1) := by decide +kernel
theorem dL_law_294 : decode code 294 = .ok (.invokevirtual 13, 3) := by decide +kernel
theorem dL_law_297 : decode code 297 = .ok (.aload_n 2, 1) := by decide +kernel
theorem dL_law_298 : decode code 298 = .ok (.aload_n 0, 1) := by decide +kernel
theorem dL_law_299 : decode code 299 = .ok (.iload_n 3, 1) := by decide +kernel
theorem dL_law_300 : decode code 300 = .ok (.iconst 1, 1) := by decide +kernel
theorem dL_law_301 : decode code 301 = .ok (.iadd, 1) := by decide +kernel
theorem dL_law_302 : decode code 302 = .ok (.iaload, 1) := by decide +kernel
theorem dL_law_303 : decode code 303 = .ok (.aload_n 0, 1) := by decide +kernel
theorem dL_law_304 : decode code 304 = .ok (.iload_n 3, 1) := by decide +kernel
theorem dL_law_305 : decode code 305 = .ok (.iconst 2, 1) := by decide +kernel
theorem dL_law_306 : decode code 306 = .ok (.iadd, 1) := by decide +kernel
theorem dL_law_307 : decode code 307 = .ok (.iaload, 1) := by decide +kernel
theorem dL_law_308 : decode code 308 = .ok (.aload_n 0, 1) := by decide +kernel
theorem dL_law_309 : decode code 309 = .ok (.iload_n 3, 1) := by decide +kernel
theorem dL_law_310 : decode code 310 = .ok (.iconst 3, 1) := by decide +kernel
theorem dL_law_311 : decode code 311 = .ok (.iadd, 1) := by decide +kernel
theorem dL_law_312 : decode code 312 = .ok (.iaload, 1) := by decide +kernel
theorem dL_law_313 : decode code 313 = .ok (.aload_n 0, 1) := by decide +kernel
theorem dL_law_314 : decode code 314 = .ok (.iload_n 3, 1) := by decide +kernel
theorem dL_law_315 : decode code 315 = .ok (.iconst 4, 1) := by decide +kernel
theorem dL_law_316 : decode code 316 = .ok (.iadd, 1) := by decide +kernel
theorem dL_law_317 : decode code 317 = .ok (.iaload, 1) := by decide +kernel
theorem dL_law_318 : decode code 318 = .ok (.aload_n 0, 1) := by decide +kernel
theorem dL_law_319 : decode code 319 = .ok (.iload_n 3, 1) := by decide +kernel
theorem dL_law_320 : decode code 320 = .ok (.iconst 5, 1) := by decide +kernel
theorem dL_law_321 : decode code 321 = .ok (.iadd, 1) := by decide +kernel
theorem dL_law_322 : decode code 322 = .ok (.iaload, 1) := by decide +kernel
theorem dL_law_323 : decode code 323 = .ok (.invokevirtual 17, 3) := by decide +kernel
theorem dL_law_326 : decode code 326 = .ok (.if_icmp .eq 1607, 3) := by decide +kernel
theorem dL_law_1933 : decode code 1933 = .ok (.iinc 3 6, 3) := by decide +kernel
theorem dL_law_1936 : decode code 1936 = .ok (.goto (-1918), 3) := by decide +kernel
theorem dL_law_331 : decode code 331 = .ok (.aload_n 1, 1) := by decide +kernel
theorem dL_law_332 : decode code 332 = .ok (.aload_n 0, 1) := by decide +kernel
theorem dL_law_333 : decode code 333 = .ok (.iload_n 3, 1) := by decide +kernel
theorem dL_law_334 : decode code 334 = .ok (.iconst 1, 1) := by decide +kernel
theorem dL_law_335 : decode code 335 = .ok (.iadd, 1) := by decide +kernel
theorem dL_law_336 : decode code 336 = .ok (.iaload, 1) := by decide +kernel
theorem dL_law_337 : decode code 337 = .ok (.invokevirtual 18, 3) := by decide +kernel
theorem dL_law_340 : decode code 340 = .ok (.aload_n 2, 1) := by decide +kernel
theorem dL_law_341 : decode code 341 = .ok (.aload_n 0, 1) := by decide +kernel
theorem dL_law_342 : decode code 342 = .ok (.iload_n 3, 1) := by decide +kernel
theorem dL_law_343 : decode code 343 = .ok (.iconst 1, 1) := by decide +kernel
theorem dL_law_344 : decode code 344 = .ok (.iadd, 1) := by decide +kernel
theorem dL_law_345 : decode code 345 = .ok (.iaload, 1) := by decide +kernel
theorem dL_law_346 : decode code 346 = .ok (.invokevirtual 22, 3) := by decide +kernel
theorem dL_law_349 : decode code 349 = .ok (.if_icmp .eq 1584, 3) := by decide +kernel
theorem dL_law_354 : decode code 354 = .ok (.aload_n 1, 1) := by decide +kernel
theorem dL_law_355 : decode code 355 = .ok (.invokevirtual 23, 3) := by decide +kernel
theorem dL_law_358 : decode code 358 = .ok (.aload_n 2, 1) := by decide +kernel
theorem dL_law_359 : decode code 359 = .ok (.invokevirtual 27, 3) := by decide +kernel
theorem dL_law_362 : decode code 362 = .ok (.if_icmp .eq 1571, 3) := by decide +kernel
theorem dL_law_367 : decode code 367 = .ok (.aload_n 1, 1) := by decide +kernel
theorem dL_law_368 : decode code 368 = .ok (.aload_n 0, 1) := by decide +kernel
theorem dL_law_369 : decode code 369 = .ok (.iload_n 3, 1) := by decide +kernel
theorem dL_law_370 : decode code 370 = .ok (.iconst 1, 1) := by decide +kernel
theorem dL_law_371 : decode code 371 = .ok (.iadd, 1) := by decide +kernel
theorem dL_law_372 : decode code 372 = .ok (.iaload, 1) := by decide +kernel
theorem dL_law_373 : decode code 373 = .ok (.invokevirtual 28, 3) := by decide +kernel
theorem dL_law_376 : decode code 376 = .ok (.aload_n 2, 1) := by decide +kernel
theorem dL_law_377 : decode code 377 = .ok (.aload_n 0, 1) := by decide +kernel
theorem dL_law_378 : decode code 378 = .ok (.iload_n 3, 1) := by decide +kernel
theorem dL_law_379 : decode code 379 = .ok (.iconst 1, 1) := by decide +kernel
theorem dL_law_380 : decode code 380 = .ok (.iadd, 1) := by decide +kernel
theorem dL_law_381 : decode code 381 = .ok (.iaload, 1) := by decide +kernel
theorem dL_law_382 : decode code 382 = .ok (.invokevirtual 31, 3) := by decide +kernel
theorem dL_law_385 : decode code 385 = .ok (.if_icmp .eq 1548, 3) := by decide +kernel
theorem dL_law_390 : decode code 390 = .ok (.aload_n 1, 1) := by decide +kernel
theorem dL_law_391 : decode code 391 = .ok (.aload_n 0, 1) := by decide +kernel
theorem dL_law_392 : decode code 392 = .ok (.iload_n 3, 1) := by decide +kernel
theorem dL_law_393 : decode code 393 = .ok (.iconst 1, 1) := by decide +kernel
theorem dL_law_394 : decode code 394 = .ok (.iadd, 1) := by decide +kernel
theorem dL_law_395 : decode code 395 = .ok (.iaload, 1) := by decide +kernel
theorem dL_law_396 : decode code 396 = .ok (.aload_n 0, 1) := by decide +kernel
theorem dL_law_397 : decode code 397 = .ok (.iload_n 3, 1) := by decide +kernel
theorem dL_law_398 : decode code 398 = .ok (.iconst 2, 1) := by decide +kernel
theorem dL_law_399 : decode code 399 = .ok (.iadd, 1) := by decide +kernel
theorem dL_law_400 : decode code 400 = .ok (.iaload, 1) := by decide +kernel
theorem dL_law_401 : decode code 401 = .ok (.aload_n 0, 1) := by decide +kernel
theorem dL_law_402 : decode code 402 = .ok (.iload_n 3, 1) := by decide +kernel
theorem dL_law_403 : decode code 403 = .ok (.iconst 3, 1) := by decide +kernel
theorem dL_law_404 : decode code 404 = .ok (.iadd, 1) := by decide +kernel
theorem dL_law_405 : decode code 405 = .ok (.iaload, 1) := by decide +kernel
theorem dL_law_406 : decode code 406 = .ok (.invokevirtual 32, 3) := by decide +kernel
theorem dL_law_409 : decode code 409 = .ok (.aload_n 2, 1) := by decide +kernel
theorem dL_law_410 : decode code 410 = .ok (.aload_n 0, 1) := by decide +kernel
theorem dL_law_411 : decode code 411 = .ok (.iload_n 3, 1) := by decide +kernel
theorem dL_law_412 : decode code 412 = .ok (.iconst 1, 1) := by decide +kernel
theorem dL_law_413 : decode code 413 = .ok (.iadd, 1) := by decide +kernel
theorem dL_law_414 : decode code 414 = .ok (.iaload, 1) := by decide +kernel
theorem dL_law_415 : decode code 415 = .ok (.aload_n 0, 1) := by decide +kernel
theorem dL_law_416 : decode code 416 = .ok (.iload_n 3, 1) := by decide +kernel
theorem dL_law_417 : decode code 417 = .ok (.iconst 2, 1) := by decide +kernel
theorem dL_law_418 : decode code 418 = .ok (.iadd, 1) := by decide +kernel
theorem dL_law_419 : decode code 419 = .ok (.iaload, 1) := by decide +kernel
theorem dL_law_420 : decode code 420 = .ok (.aload_n 0, 1) := by decide +kernel
theorem dL_law_421 : decode code 421 = .ok (.iload_n 3, 1) := by decide +kernel
theorem dL_law_422 : decode code 422 = .ok (.iconst 3, 1) := by decide +kernel
theorem dL_law_423 : decode code 423 = .ok (.iadd, 1) := by decide +kernel
theorem dL_law_424 : decode code 424 = .ok (.iaload, 1) := by decide +kernel
theorem dL_law_425 : decode code 425 = .ok (.invokevirtual 36, 3) := by decide +kernel
theorem dL_law_428 : decode code 428 = .ok (.if_icmp .eq 1505, 3) := by decide +kernel
theorem dL_law_433 : decode code 433 = .ok (.aload_n 1, 1) := by decide +kernel
theorem dL_law_434 : decode code 434 = .ok (.aload_n 0, 1) := by decide +kernel
theorem dL_law_435 : decode code 435 = .ok (.iload_n 3, 1) := by decide +kernel
theorem dL_law_436 : decode code 436 = .ok (.iconst 1, 1) := by decide +kernel
theorem dL_law_437 : decode code 437 = .ok (.iadd, 1) := by decide +kernel
theorem dL_law_438 : decode code 438 = .ok (.iaload, 1) := by decide +kernel
theorem dL_law_439 : decode code 439 = .ok (.aload_n 0, 1) := by decide +kernel
theorem dL_law_440 : decode code 440 = .ok (.iload_n 3, 1) := by decide +kernel
theorem dL_law_441 : decode code 441 = .ok (.iconst 2, 1) := by decide +kernel
theorem dL_law_442 : decode code 442 = .ok (.iadd, 1) := by decide +kernel
theorem dL_law_443 : decode code 443 = .ok (.iaload, 1) := by decide +kernel
theorem dL_law_444 : decode code 444 = .ok (.invokevirtual 37, 3) := by decide +kernel
theorem dL_law_447 : decode code 447 = .ok (.aload_n 2, 1) := by decide +kernel
theorem dL_law_448 : decode code 448 = .ok (.aload_n 0, 1) := by decide +kernel
theorem dL_law_449 : decode code 449 = .ok (.iload_n 3, 1) := by decide +kernel
theorem dL_law_450 : decode code 450 = .ok (.iconst 1, 1) := by decide +kernel
theorem dL_law_451 : decode code 451 = .ok (.iadd, 1) := by decide +kernel
theorem dL_law_452 : decode code 452 = .ok (.iaload, 1) := by decide +kernel
theorem dL_law_453 : decode code 453 = .ok (.aload_n 0, 1) := by decide +kernel
theorem dL_law_454 : decode code 454 = .ok (.iload_n 3, 1) := by decide +kernel
theorem dL_law_455 : decode code 455 = .ok (.iconst 2, 1) := by decide +kernel
theorem dL_law_456 : decode code 456 = .ok (.iadd, 1) := by decide +kernel
theorem dL_law_457 : decode code 457 = .ok (.iaload, 1) := by decide +kernel
theorem dL_law_458 : decode code 458 = .ok (.invokevirtual 41, 3) := by decide +kernel
theorem dL_law_461 : decode code 461 = .ok (.if_icmp .eq 1472, 3) := by decide +kernel
theorem dL_law_466 : decode code 466 = .ok (.aload_n 1, 1) := by decide +kernel
theorem dL_law_467 : decode code 467 = .ok (.aload_n 0, 1) := by decide +kernel
theorem dL_law_468 : decode code 468 = .ok (.iload_n 3, 1) := by decide +kernel
theorem dL_law_469 : decode code 469 = .ok (.iconst 1, 1) := by decide +kernel
theorem dL_law_470 : decode code 470 = .ok (.iadd, 1) := by decide +kernel
theorem dL_law_471 : decode code 471 = .ok (.iaload, 1) := by decide +kernel
theorem dL_law_472 : decode code 472 = .ok (.aload_n 0, 1) := by decide +kernel
theorem dL_law_473 : decode code 473 = .ok (.iload_n 3, 1) := by decide +kernel
theorem dL_law_474 : decode code 474 = .ok (.iconst 2, 1) := by decide +kernel
theorem dL_law_475 : decode code 475 = .ok (.iadd, 1) := by decide +kernel
theorem dL_law_476 : decode code 476 = .ok (.iaload, 1) := by decide +kernel
theorem dL_law_477 : decode code 477 = .ok (.invokevirtual 42, 3) := by decide +kernel
theorem dL_law_480 : decode code 480 = .ok (.aload_n 2, 1) := by decide +kernel
theorem dL_law_481 : decode code 481 = .ok (.aload_n 0, 1) := by decide +kernel
theorem dL_law_482 : decode code 482 = .ok (.iload_n 3, 1) := by decide +kernel
theorem dL_law_483 : decode code 483 = .ok (.iconst 1, 1) := by decide +kernel
theorem dL_law_484 : decode code 484 = .ok (.iadd, 1) := by decide +kernel
theorem dL_law_485 : decode code 485 = .ok (.iaload, 1) := by decide +kernel
theorem dL_law_486 : decode code 486 = .ok (.aload_n 0, 1) := by decide +kernel
theorem dL_law_487 : decode code 487 = .ok (.iload_n 3, 1) := by decide +kernel
theorem dL_law_488 : decode code 488 = .ok (.iconst 2, 1) := by decide +kernel
theorem dL_law_489 : decode code 489 = .ok (.iadd, 1) := by decide +kernel
theorem dL_law_490 : decode code 490 = .ok (.iaload, 1) := by decide +kernel
theorem dL_law_491 : decode code 491 = .ok (.invokevirtual 45, 3) := by decide +kernel
theorem dL_law_494 : decode code 494 = .ok (.if_icmp .eq 1439, 3) := by decide +kernel
theorem dL_law_499 : decode code 499 = .ok (.aload_n 1, 1) := by decide +kernel
theorem dL_law_500 : decode code 500 = .ok (.aload_n 0, 1) := by decide +kernel
theorem dL_law_501 : decode code 501 = .ok (.iload_n 3, 1) := by decide +kernel
theorem dL_law_502 : decode code 502 = .ok (.iconst 1, 1) := by decide +kernel
theorem dL_law_503 : decode code 503 = .ok (.iadd, 1) := by decide +kernel
theorem dL_law_504 : decode code 504 = .ok (.iaload, 1) := by decide +kernel
theorem dL_law_505 : decode code 505 = .ok (.invokevirtual 46, 3) := by decide +kernel
theorem dL_law_508 : decode code 508 = .ok (.aload_n 2, 1) := by decide +kernel
theorem dL_law_509 : decode code 509 = .ok (.aload_n 0, 1) := by decide +kernel
theorem dL_law_510 : decode code 510 = .ok (.iload_n 3, 1) := by decide +kernel
theorem dL_law_511 : decode code 511 = .ok (.iconst 1, 1) := by decide +kernel
theorem dL_law_512 : decode code 512 = .ok (.iadd, 1) := by decide +kernel
theorem dL_law_513 : decode code 513 = .ok (.iaload, 1) := by decide +kernel
theorem dL_law_514 : decode code 514 = .ok (.invokevirtual 49, 3) := by decide +kernel
theorem dL_law_517 : decode code 517 = .ok (.if_icmp .eq 1416, 3) := by decide +kernel
theorem dL_law_522 : decode code 522 = .ok (.aload_n 1, 1) := by decide +kernel
theorem dL_law_523 : decode code 523 = .ok (.aload_n 0, 1) := by decide +kernel
theorem dL_law_524 : decode code 524 = .ok (.iload_n 3, 1) := by decide +kernel
theorem dL_law_525 : decode code 525 = .ok (.iconst 1, 1) := by decide +kernel
theorem dL_law_526 : decode code 526 = .ok (.iadd, 1) := by decide +kernel
theorem dL_law_527 : decode code 527 = .ok (.iaload, 1) := by decide +kernel
theorem dL_law_528 : decode code 528 = .ok (.invokevirtual 50, 3) := by decide +kernel
theorem dL_law_531 : decode code 531 = .ok (.aload_n 2, 1) := by decide +kernel
theorem dL_law_532 : decode code 532 = .ok (.aload_n 0, 1) := by decide +kernel
theorem dL_law_533 : decode code 533 = .ok (.iload_n 3, 1) := by decide +kernel
theorem dL_law_534 : decode code 534 = .ok (.iconst 1, 1) := by decide +kernel
theorem dL_law_535 : decode code 535 = .ok (.iadd, 1) := by decide +kernel
theorem dL_law_536 : decode code 536 = .ok (.iaload, 1) := by decide +kernel
theorem dL_law_537 : decode code 537 = .ok (.invokevirtual 53, 3) := by decide +kernel
theorem dL_law_540 : decode code 540 = .ok (.if_icmp .eq 1393, 3) := by decide +kernel
theorem dL_law_545 : decode code 545 = .ok (.aload_n 1, 1) := by decide +kernel
theorem dL_law_546 : decode code 546 = .ok (.aload_n 0, 1) := by decide +kernel
theorem dL_law_547 : decode code 547 = .ok (.iload_n 3, 1) := by decide +kernel
theorem dL_law_548 : decode code 548 = .ok (.iconst 1, 1) := by decide +kernel
theorem dL_law_549 : decode code 549 = .ok (.iadd, 1) := by decide +kernel
theorem dL_law_550 : decode code 550 = .ok (.iaload, 1) := by decide +kernel
theorem dL_law_551 : decode code 551 = .ok (.invokevirtual 54, 3) := by decide +kernel
theorem dL_law_554 : decode code 554 = .ok (.aload_n 2, 1) := by decide +kernel
theorem dL_law_555 : decode code 555 = .ok (.aload_n 0, 1) := by decide +kernel
theorem dL_law_556 : decode code 556 = .ok (.iload_n 3, 1) := by decide +kernel
theorem dL_law_557 : decode code 557 = .ok (.iconst 1, 1) := by decide +kernel
theorem dL_law_558 : decode code 558 = .ok (.iadd, 1) := by decide +kernel
theorem dL_law_559 : decode code 559 = .ok (.iaload, 1) := by decide +kernel
theorem dL_law_560 : decode code 560 = .ok (.invokevirtual 57, 3) := by decide +kernel
theorem dL_law_563 : decode code 563 = .ok (.if_icmp .eq 1370, 3) := by decide +kernel
theorem dL_law_568 : decode code 568 = .ok (.aload_n 1, 1) := by decide +kernel
theorem dL_law_569 : decode code 569 = .ok (.aload_n 0, 1) := by decide +kernel
theorem dL_law_570 : decode code 570 = .ok (.iload_n 3, 1) := by decide +kernel
theorem dL_law_571 : decode code 571 = .ok (.iconst 1, 1) := by decide +kernel
theorem dL_law_572 : decode code 572 = .ok (.iadd, 1) := by decide +kernel
theorem dL_law_573 : decode code 573 = .ok (.iaload, 1) := by decide +kernel
theorem dL_law_574 : decode code 574 = .ok (.invokevirtual 58, 3) := by decide +kernel
theorem dL_law_577 : decode code 577 = .ok (.aload_n 2, 1) := by decide +kernel
theorem dL_law_578 : decode code 578 = .ok (.aload_n 0, 1) := by decide +kernel
theorem dL_law_579 : decode code 579 = .ok (.iload_n 3, 1) := by decide +kernel
theorem dL_law_580 : decode code 580 = .ok (.iconst 1, 1) := by decide +kernel
theorem dL_law_581 : decode code 581 = .ok (.iadd, 1) := by decide +kernel
theorem dL_law_582 : decode code 582 = .ok (.iaload, 1) := by decide +kernel
theorem dL_law_583 : decode code 583 = .ok (.invokevirtual 61, 3) := by decide +kernel
theorem dL_law_586 : decode code 586 = .ok (.if_icmp .eq 1347, 3) := by decide +kernel
theorem dL_law_591 : decode code 591 = .ok (.aload_n 1, 1) := by decide +kernel
theorem dL_law_592 : decode code 592 = .ok (.aload_n 0, 1) := by decide +kernel
theorem dL_law_593 : decode code 593 = .ok (.iload_n 3, 1) := by decide +kernel
theorem dL_law_594 : decode code 594 = .ok (.iconst 1, 1) := by decide +kernel
theorem dL_law_595 : decode code 595 = .ok (.iadd, 1) := by decide +kernel
theorem dL_law_596 : decode code 596 = .ok (.iaload, 1) := by decide +kernel
theorem dL_law_597 : decode code 597 = .ok (.invokevirtual 62, 3) := by decide +kernel
theorem dL_law_600 : decode code 600 = .ok (.aload_n 2, 1) := by decide +kernel
theorem dL_law_601 : decode code 601 = .ok (.aload_n 0, 1) := by decide +kernel
theorem dL_law_602 : decode code 602 = .ok (.iload_n 3, 1) := by decide +kernel
theorem dL_law_603 : decode code 603 = .ok (.iconst 1, 1) := by decide +kernel
theorem dL_law_604 : decode code 604 = .ok (.iadd, 1) := by decide +kernel
theorem dL_law_605 : decode code 605 = .ok (.iaload, 1) := by decide +kernel
theorem dL_law_606 : decode code 606 = .ok (.invokevirtual 65, 3) := by decide +kernel
theorem dL_law_609 : decode code 609 = .ok (.if_icmp .eq 1324, 3) := by decide +kernel
theorem dL_law_614 : decode code 614 = .ok (.aload_n 1, 1) := by decide +kernel
theorem dL_law_615 : decode code 615 = .ok (.aload_n 0, 1) := by decide +kernel
theorem dL_law_616 : decode code 616 = .ok (.iload_n 3, 1) := by decide +kernel
theorem dL_law_617 : decode code 617 = .ok (.iconst 1, 1) := by decide +kernel
theorem dL_law_618 : decode code 618 = .ok (.iadd, 1) := by decide +kernel
theorem dL_law_619 : decode code 619 = .ok (.iaload, 1) := by decide +kernel
theorem dL_law_620 : decode code 620 = .ok (.invokevirtual 66, 3) := by decide +kernel
theorem dL_law_623 : decode code 623 = .ok (.aload_n 2, 1) := by decide +kernel
theorem dL_law_624 : decode code 624 = .ok (.aload_n 0, 1) := by decide +kernel
theorem dL_law_625 : decode code 625 = .ok (.iload_n 3, 1) := by decide +kernel
theorem dL_law_626 : decode code 626 = .ok (.iconst 1, 1) := by decide +kernel
theorem dL_law_627 : decode code 627 = .ok (.iadd, 1) := by decide +kernel
theorem dL_law_628 : decode code 628 = .ok (.iaload, 1) := by decide +kernel
theorem dL_law_629 : decode code 629 = .ok (.invokevirtual 69, 3) := by decide +kernel
theorem dL_law_632 : decode code 632 = .ok (.if_icmp .eq 1301, 3) := by decide +kernel
theorem dL_law_637 : decode code 637 = .ok (.aload_n 1, 1) := by decide +kernel
theorem dL_law_638 : decode code 638 = .ok (.aload_n 0, 1) := by decide +kernel
theorem dL_law_639 : decode code 639 = .ok (.iload_n 3, 1) := by decide +kernel
theorem dL_law_640 : decode code 640 = .ok (.iconst 1, 1) := by decide +kernel
theorem dL_law_641 : decode code 641 = .ok (.iadd, 1) := by decide +kernel
theorem dL_law_642 : decode code 642 = .ok (.iaload, 1) := by decide +kernel
theorem dL_law_643 : decode code 643 = .ok (.invokevirtual 70, 3) := by decide +kernel
theorem dL_law_646 : decode code 646 = .ok (.aload_n 2, 1) := by decide +kernel
theorem dL_law_647 : decode code 647 = .ok (.aload_n 0, 1) := by decide +kernel
theorem dL_law_648 : decode code 648 = .ok (.iload_n 3, 1) := by decide +kernel
theorem dL_law_649 : decode code 649 = .ok (.iconst 1, 1) := by decide +kernel
theorem dL_law_650 : decode code 650 = .ok (.iadd, 1) := by decide +kernel
theorem dL_law_651 : decode code 651 = .ok (.iaload, 1) := by decide +kernel
theorem dL_law_652 : decode code 652 = .ok (.invokevirtual 73, 3) := by decide +kernel
theorem dL_law_655 : decode code 655 = .ok (.if_icmp .eq 1278, 3) := by decide +kernel
theorem dL_law_660 : decode code 660 = .ok (.aload_n 1, 1) := by decide +kernel
theorem dL_law_661 : decode code 661 = .ok (.aload_n 0, 1) := by decide +kernel
theorem dL_law_662 : decode code 662 = .ok (.iload_n 3, 1) := by decide +kernel
theorem dL_law_663 : decode code 663 = .ok (.iconst 1, 1) := by decide +kernel
theorem dL_law_664 : decode code 664 = .ok (.iadd, 1) := by decide +kernel
theorem dL_law_665 : decode code 665 = .ok (.iaload, 1) := by decide +kernel
theorem dL_law_666 : decode code 666 = .ok (.aload_n 0, 1) := by decide +kernel
theorem dL_law_667 : decode code 667 = .ok (.iload_n 3, 1) := by decide +kernel
theorem dL_law_668 : decode code 668 = .ok (.iconst 2, 1) := by decide +kernel
theorem dL_law_669 : decode code 669 = .ok (.iadd, 1) := by decide +kernel
theorem dL_law_670 : decode code 670 = .ok (.iaload, 1) := by decide +kernel
theorem dL_law_671 : decode code 671 = .ok (.invokevirtual 74, 3) := by decide +kernel
theorem dL_law_674 : decode code 674 = .ok (.aload_n 2, 1) := by decide +kernel
theorem dL_law_675 : decode code 675 = .ok (.aload_n 0, 1) := by decide +kernel
theorem dL_law_676 : decode code 676 = .ok (.iload_n 3, 1) := by decide +kernel
theorem dL_law_677 : decode code 677 = .ok (.iconst 1, 1) := by decide +kernel
theorem dL_law_678 : decode code 678 = .ok (.iadd, 1) := by decide +kernel
theorem dL_law_679 : decode code 679 = .ok (.iaload, 1) := by decide +kernel
theorem dL_law_680 : decode code 680 = .ok (.aload_n 0, 1) := by decide +kernel
theorem dL_law_681 : decode code 681 = .ok (.iload_n 3, 1) := by decide +kernel
theorem dL_law_682 : decode code 682 = .ok (.iconst 2, 1) := by decide +kernel
theorem dL_law_683 : decode code 683 = .ok (.iadd, 1) := by decide +kernel
theorem dL_law_684 : decode code 684 = .ok (.iaload, 1) := by decide +kernel
theorem dL_law_685 : decode code 685 = .ok (.invokevirtual 77, 3) := by decide +kernel
theorem dL_law_688 : decode code 688 = .ok (.if_icmp .eq 1245, 3) := by decide +kernel
theorem dL_law_693 : decode code 693 = .ok (.aload_n 1, 1) := by decide +kernel
theorem dL_law_694 : decode code 694 = .ok (.aload_n 0, 1) := by decide +kernel
theorem dL_law_695 : decode code 695 = .ok (.iload_n 3, 1) := by decide +kernel
theorem dL_law_696 : decode code 696 = .ok (.iconst 1, 1) := by decide +kernel
theorem dL_law_697 : decode code 697 = .ok (.iadd, 1) := by decide +kernel
theorem dL_law_698 : decode code 698 = .ok (.iaload, 1) := by decide +kernel
theorem dL_law_699 : decode code 699 = .ok (.aload_n 0, 1) := by decide +kernel
theorem dL_law_700 : decode code 700 = .ok (.iload_n 3, 1) := by decide +kernel
theorem dL_law_701 : decode code 701 = .ok (.iconst 2, 1) := by decide +kernel
theorem dL_law_702 : decode code 702 = .ok (.iadd, 1) := by decide +kernel
theorem dL_law_703 : decode code 703 = .ok (.iaload, 1) := by decide +kernel
theorem dL_law_704 : decode code 704 = .ok (.aload_n 0, 1) := by decide +kernel
theorem dL_law_705 : decode code 705 = .ok (.iload_n 3, 1) := by decide +kernel
theorem dL_law_706 : decode code 706 = .ok (.iconst 3, 1) := by decide +kernel
theorem dL_law_707 : decode code 707 = .ok (.iadd, 1) := by decide +kernel
theorem dL_law_708 : decode code 708 = .ok (.iaload, 1) := by decide +kernel
theorem dL_law_709 : decode code 709 = .ok (.invokevirtual 78, 3) := by decide +kernel
theorem dL_law_712 : decode code 712 = .ok (.aload_n 2, 1) := by decide +kernel
theorem dL_law_713 : decode code 713 = .ok (.aload_n 0, 1) := by decide +kernel
theorem dL_law_714 : decode code 714 = .ok (.iload_n 3, 1) := by decide +kernel
theorem dL_law_715 : decode code 715 = .ok (.iconst 1, 1) := by decide +kernel
theorem dL_law_716 : decode code 716 = .ok (.iadd, 1) := by decide +kernel
theorem dL_law_717 : decode code 717 = .ok (.iaload, 1) := by decide +kernel
theorem dL_law_718 : decode code 718 = .ok (.aload_n 0, 1) := by decide +kernel
theorem dL_law_719 : decode code 719 = .ok (.iload_n 3, 1) := by decide +kernel
theorem dL_law_720 : decode code 720 = .ok (.iconst 2, 1) := by decide +kernel
theorem dL_law_721 : decode code 721 = .ok (.iadd, 1) := by decide +kernel
theorem dL_law_722 : decode code 722 = .ok (.iaload, 1) := by decide +kernel
theorem dL_law_723 : decode code 723 = .ok (.aload_n 0, 1) := by decide +kernel
theorem dL_law_724 : decode code 724 = .ok (.iload_n 3, 1) := by decide +kernel
theorem dL_law_725 : decode code 725 = .ok (.iconst 3, 1) := by decide +kernel
theorem dL_law_726 : decode code 726 = .ok (.iadd, 1) := by decide +kernel
theorem dL_law_727 : decode code 727 = .ok (.iaload, 1) := by decide +kernel
theorem dL_law_728 : decode code 728 = .ok (.invokevirtual 81, 3) := by decide +kernel
theorem dL_law_731 : decode code 731 = .ok (.if_icmp .eq 1202, 3) := by decide +kernel
theorem dL_law_736 : decode code 736 = .ok (.aload_n 1, 1) := by decide +kernel
theorem dL_law_737 : decode code 737 = .ok (.aload_n 0, 1) := by decide +kernel
theorem dL_law_738 : decode code 738 = .ok (.iload_n 3, 1) := by decide +kernel
theorem dL_law_739 : decode code 739 = .ok (.iconst 1, 1) := by decide +kernel
theorem dL_law_740 : decode code 740 = .ok (.iadd, 1) := by decide +kernel
theorem dL_law_741 : decode code 741 = .ok (.iaload, 1) := by decide +kernel
theorem dL_law_742 : decode code 742 = .ok (.aload_n 0, 1) := by decide +kernel
theorem dL_law_743 : decode code 743 = .ok (.iload_n 3, 1) := by decide +kernel
theorem dL_law_744 : decode code 744 = .ok (.iconst 2, 1) := by decide +kernel
theorem dL_law_745 : decode code 745 = .ok (.iadd, 1) := by decide +kernel
theorem dL_law_746 : decode code 746 = .ok (.iaload, 1) := by decide +kernel
theorem dL_law_747 : decode code 747 = .ok (.invokevirtual 82, 3) := by decide +kernel
theorem dL_law_750 : decode code 750 = .ok (.aload_n 2, 1) := by decide +kernel
theorem dL_law_751 : decode code 751 = .ok (.aload_n 0, 1) := by decide +kernel
theorem dL_law_752 : decode code 752 = .ok (.iload_n 3, 1) := by decide +kernel
theorem dL_law_753 : decode code 753 = .ok (.iconst 1, 1) := by decide +kernel
theorem dL_law_754 : decode code 754 = .ok (.iadd, 1) := by decide +kernel
theorem dL_law_755 : decode code 755 = .ok (.iaload, 1) := by decide +kernel
theorem dL_law_756 : decode code 756 = .ok (.aload_n 0, 1) := by decide +kernel
theorem dL_law_757 : decode code 757 = .ok (.iload_n 3, 1) := by decide +kernel
theorem dL_law_758 : decode code 758 = .ok (.iconst 2, 1) := by decide +kernel
theorem dL_law_759 : decode code 759 = .ok (.iadd, 1) := by decide +kernel
theorem dL_law_760 : decode code 760 = .ok (.iaload, 1) := by decide +kernel
theorem dL_law_761 : decode code 761 = .ok (.invokevirtual 85, 3) := by decide +kernel
theorem dL_law_764 : decode code 764 = .ok (.if_icmp .eq 1169, 3) := by decide +kernel
theorem dL_law_769 : decode code 769 = .ok (.aload_n 1, 1) := by decide +kernel
theorem dL_law_770 : decode code 770 = .ok (.aload_n 0, 1) := by decide +kernel
theorem dL_law_771 : decode code 771 = .ok (.iload_n 3, 1) := by decide +kernel
theorem dL_law_772 : decode code 772 = .ok (.iconst 1, 1) := by decide +kernel
theorem dL_law_773 : decode code 773 = .ok (.iadd, 1) := by decide +kernel
theorem dL_law_774 : decode code 774 = .ok (.iaload, 1) := by decide +kernel
theorem dL_law_775 : decode code 775 = .ok (.invokevirtual 86, 3) := by decide +kernel
theorem dL_law_778 : decode code 778 = .ok (.aload_n 2, 1) := by decide +kernel
theorem dL_law_779 : decode code 779 = .ok (.aload_n 0, 1) := by decide +kernel
theorem dL_law_780 : decode code 780 = .ok (.iload_n 3, 1) := by decide +kernel
theorem dL_law_781 : decode code 781 = .ok (.iconst 1, 1) := by decide +kernel
theorem dL_law_782 : decode code 782 = .ok (.iadd, 1) := by decide +kernel
theorem dL_law_783 : decode code 783 = .ok (.iaload, 1) := by decide +kernel
theorem dL_law_784 : decode code 784 = .ok (.invokevirtual 89, 3) := by decide +kernel
theorem dL_law_787 : decode code 787 = .ok (.if_icmp .eq 1146, 3) := by decide +kernel
theorem dL_law_792 : decode code 792 = .ok (.aload_n 1, 1) := by decide +kernel
theorem dL_law_793 : decode code 793 = .ok (.aload_n 0, 1) := by decide +kernel
theorem dL_law_794 : decode code 794 = .ok (.iload_n 3, 1) := by decide +kernel
theorem dL_law_795 : decode code 795 = .ok (.iconst 1, 1) := by decide +kernel
theorem dL_law_796 : decode code 796 = .ok (.iadd, 1) := by decide +kernel
theorem dL_law_797 : decode code 797 = .ok (.iaload, 1) := by decide +kernel
theorem dL_law_798 : decode code 798 = .ok (.invokevirtual 90, 3) := by decide +kernel
theorem dL_law_801 : decode code 801 = .ok (.aload_n 2, 1) := by decide +kernel
theorem dL_law_802 : decode code 802 = .ok (.aload_n 0, 1) := by decide +kernel
theorem dL_law_803 : decode code 803 = .ok (.iload_n 3, 1) := by decide +kernel
theorem dL_law_804 : decode code 804 = .ok (.iconst 1, 1) := by decide +kernel
theorem dL_law_805 : decode code 805 = .ok (.iadd, 1) := by decide +kernel
theorem dL_law_806 : decode code 806 = .ok (.iaload, 1) := by decide +kernel
theorem dL_law_807 : decode code 807 = .ok (.invokevirtual 93, 3) := by decide +kernel
theorem dL_law_810 : decode code 810 = .ok (.if_icmp .eq 1123, 3) := by decide +kernel
theorem dL_law_815 : decode code 815 = .ok (.aload_n 1, 1) := by decide +kernel
theorem dL_law_816 : decode code 816 = .ok (.aload_n 0, 1) := by decide +kernel
theorem dL_law_817 : decode code 817 = .ok (.iload_n 3, 1) := by decide +kernel
theorem dL_law_818 : decode code 818 = .ok (.iconst 1, 1) := by decide +kernel
theorem dL_law_819 : decode code 819 = .ok (.iadd, 1) := by decide +kernel
theorem dL_law_820 : decode code 820 = .ok (.iaload, 1) := by decide +kernel
theorem dL_law_821 : decode code 821 = .ok (.aload_n 0, 1) := by decide +kernel
theorem dL_law_822 : decode code 822 = .ok (.iload_n 3, 1) := by decide +kernel
theorem dL_law_823 : decode code 823 = .ok (.iconst 2, 1) := by decide +kernel
theorem dL_law_824 : decode code 824 = .ok (.iadd, 1) := by decide +kernel
theorem dL_law_825 : decode code 825 = .ok (.iaload, 1) := by decide +kernel
theorem dL_law_826 : decode code 826 = .ok (.invokevirtual 94, 3) := by decide +kernel
theorem dL_law_829 : decode code 829 = .ok (.aload_n 2, 1) := by decide +kernel
theorem dL_law_830 : decode code 830 = .ok (.aload_n 0, 1) := by decide +kernel
theorem dL_law_831 : decode code 831 = .ok (.iload_n 3, 1) := by decide +kernel
theorem dL_law_832 : decode code 832 = .ok (.iconst 1, 1) := by decide +kernel
theorem dL_law_833 : decode code 833 = .ok (.iadd, 1) := by decide +kernel
theorem dL_law_834 : decode code 834 = .ok (.iaload, 1) := by decide +kernel
theorem dL_law_835 : decode code 835 = .ok (.aload_n 0, 1) := by decide +kernel
theorem dL_law_836 : decode code 836 = .ok (.iload_n 3, 1) := by decide +kernel
theorem dL_law_837 : decode code 837 = .ok (.iconst 2, 1) := by decide +kernel
theorem dL_law_838 : decode code 838 = .ok (.iadd, 1) := by decide +kernel
theorem dL_law_839 : decode code 839 = .ok (.iaload, 1) := by decide +kernel
theorem dL_law_840 : decode code 840 = .ok (.invokevirtual 97, 3) := by decide +kernel
theorem dL_law_843 : decode code 843 = .ok (.if_icmp .eq 1090, 3) := by decide +kernel
theorem dL_law_848 : decode code 848 = .ok (.aload_n 1, 1) := by decide +kernel
theorem dL_law_849 : decode code 849 = .ok (.aload_n 0, 1) := by decide +kernel
theorem dL_law_850 : decode code 850 = .ok (.iload_n 3, 1) := by decide +kernel
theorem dL_law_851 : decode code 851 = .ok (.iconst 1, 1) := by decide +kernel
theorem dL_law_852 : decode code 852 = .ok (.iadd, 1) := by decide +kernel
theorem dL_law_853 : decode code 853 = .ok (.iaload, 1) := by decide +kernel
theorem dL_law_854 : decode code 854 = .ok (.invokevirtual 98, 3) := by decide +kernel
theorem dL_law_857 : decode code 857 = .ok (.aload_n 2, 1) := by decide +kernel
theorem dL_law_858 : decode code 858 = .ok (.aload_n 0, 1) := by decide +kernel
theorem dL_law_859 : decode code 859 = .ok (.iload_n 3, 1) := by decide +kernel
theorem dL_law_860 : decode code 860 = .ok (.iconst 1, 1) := by decide +kernel
theorem dL_law_861 : decode code 861 = .ok (.iadd, 1) := by decide +kernel
theorem dL_law_862 : decode code 862 = .ok (.iaload, 1) := by decide +kernel
theorem dL_law_863 : decode code 863 = .ok (.invokevirtual 101, 3) := by decide +kernel
theorem dL_law_866 : decode code 866 = .ok (.if_icmp .eq 1067, 3) := by decide +kernel
theorem dL_law_871 : decode code 871 = .ok (.aload_n 1, 1) := by decide +kernel
theorem dL_law_872 : decode code 872 = .ok (.aload_n 0, 1) := by decide +kernel
theorem dL_law_873 : decode code 873 = .ok (.iload_n 3, 1) := by decide +kernel
theorem dL_law_874 : decode code 874 = .ok (.iconst 1, 1) := by decide +kernel
theorem dL_law_875 : decode code 875 = .ok (.iadd, 1) := by decide +kernel
theorem dL_law_876 : decode code 876 = .ok (.iaload, 1) := by decide +kernel
theorem dL_law_877 : decode code 877 = .ok (.invokevirtual 102, 3) := by decide +kernel
theorem dL_law_880 : decode code 880 = .ok (.aload_n 2, 1) := by decide +kernel
theorem dL_law_881 : decode code 881 = .ok (.aload_n 0, 1) := by decide +kernel
theorem dL_law_882 : decode code 882 = .ok (.iload_n 3, 1) := by decide +kernel
theorem dL_law_883 : decode code 883 = .ok (.iconst 1, 1) := by decide +kernel
theorem dL_law_884 : decode code 884 = .ok (.iadd, 1) := by decide +kernel
theorem dL_law_885 : decode code 885 = .ok (.iaload, 1) := by decide +kernel
theorem dL_law_886 : decode code 886 = .ok (.invokevirtual 105, 3) := by decide +kernel
theorem dL_law_889 : decode code 889 = .ok (.if_icmp .eq 1044, 3) := by decide +kernel
theorem dL_law_894 : decode code 894 = .ok (.aload_n 1, 1) := by decide +kernel
theorem dL_law_895 : decode code 895 = .ok (.aload_n 0, 1) := by decide +kernel
theorem dL_law_896 : decode code 896 = .ok (.iload_n 3, 1) := by decide +kernel
theorem dL_law_897 : decode code 897 = .ok (.iconst 1, 1) := by decide +kernel
theorem dL_law_898 : decode code 898 = .ok (.iadd, 1) := by decide +kernel
theorem dL_law_899 : decode code 899 = .ok (.iaload, 1) := by decide +kernel
theorem dL_law_900 : decode code 900 = .ok (.invokevirtual 106, 3) := by decide +kernel
theorem dL_law_903 : decode code 903 = .ok (.aload_n 2, 1) := by decide +kernel
theorem dL_law_904 : decode code 904 = .ok (.aload_n 0, 1) := by decide +kernel
theorem dL_law_905 : decode code 905 = .ok (.iload_n 3, 1) := by decide +kernel
theorem dL_law_906 : decode code 906 = .ok (.iconst 1, 1) := by decide +kernel
theorem dL_law_907 : decode code 907 = .ok (.iadd, 1) := by decide +kernel
theorem dL_law_908 : decode code 908 = .ok (.iaload, 1) := by decide +kernel
theorem dL_law_909 : decode code 909 = .ok (.invokevirtual 109, 3) := by decide +kernel
theorem dL_law_912 : decode code 912 = .ok (.if_icmp .eq 1021, 3) := by decide +kernel
theorem dL_law_917 : decode code 917 = .ok (.aload_n 1, 1) := by decide +kernel
theorem dL_law_918 : decode code 918 = .ok (.aload_n 0, 1) := by decide +kernel
theorem dL_law_919 : decode code 919 = .ok (.iload_n 3, 1) := by decide +kernel
theorem dL_law_920 : decode code 920 = .ok (.iconst 1, 1) := by decide +kernel
theorem dL_law_921 : decode code 921 = .ok (.iadd, 1) := by decide +kernel
theorem dL_law_922 : decode code 922 = .ok (.iaload, 1) := by decide +kernel
theorem dL_law_923 : decode code 923 = .ok (.aload_n 0, 1) := by decide +kernel
theorem dL_law_924 : decode code 924 = .ok (.iload_n 3, 1) := by decide +kernel
theorem dL_law_925 : decode code 925 = .ok (.iconst 2, 1) := by decide +kernel
theorem dL_law_926 : decode code 926 = .ok (.iadd, 1) := by decide +kernel
theorem dL_law_927 : decode code 927 = .ok (.iaload, 1) := by decide +kernel
theorem dL_law_928 : decode code 928 = .ok (.invokevirtual 110, 3) := by decide +kernel
theorem dL_law_931 : decode code 931 = .ok (.aload_n 2, 1) := by decide +kernel
theorem dL_law_932 : decode code 932 = .ok (.aload_n 0, 1) := by decide +kernel
theorem dL_law_933 : decode code 933 = .ok (.iload_n 3, 1) := by decide +kernel
theorem dL_law_934 : decode code 934 = .ok (.iconst 1, 1) := by decide +kernel
theorem dL_law_935 : decode code 935 = .ok (.iadd, 1) := by decide +kernel
theorem dL_law_936 : decode code 936 = .ok (.iaload, 1) := by decide +kernel
theorem dL_law_937 : decode code 937 = .ok (.aload_n 0, 1) := by decide +kernel
theorem dL_law_938 : decode code 938 = .ok (.iload_n 3, 1) := by decide +kernel
theorem dL_law_939 : decode code 939 = .ok (.iconst 2, 1) := by decide +kernel
theorem dL_law_940 : decode code 940 = .ok (.iadd, 1) := by decide +kernel
theorem dL_law_941 : decode code 941 = .ok (.iaload, 1) := by decide +kernel
theorem dL_law_942 : decode code 942 = .ok (.invokevirtual 113, 3) := by decide +kernel
theorem dL_law_945 : decode code 945 = .ok (.if_icmp .eq 988, 3) := by decide +kernel
theorem dL_law_950 : decode code 950 = .ok (.aload_n 1, 1) := by decide +kernel
theorem dL_law_951 : decode code 951 = .ok (.aload_n 0, 1) := by decide +kernel
theorem dL_law_952 : decode code 952 = .ok (.iload_n 3, 1) := by decide +kernel
theorem dL_law_953 : decode code 953 = .ok (.iconst 1, 1) := by decide +kernel
theorem dL_law_954 : decode code 954 = .ok (.iadd, 1) := by decide +kernel
theorem dL_law_955 : decode code 955 = .ok (.iaload, 1) := by decide +kernel
theorem dL_law_956 : decode code 956 = .ok (.invokevirtual 114, 3) := by decide +kernel
theorem dL_law_959 : decode code 959 = .ok (.aload_n 2, 1) := by decide +kernel
theorem dL_law_960 : decode code 960 = .ok (.aload_n 0, 1) := by decide +kernel
theorem dL_law_961 : decode code 961 = .ok (.iload_n 3, 1) := by decide +kernel
theorem dL_law_962 : decode code 962 = .ok (.iconst 1, 1) := by decide +kernel
theorem dL_law_963 : decode code 963 = .ok (.iadd, 1) := by decide +kernel
theorem dL_law_964 : decode code 964 = .ok (.iaload, 1) := by decide +kernel
theorem dL_law_965 : decode code 965 = .ok (.invokevirtual 117, 3) := by decide +kernel
theorem dL_law_968 : decode code 968 = .ok (.if_icmp .eq 965, 3) := by decide +kernel
theorem dL_law_973 : decode code 973 = .ok (.aload_n 1, 1) := by decide +kernel
theorem dL_law_974 : decode code 974 = .ok (.aload_n 0, 1) := by decide +kernel
theorem dL_law_975 : decode code 975 = .ok (.iload_n 3, 1) := by decide +kernel
theorem dL_law_976 : decode code 976 = .ok (.iconst 1, 1) := by decide +kernel
theorem dL_law_977 : decode code 977 = .ok (.iadd, 1) := by decide +kernel
theorem dL_law_978 : decode code 978 = .ok (.iaload, 1) := by decide +kernel
theorem dL_law_979 : decode code 979 = .ok (.invokevirtual 118, 3) := by decide +kernel
theorem dL_law_982 : decode code 982 = .ok (.aload_n 2, 1) := by decide +kernel
theorem dL_law_983 : decode code 983 = .ok (.aload_n 0, 1) := by decide +kernel
theorem dL_law_984 : decode code 984 = .ok (.iload_n 3, 1) := by decide +kernel
theorem dL_law_985 : decode code 985 = .ok (.iconst 1, 1) := by decide +kernel
theorem dL_law_986 : decode code 986 = .ok (.iadd, 1) := by decide +kernel
theorem dL_law_987 : decode code 987 = .ok (.iaload, 1) := by decide +kernel
theorem dL_law_988 : decode code 988 = .ok (.invokevirtual 121, 3) := by decide +kernel
theorem dL_law_991 : decode code 991 = .ok (.if_icmp .eq 942, 3) := by decide +kernel
theorem dL_law_996 : decode code 996 = .ok (.aload_n 1, 1) := by decide +kernel
theorem dL_law_997 : decode code 997 = .ok (.aload_n 0, 1) := by decide +kernel
theorem dL_law_998 : decode code 998 = .ok (.iload_n 3, 1) := by decide +kernel
theorem dL_law_999 : decode code 999 = .ok (.iconst 1, 1) := by decide +kernel
theorem dL_law_1000 : decode code 1000 = .ok (.iadd, 1) := by decide +kernel
theorem dL_law_1001 : decode code 1001 = .ok (.iaload, 1) := by decide +kernel
theorem dL_law_1002 : decode code 1002 = .ok (.invokevirtual 122, 3) := by decide +kernel
theorem dL_law_1005 : decode code 1005 = .ok (.aload_n 2, 1) := by decide +kernel
theorem dL_law_1006 : decode code 1006 = .ok (.aload_n 0, 1) := by decide +kernel
theorem dL_law_1007 : decode code 1007 = .ok (.iload_n 3, 1) := by decide +kernel
theorem dL_law_1008 : decode code 1008 = .ok (.iconst 1, 1) := by decide +kernel
theorem dL_law_1009 : decode code 1009 = .ok (.iadd, 1) := by decide +kernel
theorem dL_law_1010 : decode code 1010 = .ok (.iaload, 1) := by decide +kernel
theorem dL_law_1011 : decode code 1011 = .ok (.invokevirtual 125, 3) := by decide +kernel
theorem dL_law_1014 : decode code 1014 = .ok (.if_icmp .eq 919, 3) := by decide +kernel
theorem dL_law_1019 : decode code 1019 = .ok (.aload_n 1, 1) := by decide +kernel
theorem dL_law_1020 : decode code 1020 = .ok (.aload_n 0, 1) := by decide +kernel
theorem dL_law_1021 : decode code 1021 = .ok (.iload_n 3, 1) := by decide +kernel
theorem dL_law_1022 : decode code 1022 = .ok (.iconst 1, 1) := by decide +kernel
theorem dL_law_1023 : decode code 1023 = .ok (.iadd, 1) := by decide +kernel
theorem dL_law_1024 : decode code 1024 = .ok (.iaload, 1) := by decide +kernel
theorem dL_law_1025 : decode code 1025 = .ok (.aload_n 0, 1) := by decide +kernel
theorem dL_law_1026 : decode code 1026 = .ok (.iload_n 3, 1) := by decide +kernel
theorem dL_law_1027 : decode code 1027 = .ok (.iconst 2, 1) := by decide +kernel
theorem dL_law_1028 : decode code 1028 = .ok (.iadd, 1) := by decide +kernel
theorem dL_law_1029 : decode code 1029 = .ok (.iaload, 1) := by decide +kernel
theorem dL_law_1030 : decode code 1030 = .ok (.invokevirtual 126, 3) := by decide +kernel
theorem dL_law_1033 : decode code 1033 = .ok (.aload_n 2, 1) := by decide +kernel
theorem dL_law_1034 : decode code 1034 = .ok (.aload_n 0, 1) := by decide +kernel
theorem dL_law_1035 : decode code 1035 = .ok (.iload_n 3, 1) := by decide +kernel
theorem dL_law_1036 : decode code 1036 = .ok (.iconst 1, 1) := by decide +kernel
theorem dL_law_1037 : decode code 1037 = .ok (.iadd, 1) := by decide +kernel
theorem dL_law_1038 : decode code 1038 = .ok (.iaload, 1) := by decide +kernel
theorem dL_law_1039 : decode code 1039 = .ok (.aload_n 0, 1) := by decide +kernel
theorem dL_law_1040 : decode code 1040 = .ok (.iload_n 3, 1) := by decide +kernel
theorem dL_law_1041 : decode code 1041 = .ok (.iconst 2, 1) := by decide +kernel
theorem dL_law_1042 : decode code 1042 = .ok (.iadd, 1) := by decide +kernel
theorem dL_law_1043 : decode code 1043 = .ok (.iaload, 1) := by decide +kernel
theorem dL_law_1044 : decode code 1044 = .ok (.invokevirtual 129, 3) := by decide +kernel
theorem dL_law_1047 : decode code 1047 = .ok (.if_icmp .eq 886, 3) := by decide +kernel
theorem dL_law_1052 : decode code 1052 = .ok (.aload_n 1, 1) := by decide +kernel
theorem dL_law_1053 : decode code 1053 = .ok (.aload_n 0, 1) := by decide +kernel
theorem dL_law_1054 : decode code 1054 = .ok (.iload_n 3, 1) := by decide +kernel
theorem dL_law_1055 : decode code 1055 = .ok (.iconst 1, 1) := by decide +kernel
theorem dL_law_1056 : decode code 1056 = .ok (.iadd, 1) := by decide +kernel
theorem dL_law_1057 : decode code 1057 = .ok (.iaload, 1) := by decide +kernel
theorem dL_law_1058 : decode code 1058 = .ok (.aload_n 0, 1) := by decide +kernel
theorem dL_law_1059 : decode code 1059 = .ok (.iload_n 3, 1) := by decide +kernel
theorem dL_law_1060 : decode code 1060 = .ok (.iconst 2, 1) := by decide +kernel
theorem dL_law_1061 : decode code 1061 = .ok (.iadd, 1) := by decide +kernel
theorem dL_law_1062 : decode code 1062 = .ok (.iaload, 1) := by decide +kernel
theorem dL_law_1063 : decode code 1063 = .ok (.invokevirtual 130, 3) := by decide +kernel
theorem dL_law_1066 : decode code 1066 = .ok (.aload_n 2, 1) := by decide +kernel
theorem dL_law_1067 : decode code 1067 = .ok (.aload_n 0, 1) := by decide +kernel
theorem dL_law_1068 : decode code 1068 = .ok (.iload_n 3, 1) := by decide +kernel
theorem dL_law_1069 : decode code 1069 = .ok (.iconst 1, 1) := by decide +kernel
theorem dL_law_1070 : decode code 1070 = .ok (.iadd, 1) := by decide +kernel
theorem dL_law_1071 : decode code 1071 = .ok (.iaload, 1) := by decide +kernel
theorem dL_law_1072 : decode code 1072 = .ok (.aload_n 0, 1) := by decide +kernel
theorem dL_law_1073 : decode code 1073 = .ok (.iload_n 3, 1) := by decide +kernel
theorem dL_law_1074 : decode code 1074 = .ok (.iconst 2, 1) := by decide +kernel
theorem dL_law_1075 : decode code 1075 = .ok (.iadd, 1) := by decide +kernel
theorem dL_law_1076 : decode code 1076 = .ok (.iaload, 1) := by decide +kernel
theorem dL_law_1077 : decode code 1077 = .ok (.invokevirtual 133, 3) := by decide +kernel
theorem dL_law_1080 : decode code 1080 = .ok (.if_icmp .eq 853, 3) := by decide +kernel
theorem dL_law_1085 : decode code 1085 = .ok (.aload_n 1, 1) := by decide +kernel
theorem dL_law_1086 : decode code 1086 = .ok (.aload_n 0, 1) := by decide +kernel
theorem dL_law_1087 : decode code 1087 = .ok (.iload_n 3, 1) := by decide +kernel
theorem dL_law_1088 : decode code 1088 = .ok (.iconst 1, 1) := by decide +kernel
theorem dL_law_1089 : decode code 1089 = .ok (.iadd, 1) := by decide +kernel
theorem dL_law_1090 : decode code 1090 = .ok (.iaload, 1) := by decide +kernel
theorem dL_law_1091 : decode code 1091 = .ok (.aload_n 0, 1) := by decide +kernel
theorem dL_law_1092 : decode code 1092 = .ok (.iload_n 3, 1) := by decide +kernel
theorem dL_law_1093 : decode code 1093 = .ok (.iconst 2, 1) := by decide +kernel
theorem dL_law_1094 : decode code 1094 = .ok (.iadd, 1) := by decide +kernel
theorem dL_law_1095 : decode code 1095 = .ok (.iaload, 1) := by decide +kernel
theorem dL_law_1096 : decode code 1096 = .ok (.invokevirtual 134, 3) := by decide +kernel
theorem dL_law_1099 : decode code 1099 = .ok (.aload_n 2, 1) := by decide +kernel
theorem dL_law_1100 : decode code 1100 = .ok (.aload_n 0, 1) := by decide +kernel
theorem dL_law_1101 : decode code 1101 = .ok (.iload_n 3, 1) := by decide +kernel
theorem dL_law_1102 : decode code 1102 = .ok (.iconst 1, 1) := by decide +kernel
theorem dL_law_1103 : decode code 1103 = .ok (.iadd, 1) := by decide +kernel
theorem dL_law_1104 : decode code 1104 = .ok (.iaload, 1) := by decide +kernel
theorem dL_law_1105 : decode code 1105 = .ok (.aload_n 0, 1) := by decide +kernel
theorem dL_law_1106 : decode code 1106 = .ok (.iload_n 3, 1) := by decide +kernel
theorem dL_law_1107 : decode code 1107 = .ok (.iconst 2, 1) := by decide +kernel
theorem dL_law_1108 : decode code 1108 = .ok (.iadd, 1) := by decide +kernel
theorem dL_law_1109 : decode code 1109 = .ok (.iaload, 1) := by decide +kernel
theorem dL_law_1110 : decode code 1110 = .ok (.invokevirtual 137, 3) := by decide +kernel
theorem dL_law_1113 : decode code 1113 = .ok (.if_icmp .eq 820, 3) := by decide +kernel
theorem dL_law_1118 : decode code 1118 = .ok (.aload_n 1, 1) := by decide +kernel
theorem dL_law_1119 : decode code 1119 = .ok (.aload_n 0, 1) := by decide +kernel
theorem dL_law_1120 : decode code 1120 = .ok (.iload_n 3, 1) := by decide +kernel
theorem dL_law_1121 : decode code 1121 = .ok (.iconst 1, 1) := by decide +kernel
theorem dL_law_1122 : decode code 1122 = .ok (.iadd, 1) := by decide +kernel
theorem dL_law_1123 : decode code 1123 = .ok (.iaload, 1) := by decide +kernel
theorem dL_law_1124 : decode code 1124 = .ok (.invokevirtual 138, 3) := by decide +kernel
theorem dL_law_1127 : decode code 1127 = .ok (.aload_n 2, 1) := by decide +kernel
theorem dL_law_1128 : decode code 1128 = .ok (.aload_n 0, 1) := by decide +kernel
theorem dL_law_1129 : decode code 1129 = .ok (.iload_n 3, 1) := by decide +kernel
theorem dL_law_1130 : decode code 1130 = .ok (.iconst 1, 1) := by decide +kernel
theorem dL_law_1131 : decode code 1131 = .ok (.iadd, 1) := by decide +kernel
theorem dL_law_1132 : decode code 1132 = .ok (.iaload, 1) := by decide +kernel
theorem dL_law_1133 : decode code 1133 = .ok (.invokevirtual 141, 3) := by decide +kernel
theorem dL_law_1136 : decode code 1136 = .ok (.if_icmp .eq 797, 3) := by decide +kernel
theorem dL_law_1141 : decode code 1141 = .ok (.aload_n 1, 1) := by decide +kernel
theorem dL_law_1142 : decode code 1142 = .ok (.aload_n 0, 1) := by decide +kernel
theorem dL_law_1143 : decode code 1143 = .ok (.iload_n 3, 1) := by decide +kernel
theorem dL_law_1144 : decode code 1144 = .ok (.iconst 1, 1) := by decide +kernel
theorem dL_law_1145 : decode code 1145 = .ok (.iadd, 1) := by decide +kernel
theorem dL_law_1146 : decode code 1146 = .ok (.iaload, 1) := by decide +kernel
theorem dL_law_1147 : decode code 1147 = .ok (.aload_n 0, 1) := by decide +kernel
theorem dL_law_1148 : decode code 1148 = .ok (.iload_n 3, 1) := by decide +kernel
theorem dL_law_1149 : decode code 1149 = .ok (.iconst 2, 1) := by decide +kernel
theorem dL_law_1150 : decode code 1150 = .ok (.iadd, 1) := by decide +kernel
theorem dL_law_1151 : decode code 1151 = .ok (.iaload, 1) := by decide +kernel
theorem dL_law_1152 : decode code 1152 = .ok (.invokevirtual 142, 3) := by decide +kernel
theorem dL_law_1155 : decode code 1155 = .ok (.aload_n 2, 1) := by decide +kernel
theorem dL_law_1156 : decode code 1156 = .ok (.aload_n 0, 1) := by decide +kernel
theorem dL_law_1157 : decode code 1157 = .ok (.iload_n 3, 1) := by decide +kernel
theorem dL_law_1158 : decode code 1158 = .ok (.iconst 1, 1) := by decide +kernel
theorem dL_law_1159 : decode code 1159 = .ok (.iadd, 1) := by decide +kernel
theorem dL_law_1160 : decode code 1160 = .ok (.iaload, 1) := by decide +kernel
theorem dL_law_1161 : decode code 1161 = .ok (.aload_n 0, 1) := by decide +kernel
theorem dL_law_1162 : decode code 1162 = .ok (.iload_n 3, 1) := by decide +kernel
theorem dL_law_1163 : decode code 1163 = .ok (.iconst 2, 1) := by decide +kernel
theorem dL_law_1164 : decode code 1164 = .ok (.iadd, 1) := by decide +kernel
theorem dL_law_1165 : decode code 1165 = .ok (.iaload, 1) := by decide +kernel
theorem dL_law_1166 : decode code 1166 = .ok (.invokevirtual 145, 3) := by decide +kernel
theorem dL_law_1169 : decode code 1169 = .ok (.if_icmp .eq 764, 3) := by decide +kernel
theorem dL_law_1174 : decode code 1174 = .ok (.aload_n 1, 1) := by decide +kernel
theorem dL_law_1175 : decode code 1175 = .ok (.aload_n 0, 1) := by decide +kernel
theorem dL_law_1176 : decode code 1176 = .ok (.iload_n 3, 1) := by decide +kernel
theorem dL_law_1177 : decode code 1177 = .ok (.iconst 1, 1) := by decide +kernel
theorem dL_law_1178 : decode code 1178 = .ok (.iadd, 1) := by decide +kernel
theorem dL_law_1179 : decode code 1179 = .ok (.iaload, 1) := by decide +kernel
theorem dL_law_1180 : decode code 1180 = .ok (.invokevirtual 146, 3) := by decide +kernel
theorem dL_law_1183 : decode code 1183 = .ok (.aload_n 2, 1) := by decide +kernel
theorem dL_law_1184 : decode code 1184 = .ok (.aload_n 0, 1) := by decide +kernel
theorem dL_law_1185 : decode code 1185 = .ok (.iload_n 3, 1) := by decide +kernel
theorem dL_law_1186 : decode code 1186 = .ok (.iconst 1, 1) := by decide +kernel
theorem dL_law_1187 : decode code 1187 = .ok (.iadd, 1) := by decide +kernel
theorem dL_law_1188 : decode code 1188 = .ok (.iaload, 1) := by decide +kernel
theorem dL_law_1189 : decode code 1189 = .ok (.invokevirtual 149, 3) := by decide +kernel
theorem dL_law_1192 : decode code 1192 = .ok (.if_icmp .eq 741, 3) := by decide +kernel
theorem dL_law_1197 : decode code 1197 = .ok (.aload_n 1, 1) := by decide +kernel
theorem dL_law_1198 : decode code 1198 = .ok (.aload_n 0, 1) := by decide +kernel
theorem dL_law_1199 : decode code 1199 = .ok (.iload_n 3, 1) := by decide +kernel
theorem dL_law_1200 : decode code 1200 = .ok (.iconst 1, 1) := by decide +kernel
theorem dL_law_1201 : decode code 1201 = .ok (.iadd, 1) := by decide +kernel
theorem dL_law_1202 : decode code 1202 = .ok (.iaload, 1) := by decide +kernel
theorem dL_law_1203 : decode code 1203 = .ok (.aload_n 0, 1) := by decide +kernel
theorem dL_law_1204 : decode code 1204 = .ok (.iload_n 3, 1) := by decide +kernel
theorem dL_law_1205 : decode code 1205 = .ok (.iconst 2, 1) := by decide +kernel
theorem dL_law_1206 : decode code 1206 = .ok (.iadd, 1) := by decide +kernel
theorem dL_law_1207 : decode code 1207 = .ok (.iaload, 1) := by decide +kernel
theorem dL_law_1208 : decode code 1208 = .ok (.aload_n 0, 1) := by decide +kernel
theorem dL_law_1209 : decode code 1209 = .ok (.iload_n 3, 1) := by decide +kernel
theorem dL_law_1210 : decode code 1210 = .ok (.iconst 3, 1) := by decide +kernel
theorem dL_law_1211 : decode code 1211 = .ok (.iadd, 1) := by decide +kernel
theorem dL_law_1212 : decode code 1212 = .ok (.iaload, 1) := by decide +kernel
theorem dL_law_1213 : decode code 1213 = .ok (.invokevirtual 150, 3) := by decide +kernel
theorem dL_law_1216 : decode code 1216 = .ok (.aload_n 2, 1) := by decide +kernel
theorem dL_law_1217 : decode code 1217 = .ok (.aload_n 0, 1) := by decide +kernel
theorem dL_law_1218 : decode code 1218 = .ok (.iload_n 3, 1) := by decide +kernel
theorem dL_law_1219 : decode code 1219 = .ok (.iconst 1, 1) := by decide +kernel
theorem dL_law_1220 : decode code 1220 = .ok (.iadd, 1) := by decide +kernel
theorem dL_law_1221 : decode code 1221 = .ok (.iaload, 1) := by decide +kernel
theorem dL_law_1222 : decode code 1222 = .ok (.aload_n 0, 1) := by decide +kernel
theorem dL_law_1223 : decode code 1223 = .ok (.iload_n 3, 1) := by decide +kernel
theorem dL_law_1224 : decode code 1224 = .ok (.iconst 2, 1) := by decide +kernel
theorem dL_law_1225 : decode code 1225 = .ok (.iadd, 1) := by decide +kernel
theorem dL_law_1226 : decode code 1226 = .ok (.iaload, 1) := by decide +kernel
theorem dL_law_1227 : decode code 1227 = .ok (.aload_n 0, 1) := by decide +kernel
theorem dL_law_1228 : decode code 1228 = .ok (.iload_n 3, 1) := by decide +kernel
theorem dL_law_1229 : decode code 1229 = .ok (.iconst 3, 1) := by decide +kernel
theorem dL_law_1230 : decode code 1230 = .ok (.iadd, 1) := by decide +kernel
theorem dL_law_1231 : decode code 1231 = .ok (.iaload, 1) := by decide +kernel
theorem dL_law_1232 : decode code 1232 = .ok (.invokevirtual 153, 3) := by decide +kernel
theorem dL_law_1235 : decode code 1235 = .ok (.if_icmp .eq 698, 3) := by decide +kernel
theorem dL_law_1240 : decode code 1240 = .ok (.aload_n 1, 1) := by decide +kernel
theorem dL_law_1241 : decode code 1241 = .ok (.aload_n 0, 1) := by decide +kernel
theorem dL_law_1242 : decode code 1242 = .ok (.iload_n 3, 1) := by decide +kernel
theorem dL_law_1243 : decode code 1243 = .ok (.iconst 1, 1) := by decide +kernel
theorem dL_law_1244 : decode code 1244 = .ok (.iadd, 1) := by decide +kernel
theorem dL_law_1245 : decode code 1245 = .ok (.iaload, 1) := by decide +kernel
theorem dL_law_1246 : decode code 1246 = .ok (.aload_n 0, 1) := by decide +kernel
theorem dL_law_1247 : decode code 1247 = .ok (.iload_n 3, 1) := by decide +kernel
theorem dL_law_1248 : decode code 1248 = .ok (.iconst 2, 1) := by decide +kernel
theorem dL_law_1249 : decode code 1249 = .ok (.iadd, 1) := by decide +kernel
theorem dL_law_1250 : decode code 1250 = .ok (.iaload, 1) := by decide +kernel
theorem dL_law_1251 : decode code 1251 = .ok (.invokevirtual 154, 3) := by decide +kernel
theorem dL_law_1254 : decode code 1254 = .ok (.aload_n 2, 1) := by decide +kernel
theorem dL_law_1255 : decode code 1255 = .ok (.aload_n 0, 1) := by decide +kernel
theorem dL_law_1256 : decode code 1256 = .ok (.iload_n 3, 1) := by decide +kernel
theorem dL_law_1257 : decode code 1257 = .ok (.iconst 1, 1) := by decide +kernel
theorem dL_law_1258 : decode code 1258 = .ok (.iadd, 1) := by decide +kernel
theorem dL_law_1259 : decode code 1259 = .ok (.iaload, 1) := by decide +kernel
theorem dL_law_1260 : decode code 1260 = .ok (.aload_n 0, 1) := by decide +kernel
theorem dL_law_1261 : decode code 1261 = .ok (.iload_n 3, 1) := by decide +kernel
theorem dL_law_1262 : decode code 1262 = .ok (.iconst 2, 1) := by decide +kernel
theorem dL_law_1263 : decode code 1263 = .ok (.iadd, 1) := by decide +kernel
theorem dL_law_1264 : decode code 1264 = .ok (.iaload, 1) := by decide +kernel
theorem dL_law_1265 : decode code 1265 = .ok (.invokevirtual 157, 3) := by decide +kernel
theorem dL_law_1268 : decode code 1268 = .ok (.if_icmp .eq 665, 3) := by decide +kernel
theorem dL_law_1273 : decode code 1273 = .ok (.aload_n 1, 1) := by decide +kernel
theorem dL_law_1274 : decode code 1274 = .ok (.aload_n 0, 1) := by decide +kernel
theorem dL_law_1275 : decode code 1275 = .ok (.iload_n 3, 1) := by decide +kernel
theorem dL_law_1276 : decode code 1276 = .ok (.iconst 1, 1) := by decide +kernel
theorem dL_law_1277 : decode code 1277 = .ok (.iadd, 1) := by decide +kernel
theorem dL_law_1278 : decode code 1278 = .ok (.iaload, 1) := by decide +kernel
theorem dL_law_1279 : decode code 1279 = .ok (.invokevirtual 158, 3) := by decide +kernel
theorem dL_law_1282 : decode code 1282 = .ok (.aload_n 2, 1) := by decide +kernel
theorem dL_law_1283 : decode code 1283 = .ok (.aload_n 0, 1) := by decide +kernel
theorem dL_law_1284 : decode code 1284 = .ok (.iload_n 3, 1) := by decide +kernel
theorem dL_law_1285 : decode code 1285 = .ok (.iconst 1, 1) := by decide +kernel
theorem dL_law_1286 : decode code 1286 = .ok (.iadd, 1) := by decide +kernel
theorem dL_law_1287 : decode code 1287 = .ok (.iaload, 1) := by decide +kernel
theorem dL_law_1288 : decode code 1288 = .ok (.invokevirtual 161, 3) := by decide +kernel
theorem dL_law_1291 : decode code 1291 = .ok (.if_icmp .eq 642, 3) := by decide +kernel
theorem dL_law_1296 : decode code 1296 = .ok (.aload_n 1, 1) := by decide +kernel
theorem dL_law_1297 : decode code 1297 = .ok (.aload_n 0, 1) := by decide +kernel
theorem dL_law_1298 : decode code 1298 = .ok (.iload_n 3, 1) := by decide +kernel
theorem dL_law_1299 : decode code 1299 = .ok (.iconst 1, 1) := by decide +kernel
theorem dL_law_1300 : decode code 1300 = .ok (.iadd, 1) := by decide +kernel
theorem dL_law_1301 : decode code 1301 = .ok (.iaload, 1) := by decide +kernel
theorem dL_law_1302 : decode code 1302 = .ok (.invokevirtual 162, 3) := by decide +kernel
theorem dL_law_1305 : decode code 1305 = .ok (.aload_n 2, 1) := by decide +kernel
theorem dL_law_1306 : decode code 1306 = .ok (.aload_n 0, 1) := by decide +kernel
theorem dL_law_1307 : decode code 1307 = .ok (.iload_n 3, 1) := by decide +kernel
theorem dL_law_1308 : decode code 1308 = .ok (.iconst 1, 1) := by decide +kernel
theorem dL_law_1309 : decode code 1309 = .ok (.iadd, 1) := by decide +kernel
theorem dL_law_1310 : decode code 1310 = .ok (.iaload, 1) := by decide +kernel
theorem dL_law_1311 : decode code 1311 = .ok (.invokevirtual 165, 3) := by decide +kernel
theorem dL_law_1314 : decode code 1314 = .ok (.if_icmp .eq 619, 3) := by decide +kernel
theorem dL_law_1319 : decode code 1319 = .ok (.aload_n 1, 1) := by decide +kernel
theorem dL_law_1320 : decode code 1320 = .ok (.aload_n 0, 1) := by decide +kernel
theorem dL_law_1321 : decode code 1321 = .ok (.iload_n 3, 1) := by decide +kernel
theorem dL_law_1322 : decode code 1322 = .ok (.iconst 1, 1) := by decide +kernel
theorem dL_law_1323 : decode code 1323 = .ok (.iadd, 1) := by decide +kernel
theorem dL_law_1324 : decode code 1324 = .ok (.iaload, 1) := by decide +kernel
theorem dL_law_1325 : decode code 1325 = .ok (.aload_n 0, 1) := by decide +kernel
theorem dL_law_1326 : decode code 1326 = .ok (.iload_n 3, 1) := by decide +kernel
theorem dL_law_1327 : decode code 1327 = .ok (.iconst 2, 1) := by decide +kernel
theorem dL_law_1328 : decode code 1328 = .ok (.iadd, 1) := by decide +kernel
theorem dL_law_1329 : decode code 1329 = .ok (.iaload, 1) := by decide +kernel
theorem dL_law_1330 : decode code 1330 = .ok (.aload_n 0, 1) := by decide +kernel
theorem dL_law_1331 : decode code 1331 = .ok (.iload_n 3, 1) := by decide +kernel
theorem dL_law_1332 : decode code 1332 = .ok (.iconst 3, 1) := by decide +kernel
theorem dL_law_1333 : decode code 1333 = .ok (.iadd, 1) := by decide +kernel
theorem dL_law_1334 : decode code 1334 = .ok (.iaload, 1) := by decide +kernel
theorem dL_law_1335 : decode code 1335 = .ok (.invokevirtual 166, 3) := by decide +kernel
theorem dL_law_1338 : decode code 1338 = .ok (.aload_n 2, 1) := by decide +kernel
theorem dL_law_1339 : decode code 1339 = .ok (.aload_n 0, 1) := by decide +kernel
theorem dL_law_1340 : decode code 1340 = .ok (.iload_n 3, 1) := by decide +kernel
theorem dL_law_1341 : decode code 1341 = .ok (.iconst 1, 1) := by decide +kernel
theorem dL_law_1342 : decode code 1342 = .ok (.iadd, 1) := by decide +kernel
theorem dL_law_1343 : decode code 1343 = .ok (.iaload, 1) := by decide +kernel
theorem dL_law_1344 : decode code 1344 = .ok (.aload_n 0, 1) := by decide +kernel
theorem dL_law_1345 : decode code 1345 = .ok (.iload_n 3, 1) := by decide +kernel
theorem dL_law_1346 : decode code 1346 = .ok (.iconst 2, 1) := by decide +kernel
theorem dL_law_1347 : decode code 1347 = .ok (.iadd, 1) := by decide +kernel
theorem dL_law_1348 : decode code 1348 = .ok (.iaload, 1) := by decide +kernel
theorem dL_law_1349 : decode code 1349 = .ok (.aload_n 0, 1) := by decide +kernel
theorem dL_law_1350 : decode code 1350 = .ok (.iload_n 3, 1) := by decide +kernel
theorem dL_law_1351 : decode code 1351 = .ok (.iconst 3, 1) := by decide +kernel
theorem dL_law_1352 : decode code 1352 = .ok (.iadd, 1) := by decide +kernel
theorem dL_law_1353 : decode code 1353 = .ok (.iaload, 1) := by decide +kernel
theorem dL_law_1354 : decode code 1354 = .ok (.invokevirtual 169, 3) := by decide +kernel
theorem dL_law_1357 : decode code 1357 = .ok (.if_icmp .eq 576, 3) := by decide +kernel
theorem dL_law_1362 : decode code 1362 = .ok (.aload_n 1, 1) := by decide +kernel
theorem dL_law_1363 : decode code 1363 = .ok (.invokevirtual 170, 3) := by decide +kernel
theorem dL_law_1366 : decode code 1366 = .ok (.aload_n 2, 1) := by decide +kernel
theorem dL_law_1367 : decode code 1367 = .ok (.invokevirtual 173, 3) := by decide +kernel
theorem dL_law_1370 : decode code 1370 = .ok (.if_icmp .eq 563, 3) := by decide +kernel
theorem dL_law_1375 : decode code 1375 = .ok (.aload_n 1, 1) := by decide +kernel
theorem dL_law_1376 : decode code 1376 = .ok (.aload_n 0, 1) := by decide +kernel
theorem dL_law_1377 : decode code 1377 = .ok (.iload_n 3, 1) := by decide +kernel
theorem dL_law_1378 : decode code 1378 = .ok (.iconst 1, 1) := by decide +kernel
theorem dL_law_1379 : decode code 1379 = .ok (.iadd, 1) := by decide +kernel
theorem dL_law_1380 : decode code 1380 = .ok (.iaload, 1) := by decide +kernel
theorem dL_law_1381 : decode code 1381 = .ok (.invokevirtual 174, 3) := by decide +kernel
theorem dL_law_1384 : decode code 1384 = .ok (.aload_n 2, 1) := by decide +kernel
theorem dL_law_1385 : decode code 1385 = .ok (.aload_n 0, 1) := by decide +kernel
theorem dL_law_1386 : decode code 1386 = .ok (.iload_n 3, 1) := by decide +kernel
theorem dL_law_1387 : decode code 1387 = .ok (.iconst 1, 1) := by decide +kernel
theorem dL_law_1388 : decode code 1388 = .ok (.iadd, 1) := by decide +kernel
theorem dL_law_1389 : decode code 1389 = .ok (.iaload, 1) := by decide +kernel
theorem dL_law_1390 : decode code 1390 = .ok (.invokevirtual 177, 3) := by decide +kernel
theorem dL_law_1393 : decode code 1393 = .ok (.if_icmp .eq 540, 3) := by decide +kernel
theorem dL_law_1398 : decode code 1398 = .ok (.aload_n 1, 1) := by decide +kernel
theorem dL_law_1399 : decode code 1399 = .ok (.aload_n 0, 1) := by decide +kernel
theorem dL_law_1400 : decode code 1400 = .ok (.iload_n 3, 1) := by decide +kernel
theorem dL_law_1401 : decode code 1401 = .ok (.iconst 1, 1) := by decide +kernel
theorem dL_law_1402 : decode code 1402 = .ok (.iadd, 1) := by decide +kernel
theorem dL_law_1403 : decode code 1403 = .ok (.iaload, 1) := by decide +kernel
theorem dL_law_1404 : decode code 1404 = .ok (.aload_n 0, 1) := by decide +kernel
theorem dL_law_1405 : decode code 1405 = .ok (.iload_n 3, 1) := by decide +kernel
theorem dL_law_1406 : decode code 1406 = .ok (.iconst 2, 1) := by decide +kernel
theorem dL_law_1407 : decode code 1407 = .ok (.iadd, 1) := by decide +kernel
theorem dL_law_1408 : decode code 1408 = .ok (.iaload, 1) := by decide +kernel
theorem dL_law_1409 : decode code 1409 = .ok (.aload_n 0, 1) := by decide +kernel
theorem dL_law_1410 : decode code 1410 = .ok (.iload_n 3, 1) := by decide +kernel
theorem dL_law_1411 : decode code 1411 = .ok (.iconst 3, 1) := by decide +kernel
theorem dL_law_1412 : decode code 1412 = .ok (.iadd, 1) := by decide +kernel
theorem dL_law_1413 : decode code 1413 = .ok (.iaload, 1) := by decide +kernel
theorem dL_law_1414 : decode code 1414 = .ok (.invokevirtual 178, 3) := by decide +kernel
theorem dL_law_1417 : decode code 1417 = .ok (.aload_n 2, 1) := by decide +kernel
theorem dL_law_1418 : decode code 1418 = .ok (.aload_n 0, 1) := by decide +kernel
theorem dL_law_1419 : decode code 1419 = .ok (.iload_n 3, 1) := by decide +kernel
theorem dL_law_1420 : decode code 1420 = .ok (.iconst 1, 1) := by decide +kernel
theorem dL_law_1421 : decode code 1421 = .ok (.iadd, 1) := by decide +kernel
theorem dL_law_1422 : decode code 1422 = .ok (.iaload, 1) := by decide +kernel
theorem dL_law_1423 : decode code 1423 = .ok (.aload_n 0, 1) := by decide +kernel
theorem dL_law_1424 : decode code 1424 = .ok (.iload_n 3, 1) := by decide +kernel
theorem dL_law_1425 : decode code 1425 = .ok (.iconst 2, 1) := by decide +kernel
theorem dL_law_1426 : decode code 1426 = .ok (.iadd, 1) := by decide +kernel
theorem dL_law_1427 : decode code 1427 = .ok (.iaload, 1) := by decide +kernel
theorem dL_law_1428 : decode code 1428 = .ok (.aload_n 0, 1) := by decide +kernel
theorem dL_law_1429 : decode code 1429 = .ok (.iload_n 3, 1) := by decide +kernel
theorem dL_law_1430 : decode code 1430 = .ok (.iconst 3, 1) := by decide +kernel
theorem dL_law_1431 : decode code 1431 = .ok (.iadd, 1) := by decide +kernel
theorem dL_law_1432 : decode code 1432 = .ok (.iaload, 1) := by decide +kernel
theorem dL_law_1433 : decode code 1433 = .ok (.invokevirtual 181, 3) := by decide +kernel
theorem dL_law_1436 : decode code 1436 = .ok (.if_icmp .eq 497, 3) := by decide +kernel
theorem dL_law_1441 : decode code 1441 = .ok (.aload_n 1, 1) := by decide +kernel
theorem dL_law_1442 : decode code 1442 = .ok (.aload_n 0, 1) := by decide +kernel
theorem dL_law_1443 : decode code 1443 = .ok (.iload_n 3, 1) := by decide +kernel
theorem dL_law_1444 : decode code 1444 = .ok (.iconst 1, 1) := by decide +kernel
theorem dL_law_1445 : decode code 1445 = .ok (.iadd, 1) := by decide +kernel
theorem dL_law_1446 : decode code 1446 = .ok (.iaload, 1) := by decide +kernel
theorem dL_law_1447 : decode code 1447 = .ok (.aload_n 0, 1) := by decide +kernel
theorem dL_law_1448 : decode code 1448 = .ok (.iload_n 3, 1) := by decide +kernel
theorem dL_law_1449 : decode code 1449 = .ok (.iconst 2, 1) := by decide +kernel
theorem dL_law_1450 : decode code 1450 = .ok (.iadd, 1) := by decide +kernel
theorem dL_law_1451 : decode code 1451 = .ok (.iaload, 1) := by decide +kernel
theorem dL_law_1452 : decode code 1452 = .ok (.invokevirtual 182, 3) := by decide +kernel
theorem dL_law_1455 : decode code 1455 = .ok (.aload_n 2, 1) := by decide +kernel
theorem dL_law_1456 : decode code 1456 = .ok (.aload_n 0, 1) := by decide +kernel
theorem dL_law_1457 : decode code 1457 = .ok (.iload_n 3, 1) := by decide +kernel
theorem dL_law_1458 : decode code 1458 = .ok (.iconst 1, 1) := by decide +kernel
theorem dL_law_1459 : decode code 1459 = .ok (.iadd, 1) := by decide +kernel
theorem dL_law_1460 : decode code 1460 = .ok (.iaload, 1) := by decide +kernel
theorem dL_law_1461 : decode code 1461 = .ok (.aload_n 0, 1) := by decide +kernel
theorem dL_law_1462 : decode code 1462 = .ok (.iload_n 3, 1) := by decide +kernel
theorem dL_law_1463 : decode code 1463 = .ok (.iconst 2, 1) := by decide +kernel
theorem dL_law_1464 : decode code 1464 = .ok (.iadd, 1) := by decide +kernel
theorem dL_law_1465 : decode code 1465 = .ok (.iaload, 1) := by decide +kernel
theorem dL_law_1466 : decode code 1466 = .ok (.invokevirtual 185, 3) := by decide +kernel
theorem dL_law_1469 : decode code 1469 = .ok (.if_icmp .eq 464, 3) := by decide +kernel
theorem dL_law_1474 : decode code 1474 = .ok (.aload_n 1, 1) := by decide +kernel
theorem dL_law_1475 : decode code 1475 = .ok (.aload_n 0, 1) := by decide +kernel
theorem dL_law_1476 : decode code 1476 = .ok (.iload_n 3, 1) := by decide +kernel
theorem dL_law_1477 : decode code 1477 = .ok (.iconst 1, 1) := by decide +kernel
theorem dL_law_1478 : decode code 1478 = .ok (.iadd, 1) := by decide +kernel
theorem dL_law_1479 : decode code 1479 = .ok (.iaload, 1) := by decide +kernel
theorem dL_law_1480 : decode code 1480 = .ok (.invokevirtual 186, 3) := by decide +kernel
theorem dL_law_1483 : decode code 1483 = .ok (.aload_n 2, 1) := by decide +kernel
theorem dL_law_1484 : decode code 1484 = .ok (.aload_n 0, 1) := by decide +kernel
theorem dL_law_1485 : decode code 1485 = .ok (.iload_n 3, 1) := by decide +kernel
theorem dL_law_1486 : decode code 1486 = .ok (.iconst 1, 1) := by decide +kernel
theorem dL_law_1487 : decode code 1487 = .ok (.iadd, 1) := by decide +kernel
theorem dL_law_1488 : decode code 1488 = .ok (.iaload, 1) := by decide +kernel
theorem dL_law_1489 : decode code 1489 = .ok (.invokevirtual 189, 3) := by decide +kernel
theorem dL_law_1492 : decode code 1492 = .ok (.if_icmp .eq 441, 3) := by decide +kernel
theorem dL_law_1497 : decode code 1497 = .ok (.aload_n 1, 1) := by decide +kernel
theorem dL_law_1498 : decode code 1498 = .ok (.aload_n 0, 1) := by decide +kernel
theorem dL_law_1499 : decode code 1499 = .ok (.iload_n 3, 1) := by decide +kernel
theorem dL_law_1500 : decode code 1500 = .ok (.iconst 1, 1) := by decide +kernel
theorem dL_law_1501 : decode code 1501 = .ok (.iadd, 1) := by decide +kernel
theorem dL_law_1502 : decode code 1502 = .ok (.iaload, 1) := by decide +kernel
theorem dL_law_1503 : decode code 1503 = .ok (.aload_n 0, 1) := by decide +kernel
theorem dL_law_1504 : decode code 1504 = .ok (.iload_n 3, 1) := by decide +kernel
theorem dL_law_1505 : decode code 1505 = .ok (.iconst 2, 1) := by decide +kernel
theorem dL_law_1506 : decode code 1506 = .ok (.iadd, 1) := by decide +kernel
theorem dL_law_1507 : decode code 1507 = .ok (.iaload, 1) := by decide +kernel
theorem dL_law_1508 : decode code 1508 = .ok (.invokevirtual 190, 3) := by decide +kernel
theorem dL_law_1511 : decode code 1511 = .ok (.aload_n 2, 1) := by decide +kernel
theorem dL_law_1512 : decode code 1512 = .ok (.aload_n 0, 1) := by decide +kernel
theorem dL_law_1513 : decode code 1513 = .ok (.iload_n 3, 1) := by decide +kernel
theorem dL_law_1514 : decode code 1514 = .ok (.iconst 1, 1) := by decide +kernel
theorem dL_law_1515 : decode code 1515 = .ok (.iadd, 1) := by decide +kernel
theorem dL_law_1516 : decode code 1516 = .ok (.iaload, 1) := by decide +kernel
theorem dL_law_1517 : decode code 1517 = .ok (.aload_n 0, 1) := by decide +kernel
theorem dL_law_1518 : decode code 1518 = .ok (.iload_n 3, 1) := by decide +kernel
theorem dL_law_1519 : decode code 1519 = .ok (.iconst 2, 1) := by decide +kernel
theorem dL_law_1520 : decode code 1520 = .ok (.iadd, 1) := by decide +kernel
theorem dL_law_1521 : decode code 1521 = .ok (.iaload, 1) := by decide +kernel
theorem dL_law_1522 : decode code 1522 = .ok (.invokevirtual 193, 3) := by decide +kernel
theorem dL_law_1525 : decode code 1525 = .ok (.if_icmp .eq 408, 3) := by decide +kernel
theorem dL_law_1530 : decode code 1530 = .ok (.aload_n 1, 1) := by decide +kernel
theorem dL_law_1531 : decode code 1531 = .ok (.aload_n 0, 1) := by decide +kernel
theorem dL_law_1532 : decode code 1532 = .ok (.iload_n 3, 1) := by decide +kernel
theorem dL_law_1533 : decode code 1533 = .ok (.iconst 1, 1) := by decide +kernel
theorem dL_law_1534 : decode code 1534 = .ok (.iadd, 1) := by decide +kernel
theorem dL_law_1535 : decode code 1535 = .ok (.iaload, 1) := by decide +kernel
theorem dL_law_1536 : decode code 1536 = .ok (.aload_n 0, 1) := by decide +kernel
theorem dL_law_1537 : decode code 1537 = .ok (.iload_n 3, 1) := by decide +kernel
theorem dL_law_1538 : decode code 1538 = .ok (.iconst 2, 1) := by decide +kernel
theorem dL_law_1539 : decode code 1539 = .ok (.iadd, 1) := by decide +kernel
theorem dL_law_1540 : decode code 1540 = .ok (.iaload, 1) := by decide +kernel
theorem dL_law_1541 : decode code 1541 = .ok (.invokevirtual 194, 3) := by decide +kernel
theorem dL_law_1544 : decode code 1544 = .ok (.aload_n 2, 1) := by decide +kernel
theorem dL_law_1545 : decode code 1545 = .ok (.aload_n 0, 1) := by decide +kernel
theorem dL_law_1546 : decode code 1546 = .ok (.iload_n 3, 1) := by decide +kernel
theorem dL_law_1547 : decode code 1547 = .ok (.iconst 1, 1) := by decide +kernel
theorem dL_law_1548 : decode code 1548 = .ok (.iadd, 1) := by decide +kernel
theorem dL_law_1549 : decode code 1549 = .ok (.iaload, 1) := by decide +kernel
theorem dL_law_1550 : decode code 1550 = .ok (.aload_n 0, 1) := by decide +kernel
theorem dL_law_1551 : decode code 1551 = .ok (.iload_n 3, 1) := by decide +kernel
theorem dL_law_1552 : decode code 1552 = .ok (.iconst 2, 1) := by decide +kernel
theorem dL_law_1553 : decode code 1553 = .ok (.iadd, 1) := by decide +kernel
theorem dL_law_1554 : decode code 1554 = .ok (.iaload, 1) := by decide +kernel
theorem dL_law_1555 : decode code 1555 = .ok (.invokevirtual 197, 3) := by decide +kernel
theorem dL_law_1558 : decode code 1558 = .ok (.if_icmp .eq 375, 3) := by decide +kernel
theorem dL_law_1563 : decode code 1563 = .ok (.aload_n 1, 1) := by decide +kernel
theorem dL_law_1564 : decode code 1564 = .ok (.aload_n 0, 1) := by decide +kernel
theorem dL_law_1565 : decode code 1565 = .ok (.iload_n 3, 1) := by decide +kernel
theorem dL_law_1566 : decode code 1566 = .ok (.iconst 1, 1) := by decide +kernel
theorem dL_law_1567 : decode code 1567 = .ok (.iadd, 1) := by decide +kernel
theorem dL_law_1568 : decode code 1568 = .ok (.iaload, 1) := by decide +kernel
theorem dL_law_1569 : decode code 1569 = .ok (.invokevirtual 198, 3) := by decide +kernel
theorem dL_law_1572 : decode code 1572 = .ok (.aload_n 2, 1) := by decide +kernel
theorem dL_law_1573 : decode code 1573 = .ok (.aload_n 0, 1) := by decide +kernel
theorem dL_law_1574 : decode code 1574 = .ok (.iload_n 3, 1) := by decide +kernel
theorem dL_law_1575 : decode code 1575 = .ok (.iconst 1, 1) := by decide +kernel
theorem dL_law_1576 : decode code 1576 = .ok (.iadd, 1) := by decide +kernel
theorem dL_law_1577 : decode code 1577 = .ok (.iaload, 1) := by decide +kernel
theorem dL_law_1578 : decode code 1578 = .ok (.invokevirtual 201, 3) := by decide +kernel
theorem dL_law_1581 : decode code 1581 = .ok (.if_icmp .eq 352, 3) := by decide +kernel
theorem dL_law_1586 : decode code 1586 = .ok (.aload_n 1, 1) := by decide +kernel
theorem dL_law_1587 : decode code 1587 = .ok (.aload_n 0, 1) := by decide +kernel
theorem dL_law_1588 : decode code 1588 = .ok (.iload_n 3, 1) := by decide +kernel
theorem dL_law_1589 : decode code 1589 = .ok (.iconst 1, 1) := by decide +kernel
theorem dL_law_1590 : decode code 1590 = .ok (.iadd, 1) := by decide +kernel
theorem dL_law_1591 : decode code 1591 = .ok (.iaload, 1) := by decide +kernel
theorem dL_law_1592 : decode code 1592 = .ok (.aload_n 0, 1) := by decide +kernel
theorem dL_law_1593 : decode code 1593 = .ok (.iload_n 3, 1) := by decide +kernel
theorem dL_law_1594 : decode code 1594 = .ok (.iconst 2, 1) := by decide +kernel
theorem dL_law_1595 : decode code 1595 = .ok (.iadd, 1) := by decide +kernel
theorem dL_law_1596 : decode code 1596 = .ok (.iaload, 1) := by decide +kernel
theorem dL_law_1597 : decode code 1597 = .ok (.invokevirtual 202, 3) := by decide +kernel
theorem dL_law_1600 : decode code 1600 = .ok (.aload_n 2, 1) := by decide +kernel
theorem dL_law_1601 : decode code 1601 = .ok (.aload_n 0, 1) := by decide +kernel
theorem dL_law_1602 : decode code 1602 = .ok (.iload_n 3, 1) := by decide +kernel
theorem dL_law_1603 : decode code 1603 = .ok (.iconst 1, 1) := by decide +kernel
theorem dL_law_1604 : decode code 1604 = .ok (.iadd, 1) := by decide +kernel
theorem dL_law_1605 : decode code 1605 = .ok (.iaload, 1) := by decide +kernel
theorem dL_law_1606 : decode code 1606 = .ok (.aload_n 0, 1) := by decide +kernel
theorem dL_law_1607 : decode code 1607 = .ok (.iload_n 3, 1) := by decide +kernel
theorem dL_law_1608 : decode code 1608 = .ok (.iconst 2, 1) := by decide +kernel
theorem dL_law_1609 : decode code 1609 = .ok (.iadd, 1) := by decide +kernel
theorem dL_law_1610 : decode code 1610 = .ok (.iaload, 1) := by decide +kernel
theorem dL_law_1611 : decode code 1611 = .ok (.invokevirtual 205, 3) := by decide +kernel
theorem dL_law_1614 : decode code 1614 = .ok (.if_icmp .eq 319, 3) := by decide +kernel
theorem dL_law_1619 : decode code 1619 = .ok (.aload_n 1, 1) := by decide +kernel
theorem dL_law_1620 : decode code 1620 = .ok (.aload_n 0, 1) := by decide +kernel
theorem dL_law_1621 : decode code 1621 = .ok (.iload_n 3, 1) := by decide +kernel
theorem dL_law_1622 : decode code 1622 = .ok (.iconst 1, 1) := by decide +kernel
theorem dL_law_1623 : decode code 1623 = .ok (.iadd, 1) := by decide +kernel
theorem dL_law_1624 : decode code 1624 = .ok (.iaload, 1) := by decide +kernel
theorem dL_law_1625 : decode code 1625 = .ok (.aload_n 0, 1) := by decide +kernel
theorem dL_law_1626 : decode code 1626 = .ok (.iload_n 3, 1) := by decide +kernel
theorem dL_law_1627 : decode code 1627 = .ok (.iconst 2, 1) := by decide +kernel
theorem dL_law_1628 : decode code 1628 = .ok (.iadd, 1) := by decide +kernel
theorem dL_law_1629 : decode code 1629 = .ok (.iaload, 1) := by decide +kernel
theorem dL_law_1630 : decode code 1630 = .ok (.invokevirtual 206, 3) := by decide +kernel
theorem dL_law_1633 : decode code 1633 = .ok (.aload_n 2, 1) := by decide +kernel
theorem dL_law_1634 : decode code 1634 = .ok (.aload_n 0, 1) := by decide +kernel
theorem dL_law_1635 : decode code 1635 = .ok (.iload_n 3, 1) := by decide +kernel
theorem dL_law_1636 : decode code 1636 = .ok (.iconst 1, 1) := by decide +kernel
theorem dL_law_1637 : decode code 1637 = .ok (.iadd, 1) := by decide +kernel
theorem dL_law_1638 : decode code 1638 = .ok (.iaload, 1) := by decide +kernel
theorem dL_law_1639 : decode code 1639 = .ok (.aload_n 0, 1) := by decide +kernel
theorem dL_law_1640 : decode code 1640 = .ok (.iload_n 3, 1) := by decide +kernel
theorem dL_law_1641 : decode code 1641 = .ok (.iconst 2, 1) := by decide +kernel
theorem dL_law_1642 : decode code 1642 = .ok (.iadd, 1) := by decide +kernel
theorem dL_law_1643 : decode code 1643 = .ok (.iaload, 1) := by decide +kernel
theorem dL_law_1644 : decode code 1644 = .ok (.invokevirtual 209, 3) := by decide +kernel
theorem dL_law_1647 : decode code 1647 = .ok (.if_icmp .eq 286, 3) := by decide +kernel
theorem dL_law_1652 : decode code 1652 = .ok (.aload_n 1, 1) := by decide +kernel
theorem dL_law_1653 : decode code 1653 = .ok (.aload_n 0, 1) := by decide +kernel
theorem dL_law_1654 : decode code 1654 = .ok (.iload_n 3, 1) := by decide +kernel
theorem dL_law_1655 : decode code 1655 = .ok (.iconst 1, 1) := by decide +kernel
theorem dL_law_1656 : decode code 1656 = .ok (.iadd, 1) := by decide +kernel
theorem dL_law_1657 : decode code 1657 = .ok (.iaload, 1) := by decide +kernel
theorem dL_law_1658 : decode code 1658 = .ok (.aload_n 0, 1) := by decide +kernel
theorem dL_law_1659 : decode code 1659 = .ok (.iload_n 3, 1) := by decide +kernel
theorem dL_law_1660 : decode code 1660 = .ok (.iconst 2, 1) := by decide +kernel
theorem dL_law_1661 : decode code 1661 = .ok (.iadd, 1) := by decide +kernel
theorem dL_law_1662 : decode code 1662 = .ok (.iaload, 1) := by decide +kernel
theorem dL_law_1663 : decode code 1663 = .ok (.invokevirtual 210, 3) := by decide +kernel
theorem dL_law_1666 : decode code 1666 = .ok (.aload_n 2, 1) := by decide +kernel
theorem dL_law_1667 : decode code 1667 = .ok (.aload_n 0, 1) := by decide +kernel
theorem dL_law_1668 : decode code 1668 = .ok (.iload_n 3, 1) := by decide +kernel
theorem dL_law_1669 : decode code 1669 = .ok (.iconst 1, 1) := by decide +kernel
theorem dL_law_1670 : decode code 1670 = .ok (.iadd, 1) := by decide +kernel
theorem dL_law_1671 : decode code 1671 = .ok (.iaload, 1) := by decide +kernel
theorem dL_law_1672 : decode code 1672 = .ok (.aload_n 0, 1) := by decide +kernel
theorem dL_law_1673 : decode code 1673 = .ok (.iload_n 3, 1) := by decide +kernel
theorem dL_law_1674 : decode code 1674 = .ok (.iconst 2, 1) := by decide +kernel
theorem dL_law_1675 : decode code 1675 = .ok (.iadd, 1) := by decide +kernel
theorem dL_law_1676 : decode code 1676 = .ok (.iaload, 1) := by decide +kernel
theorem dL_law_1677 : decode code 1677 = .ok (.invokevirtual 213, 3) := by decide +kernel
theorem dL_law_1680 : decode code 1680 = .ok (.if_icmp .eq 253, 3) := by decide +kernel
theorem dL_law_1685 : decode code 1685 = .ok (.aload_n 1, 1) := by decide +kernel
theorem dL_law_1686 : decode code 1686 = .ok (.aload_n 0, 1) := by decide +kernel
theorem dL_law_1687 : decode code 1687 = .ok (.iload_n 3, 1) := by decide +kernel
theorem dL_law_1688 : decode code 1688 = .ok (.iconst 1, 1) := by decide +kernel
theorem dL_law_1689 : decode code 1689 = .ok (.iadd, 1) := by decide +kernel
theorem dL_law_1690 : decode code 1690 = .ok (.iaload, 1) := by decide +kernel
theorem dL_law_1691 : decode code 1691 = .ok (.invokevirtual 214, 3) := by decide +kernel
theorem dL_law_1694 : decode code 1694 = .ok (.aload_n 2, 1) := by decide +kernel
theorem dL_law_1695 : decode code 1695 = .ok (.aload_n 0, 1) := by decide +kernel
theorem dL_law_1696 : decode code 1696 = .ok (.iload_n 3, 1) := by decide +kernel
theorem dL_law_1697 : decode code 1697 = .ok (.iconst 1, 1) := by decide +kernel
theorem dL_law_1698 : decode code 1698 = .ok (.iadd, 1) := by decide +kernel
theorem dL_law_1699 : decode code 1699 = .ok (.iaload, 1) := by decide +kernel
theorem dL_law_1700 : decode code 1700 = .ok (.invokevirtual 217, 3) := by decide +kernel
theorem dL_law_1703 : decode code 1703 = .ok (.if_icmp .eq 230, 3) := by decide +kernel
theorem dL_law_1708 : decode code 1708 = .ok (.aload_n 1, 1) := by decide +kernel
theorem dL_law_1709 : decode code 1709 = .ok (.aload_n 0, 1) := by decide +kernel
theorem dL_law_1710 : decode code 1710 = .ok (.iload_n 3, 1) := by decide +kernel
theorem dL_law_1711 : decode code 1711 = .ok (.iconst 1, 1) := by decide +kernel
theorem dL_law_1712 : decode code 1712 = .ok (.iadd, 1) := by decide +kernel
theorem dL_law_1713 : decode code 1713 = .ok (.iaload, 1) := by decide +kernel
theorem dL_law_1714 : decode code 1714 = .ok (.invokevirtual 218, 3) := by decide +kernel
theorem dL_law_1717 : decode code 1717 = .ok (.aload_n 2, 1) := by decide +kernel
theorem dL_law_1718 : decode code 1718 = .ok (.aload_n 0, 1) := by decide +kernel
theorem dL_law_1719 : decode code 1719 = .ok (.iload_n 3, 1) := by decide +kernel
theorem dL_law_1720 : decode code 1720 = .ok (.iconst 1, 1) := by decide +kernel
theorem dL_law_1721 : decode code 1721 = .ok (.iadd, 1) := by decide +kernel
theorem dL_law_1722 : decode code 1722 = .ok (.iaload, 1) := by decide +kernel
theorem dL_law_1723 : decode code 1723 = .ok (.invokevirtual 221, 3) := by decide +kernel
theorem dL_law_1726 : decode code 1726 = .ok (.if_icmp .eq 207, 3) := by decide +kernel
theorem dL_law_1731 : decode code 1731 = .ok (.aload_n 1, 1) := by decide +kernel
theorem dL_law_1732 : decode code 1732 = .ok (.aload_n 0, 1) := by decide +kernel
theorem dL_law_1733 : decode code 1733 = .ok (.iload_n 3, 1) := by decide +kernel
theorem dL_law_1734 : decode code 1734 = .ok (.iconst 1, 1) := by decide +kernel
theorem dL_law_1735 : decode code 1735 = .ok (.iadd, 1) := by decide +kernel
theorem dL_law_1736 : decode code 1736 = .ok (.iaload, 1) := by decide +kernel
theorem dL_law_1737 : decode code 1737 = .ok (.invokevirtual 222, 3) := by decide +kernel
theorem dL_law_1740 : decode code 1740 = .ok (.aload_n 2, 1) := by decide +kernel
theorem dL_law_1741 : decode code 1741 = .ok (.aload_n 0, 1) := by decide +kernel
theorem dL_law_1742 : decode code 1742 = .ok (.iload_n 3, 1) := by decide +kernel
theorem dL_law_1743 : decode code 1743 = .ok (.iconst 1, 1) := by decide +kernel
theorem dL_law_1744 : decode code 1744 = .ok (.iadd, 1) := by decide +kernel
theorem dL_law_1745 : decode code 1745 = .ok (.iaload, 1) := by decide +kernel
theorem dL_law_1746 : decode code 1746 = .ok (.invokevirtual 225, 3) := by decide +kernel
theorem dL_law_1749 : decode code 1749 = .ok (.if_icmp .eq 184, 3) := by decide +kernel
theorem dL_law_1754 : decode code 1754 = .ok (.aload_n 1, 1) := by decide +kernel
theorem dL_law_1755 : decode code 1755 = .ok (.aload_n 0, 1) := by decide +kernel
theorem dL_law_1756 : decode code 1756 = .ok (.iload_n 3, 1) := by decide +kernel
theorem dL_law_1757 : decode code 1757 = .ok (.iconst 1, 1) := by decide +kernel
theorem dL_law_1758 : decode code 1758 = .ok (.iadd, 1) := by decide +kernel
theorem dL_law_1759 : decode code 1759 = .ok (.iaload, 1) := by decide +kernel
theorem dL_law_1760 : decode code 1760 = .ok (.aload_n 0, 1) := by decide +kernel
theorem dL_law_1761 : decode code 1761 = .ok (.iload_n 3, 1) := by decide +kernel
theorem dL_law_1762 : decode code 1762 = .ok (.iconst 2, 1) := by decide +kernel
theorem dL_law_1763 : decode code 1763 = .ok (.iadd, 1) := by decide +kernel
theorem dL_law_1764 : decode code 1764 = .ok (.iaload, 1) := by decide +kernel
theorem dL_law_1765 : decode code 1765 = .ok (.aload_n 0, 1) := by decide +kernel
theorem dL_law_1766 : decode code 1766 = .ok (.iload_n 3, 1) := by decide +kernel
theorem dL_law_1767 : decode code 1767 = .ok (.iconst 3, 1) := by decide +kernel
theorem dL_law_1768 : decode code 1768 = .ok (.iadd, 1) := by decide +kernel
theorem dL_law_1769 : decode code 1769 = .ok (.iaload, 1) := by decide +kernel
theorem dL_law_1770 : decode code 1770 = .ok (.invokevirtual 226, 3) := by decide +kernel
theorem dL_law_1773 : decode code 1773 = .ok (.aload_n 2, 1) := by decide +kernel
theorem dL_law_1774 : decode code 1774 = .ok (.aload_n 0, 1) := by decide +kernel
theorem dL_law_1775 : decode code 1775 = .ok (.iload_n 3, 1) := by decide +kernel
theorem dL_law_1776 : decode code 1776 = .ok (.iconst 1, 1) := by decide +kernel
theorem dL_law_1777 : decode code 1777 = .ok (.iadd, 1) := by decide +kernel
theorem dL_law_1778 : decode code 1778 = .ok (.iaload, 1) := by decide +kernel
theorem dL_law_1779 : decode code 1779 = .ok (.aload_n 0, 1) := by decide +kernel
theorem dL_law_1780 : decode code 1780 = .ok (.iload_n 3, 1) := by decide +kernel
theorem dL_law_1781 : decode code 1781 = .ok (.iconst 2, 1) := by decide +kernel
theorem dL_law_1782 : decode code 1782 = .ok (.iadd, 1) := by decide +kernel
theorem dL_law_1783 : decode code 1783 = .ok (.iaload, 1) := by decide +kernel
theorem dL_law_1784 : decode code 1784 = .ok (.aload_n 0, 1) := by decide +kernel
theorem dL_law_1785 : decode code 1785 = .ok (.iload_n 3, 1) := by decide +kernel
theorem dL_law_1786 : decode code 1786 = .ok (.iconst 3, 1) := by decide +kernel
theorem dL_law_1787 : decode code 1787 = .ok (.iadd, 1) := by decide +kernel
theorem dL_law_1788 : decode code 1788 = .ok (.iaload, 1) := by decide +kernel
theorem dL_law_1789 : decode code 1789 = .ok (.invokevirtual 229, 3) := by decide +kernel
theorem dL_law_1792 : decode code 1792 = .ok (.if_icmp .eq 141, 3) := by decide +kernel
theorem dL_law_1797 : decode code 1797 = .ok (.aload_n 1, 1) := by decide +kernel
theorem dL_law_1798 : decode code 1798 = .ok (.aload_n 0, 1) := by decide +kernel
theorem dL_law_1799 : decode code 1799 = .ok (.iload_n 3, 1) := by decide +kernel
theorem dL_law_1800 : decode code 1800 = .ok (.iconst 1, 1) := by decide +kernel
theorem dL_law_1801 : decode code 1801 = .ok (.iadd, 1) := by decide +kernel
theorem dL_law_1802 : decode code 1802 = .ok (.iaload, 1) := by decide +kernel
theorem dL_law_1803 : decode code 1803 = .ok (.aload_n 0, 1) := by decide +kernel
theorem dL_law_1804 : decode code 1804 = .ok (.iload_n 3, 1) := by decide +kernel
theorem dL_law_1805 : decode code 1805 = .ok (.iconst 2, 1) := by decide +kernel
theorem dL_law_1806 : decode code 1806 = .ok (.iadd, 1) := by decide +kernel
theorem dL_law_1807 : decode code 1807 = .ok (.iaload, 1) := by decide +kernel
theorem dL_law_1808 : decode code 1808 = .ok (.aload_n 0, 1) := by decide +kernel
theorem dL_law_1809 : decode code 1809 = .ok (.iload_n 3, 1) := by decide +kernel
theorem dL_law_1810 : decode code 1810 = .ok (.iconst 3, 1) := by decide +kernel
theorem dL_law_1811 : decode code 1811 = .ok (.iadd, 1) := by decide +kernel
theorem dL_law_1812 : decode code 1812 = .ok (.iaload, 1) := by decide +kernel
theorem dL_law_1813 : decode code 1813 = .ok (.i2l, 1) := by decide +kernel
theorem dL_law_1814 : decode code 1814 = .ok (.bipush 32, 2) := by decide +kernel
theorem dL_law_1816 : decode code 1816 = .ok (.lshl, 1) := by decide +kernel
theorem dL_law_1817 : decode code 1817 = .ok (.aload_n 0, 1) := by decide +kernel
theorem dL_law_1818 : decode code 1818 = .ok (.iload_n 3, 1) := by decide +kernel
theorem dL_law_1819 : decode code 1819 = .ok (.iconst 4, 1) := by decide +kernel
theorem dL_law_1820 : decode code 1820 = .ok (.iadd, 1) := by decide +kernel
theorem dL_law_1821 : decode code 1821 = .ok (.iaload, 1) := by decide +kernel
theorem dL_law_1822 : decode code 1822 = .ok (.i2l, 1) := by decide +kernel
theorem dL_law_1823 : decode code 1823 = .ok (.ldc2_w 230, 3) := by decide +kernel
theorem dL_law_1826 : decode code 1826 = .ok (.land, 1) := by decide +kernel
theorem dL_law_1827 : decode code 1827 = .ok (.lor, 1) := by decide +kernel
theorem dL_law_1828 : decode code 1828 = .ok (.invokevirtual 232, 3) := by decide +kernel
theorem dL_law_1831 : decode code 1831 = .ok (.aload_n 2, 1) := by decide +kernel
theorem dL_law_1832 : decode code 1832 = .ok (.aload_n 0, 1) := by decide +kernel
theorem dL_law_1833 : decode code 1833 = .ok (.iload_n 3, 1) := by decide +kernel
theorem dL_law_1834 : decode code 1834 = .ok (.iconst 1, 1) := by decide +kernel
theorem dL_law_1835 : decode code 1835 = .ok (.iadd, 1) := by decide +kernel
theorem dL_law_1836 : decode code 1836 = .ok (.iaload, 1) := by decide +kernel
theorem dL_law_1837 : decode code 1837 = .ok (.aload_n 0, 1) := by decide +kernel
theorem dL_law_1838 : decode code 1838 = .ok (.iload_n 3, 1) := by decide +kernel
theorem dL_law_1839 : decode code 1839 = .ok (.iconst 2, 1) := by decide +kernel
theorem dL_law_1840 : decode code 1840 = .ok (.iadd, 1) := by decide +kernel
theorem dL_law_1841 : decode code 1841 = .ok (.iaload, 1) := by decide +kernel
theorem dL_law_1842 : decode code 1842 = .ok (.aload_n 0, 1) := by decide +kernel
theorem dL_law_1843 : decode code 1843 = .ok (.iload_n 3, 1) := by decide +kernel
theorem dL_law_1844 : decode code 1844 = .ok (.iconst 3, 1) := by decide +kernel
theorem dL_law_1845 : decode code 1845 = .ok (.iadd, 1) := by decide +kernel
theorem dL_law_1846 : decode code 1846 = .ok (.iaload, 1) := by decide +kernel
theorem dL_law_1847 : decode code 1847 = .ok (.i2l, 1) := by decide +kernel
theorem dL_law_1848 : decode code 1848 = .ok (.bipush 32, 2) := by decide +kernel
theorem dL_law_1850 : decode code 1850 = .ok (.lshl, 1) := by decide +kernel
theorem dL_law_1851 : decode code 1851 = .ok (.aload_n 0, 1) := by decide +kernel
theorem dL_law_1852 : decode code 1852 = .ok (.iload_n 3, 1) := by decide +kernel
theorem dL_law_1853 : decode code 1853 = .ok (.iconst 4, 1) := by decide +kernel
theorem dL_law_1854 : decode code 1854 = .ok (.iadd, 1) := by decide +kernel
theorem dL_law_1855 : decode code 1855 = .ok (.iaload, 1) := by decide +kernel
theorem dL_law_1856 : decode code 1856 = .ok (.i2l, 1) := by decide +kernel
theorem dL_law_1857 : decode code 1857 = .ok (.ldc2_w 230, 3) := by decide +kernel
theorem dL_law_1860 : decode code 1860 = .ok (.land, 1) := by decide +kernel
theorem dL_law_1861 : decode code 1861 = .ok (.lor, 1) := by decide +kernel
theorem dL_law_1862 : decode code 1862 = .ok (.invokevirtual 236, 3) := by decide +kernel
theorem dL_law_1865 : decode code 1865 = .ok (.if_icmp .eq 68, 3) := by decide +kernel
theorem dL_law_1870 : decode code 1870 = .ok (.aload_n 1, 1) := by decide +kernel
theorem dL_law_1871 : decode code 1871 = .ok (.aload_n 0, 1) := by decide +kernel
theorem dL_law_1872 : decode code 1872 = .ok (.iload_n 3, 1) := by decide +kernel
theorem dL_law_1873 : decode code 1873 = .ok (.iconst 1, 1) := by decide +kernel
theorem dL_law_1874 : decode code 1874 = .ok (.iadd, 1) := by decide +kernel
theorem dL_law_1875 : decode code 1875 = .ok (.iaload, 1) := by decide +kernel
theorem dL_law_1876 : decode code 1876 = .ok (.aload_n 0, 1) := by decide +kernel
theorem dL_law_1877 : decode code 1877 = .ok (.iload_n 3, 1) := by decide +kernel
theorem dL_law_1878 : decode code 1878 = .ok (.iconst 2, 1) := by decide +kernel
theorem dL_law_1879 : decode code 1879 = .ok (.iadd, 1) := by decide +kernel
theorem dL_law_1880 : decode code 1880 = .ok (.iaload, 1) := by decide +kernel
theorem dL_law_1881 : decode code 1881 = .ok (.aload_n 0, 1) := by decide +kernel
theorem dL_law_1882 : decode code 1882 = .ok (.iload_n 3, 1) := by decide +kernel
theorem dL_law_1883 : decode code 1883 = .ok (.iconst 3, 1) := by decide +kernel
theorem dL_law_1884 : decode code 1884 = .ok (.iadd, 1) := by decide +kernel
theorem dL_law_1885 : decode code 1885 = .ok (.iaload, 1) := by decide +kernel
theorem dL_law_1886 : decode code 1886 = .ok (.aload_n 0, 1) := by decide +kernel
theorem dL_law_1887 : decode code 1887 = .ok (.iload_n 3, 1) := by decide +kernel
theorem dL_law_1888 : decode code 1888 = .ok (.iconst 4, 1) := by decide +kernel
theorem dL_law_1889 : decode code 1889 = .ok (.iadd, 1) := by decide +kernel
theorem dL_law_1890 : decode code 1890 = .ok (.iaload, 1) := by decide +kernel
theorem dL_law_1891 : decode code 1891 = .ok (.aload_n 0, 1) := by decide +kernel
theorem dL_law_1892 : decode code 1892 = .ok (.iload_n 3, 1) := by decide +kernel
theorem dL_law_1893 : decode code 1893 = .ok (.iconst 5, 1) := by decide +kernel
theorem dL_law_1894 : decode code 1894 = .ok (.iadd, 1) := by decide +kernel
theorem dL_law_1895 : decode code 1895 = .ok (.iaload, 1) := by decide +kernel
theorem dL_law_1896 : decode code 1896 = .ok (.invokevirtual 237, 3) := by decide +kernel
theorem dL_law_1899 : decode code 1899 = .ok (.aload_n 2, 1) := by decide +kernel
theorem dL_law_1900 : decode code 1900 = .ok (.aload_n 0, 1) := by decide +kernel
theorem dL_law_1901 : decode code 1901 = .ok (.iload_n 3, 1) := by decide +kernel
theorem dL_law_1902 : decode code 1902 = .ok (.iconst 1, 1) := by decide +kernel
theorem dL_law_1903 : decode code 1903 = .ok (.iadd, 1) := by decide +kernel
theorem dL_law_1904 : decode code 1904 = .ok (.iaload, 1) := by decide +kernel
theorem dL_law_1905 : decode code 1905 = .ok (.aload_n 0, 1) := by decide +kernel
theorem dL_law_1906 : decode code 1906 = .ok (.iload_n 3, 1) := by decide +kernel
theorem dL_law_1907 : decode code 1907 = .ok (.iconst 2, 1) := by decide +kernel
theorem dL_law_1908 : decode code 1908 = .ok (.iadd, 1) := by decide +kernel
theorem dL_law_1909 : decode code 1909 = .ok (.iaload, 1) := by decide +kernel
theorem dL_law_1910 : decode code 1910 = .ok (.aload_n 0, 1) := by decide +kernel
theorem dL_law_1911 : decode code 1911 = .ok (.iload_n 3, 1) := by decide +kernel
theorem dL_law_1912 : decode code 1912 = .ok (.iconst 3, 1) := by decide +kernel
theorem dL_law_1913 : decode code 1913 = .ok (.iadd, 1) := by decide +kernel
theorem dL_law_1914 : decode code 1914 = .ok (.iaload, 1) := by decide +kernel
theorem dL_law_1915 : decode code 1915 = .ok (.aload_n 0, 1) := by decide +kernel
theorem dL_law_1916 : decode code 1916 = .ok (.iload_n 3, 1) := by decide +kernel
theorem dL_law_1917 : decode code 1917 = .ok (.iconst 4, 1) := by decide +kernel
theorem dL_law_1918 : decode code 1918 = .ok (.iadd, 1) := by decide +kernel
theorem dL_law_1919 : decode code 1919 = .ok (.iaload, 1) := by decide +kernel
theorem dL_law_1920 : decode code 1920 = .ok (.aload_n 0, 1) := by decide +kernel
theorem dL_law_1921 : decode code 1921 = .ok (.iload_n 3, 1) := by decide +kernel
theorem dL_law_1922 : decode code 1922 = .ok (.iconst 5, 1) := by decide +kernel
theorem dL_law_1923 : decode code 1923 = .ok (.iadd, 1) := by decide +kernel
theorem dL_law_1924 : decode code 1924 = .ok (.iaload, 1) := by decide +kernel
theorem dL_law_1925 : decode code 1925 = .ok (.invokevirtual 240, 3) := by decide +kernel
theorem dL_law_1928 : decode code 1928 = .ok (.if_icmp .eq 5, 3) := by decide +kernel
theorem dL_law_0 : decode code 0 = .ok (.new 7, 3) := by decide +kernel
theorem dL_law_3 : decode code 3 = .ok (.dup, 1) := by decide +kernel
theorem dL_law_4 : decode code 4 = .ok (.invokespecial 9, 3) := by decide +kernel
theorem dL_law_7 : decode code 7 = .ok (.astore_n 1, 1) := by decide +kernel
theorem dL_law_8 : decode code 8 = .ok (.new 10, 3) := by decide +kernel
theorem dL_law_11 : decode code 11 = .ok (.dup, 1) := by decide +kernel
theorem dL_law_12 : decode code 12 = .ok (.invokespecial 12, 3) := by decide +kernel
theorem dL_law_15 : decode code 15 = .ok (.astore_n 2, 1) := by decide +kernel
theorem dL_law_16 : decode code 16 = .ok (.iconst 0, 1) := by decide +kernel
theorem dL_law_17 : decode code 17 = .ok (.istore_n 3, 1) := by decide +kernel
theorem dL_law_33 : decode code 33 = .ok (.tableswitch 1900 0 54 #[235, 298, 321, 334, 357, 400, 433, 466, 489, 512, 535, 558, 581, 604, 627, 660, 703, 736, 759, 782, 815, 838, 861, 884, 917, 940, 963, 986, 1019, 1052, 1085, 1108, 1141, 1164, 1207, 1240, 1263, 1286, 1329, 1342, 1365, 1408, 1441, 1464, 1497, 1530, 1553, 1586, 1619, 1652, 1675, 1698, 1721, 1764, 1837], 235) := by decide +kernel
theorem dL_law_18 : decode code 18 = .ok (.iload_n 3, 1) := by decide +kernel
theorem dL_law_19 : decode code 19 = .ok (.aload_n 0, 1) := by decide +kernel
theorem dL_law_20 : decode code 20 = .ok (.arraylength, 1) := by decide +kernel
theorem dL_law_21 : decode code 21 = .ok (.bipush 6, 2) := by decide +kernel
theorem dL_law_23 : decode code 23 = .ok (.isub, 1) := by decide +kernel
theorem dL_law_24 : decode code 24 = .ok (.if_icmp .gt 1915, 3) := by decide +kernel
theorem dL_law_27 : decode code 27 = .ok (.aload_n 0, 1) := by decide +kernel
theorem dL_law_28 : decode code 28 = .ok (.iload_n 3, 1) := by decide +kernel
theorem dL_law_29 : decode code 29 = .ok (.iaload, 1) := by decide +kernel
theorem dL_law_30 : decode code 30 = .ok (.bipush 63, 2) := by decide +kernel
theorem dL_law_32 : decode code 32 = .ok (.iand, 1) := by decide +kernel
theorem dL_law_1939 : decode code 1939 = .ok (.iconst 1, 1) := by decide +kernel
theorem dL_law_1940 : decode code 1940 = .ok (.ireturn, 1) := by decide +kernel
theorem mw_563 : Cond.code yX11_feed cX11_feed 6 (some .int) ∈ bW := bW_at 549 (by decide +kernel) (by decide +kernel)
theorem mw_564 : Cond.methodLink RL 13 yX11_feed ∈ bW := bW_at 546 (by decide +kernel) (by decide +kernel)
theorem mw_565 : Cond.instanceMethod yX11_feed ∈ bW := bW_at 547 (by decide +kernel) (by decide +kernel)
theorem mw_566 : Cond.selects RX11 yX11_feed yX11_feed ∈ bW := bW_at 548 (by decide +kernel) (by decide +kernel)
theorem mw_567 : Cond.code yX12_feed cX12_feed 7 (some .int) ∈ bW := bW_at 1434 (by decide +kernel) (by decide +kernel)
theorem mw_568 : Cond.methodLink RL 17 yX12_feed ∈ bW := bW_at 1431 (by decide +kernel) (by decide +kernel)
theorem mw_569 : Cond.instanceMethod yX12_feed ∈ bW := bW_at 1432 (by decide +kernel) (by decide +kernel)
theorem mw_570 : Cond.selects RX12 yX12_feed yX12_feed ∈ bW := bW_at 1433 (by decide +kernel) (by decide +kernel)
theorem mw_571 : Cond.code yX11_end cX11_end 2 (some .int) ∈ bW := bW_at 557 (by decide +kernel) (by decide +kernel)
theorem mw_572 : Cond.methodLink RL 18 yX11_end ∈ bW := bW_at 554 (by decide +kernel) (by decide +kernel)
theorem mw_573 : Cond.instanceMethod yX11_end ∈ bW := bW_at 555 (by decide +kernel) (by decide +kernel)
theorem mw_574 : Cond.selects RX11 yX11_end yX11_end ∈ bW := bW_at 556 (by decide +kernel) (by decide +kernel)
theorem mw_575 : Cond.code yX12_end cX12_end 2 (some .int) ∈ bW := bW_at 1438 (by decide +kernel) (by decide +kernel)
theorem mw_576 : Cond.methodLink RL 22 yX12_end ∈ bW := bW_at 1435 (by decide +kernel) (by decide +kernel)
theorem mw_577 : Cond.instanceMethod yX12_end ∈ bW := bW_at 1436 (by decide +kernel) (by decide +kernel)
theorem mw_578 : Cond.selects RX12 yX12_end yX12_end ∈ bW := bW_at 1437 (by decide +kernel) (by decide +kernel)
theorem mw_579 : Cond.code yX11_text cX11_text 3 (some .int) ∈ bW := bW_at 561 (by decide +kernel) (by decide +kernel)
theorem mw_580 : Cond.methodLink RL 23 yX11_text ∈ bW := bW_at 558 (by decide +kernel) (by decide +kernel)
theorem mw_581 : Cond.instanceMethod yX11_text ∈ bW := bW_at 559 (by decide +kernel) (by decide +kernel)
theorem mw_582 : Cond.selects RX11 yX11_text yX11_text ∈ bW := bW_at 560 (by decide +kernel) (by decide +kernel)
theorem mw_583 : Cond.code yX12_text cX12_text 3 (some .int) ∈ bW := bW_at 1446 (by decide +kernel) (by decide +kernel)
theorem mw_584 : Cond.methodLink RL 27 yX12_text ∈ bW := bW_at 1443 (by decide +kernel) (by decide +kernel)
theorem mw_585 : Cond.instanceMethod yX12_text ∈ bW := bW_at 1444 (by decide +kernel) (by decide +kernel)
theorem mw_586 : Cond.selects RX12 yX12_text yX12_text ∈ bW := bW_at 1445 (by decide +kernel) (by decide +kernel)
theorem mw_587 : Cond.code yX11_fault cX11_fault 2 (some .int) ∈ bW := bW_at 741 (by decide +kernel) (by decide +kernel)
theorem mw_588 : Cond.methodLink RL 28 yX11_fault ∈ bW := bW_at 738 (by decide +kernel) (by decide +kernel)
theorem mw_589 : Cond.instanceMethod yX11_fault ∈ bW := bW_at 739 (by decide +kernel) (by decide +kernel)
theorem mw_590 : Cond.selects RX11 yX11_fault yX11_fault ∈ bW := bW_at 740 (by decide +kernel) (by decide +kernel)
theorem mw_591 : Cond.code yX12_fault cX12_fault 2 (some .int) ∈ bW := bW_at 1442 (by decide +kernel) (by decide +kernel)
theorem mw_592 : Cond.methodLink RL 31 yX12_fault ∈ bW := bW_at 1439 (by decide +kernel) (by decide +kernel)
theorem mw_593 : Cond.instanceMethod yX12_fault ∈ bW := bW_at 1440 (by decide +kernel) (by decide +kernel)
theorem mw_594 : Cond.selects RX12 yX12_fault yX12_fault ∈ bW := bW_at 1441 (by decide +kernel) (by decide +kernel)
theorem mw_595 : Cond.code yX11_give cX11_give 5 (some .int) ∈ bW := bW_at 745 (by decide +kernel) (by decide +kernel)
theorem mw_596 : Cond.methodLink RL 32 yX11_give ∈ bW := bW_at 742 (by decide +kernel) (by decide +kernel)
theorem mw_597 : Cond.instanceMethod yX11_give ∈ bW := bW_at 743 (by decide +kernel) (by decide +kernel)
theorem mw_598 : Cond.selects RX11 yX11_give yX11_give ∈ bW := bW_at 744 (by decide +kernel) (by decide +kernel)
theorem mw_599 : Cond.code yX12_give cX12_give 5 (some .int) ∈ bW := bW_at 1538 (by decide +kernel) (by decide +kernel)
theorem mw_600 : Cond.methodLink RL 36 yX12_give ∈ bW := bW_at 1535 (by decide +kernel) (by decide +kernel)
theorem mw_601 : Cond.instanceMethod yX12_give ∈ bW := bW_at 1536 (by decide +kernel) (by decide +kernel)
theorem mw_602 : Cond.selects RX12 yX12_give yX12_give ∈ bW := bW_at 1537 (by decide +kernel) (by decide +kernel)
theorem mw_603 : Cond.code yX11_gives cX11_gives 7 (some .int) ∈ bW := bW_at 766 (by decide +kernel) (by decide +kernel)
theorem mw_604 : Cond.methodLink RL 37 yX11_gives ∈ bW := bW_at 763 (by decide +kernel) (by decide +kernel)
theorem mw_605 : Cond.instanceMethod yX11_gives ∈ bW := bW_at 764 (by decide +kernel) (by decide +kernel)
theorem mw_606 : Cond.selects RX11 yX11_gives yX11_gives ∈ bW := bW_at 765 (by decide +kernel) (by decide +kernel)
theorem mw_607 : Cond.code yX12_gives cX12_gives 5 (some .int) ∈ bW := bW_at 1562 (by decide +kernel) (by decide +kernel)
theorem mw_608 : Cond.methodLink RL 41 yX12_gives ∈ bW := bW_at 1559 (by decide +kernel) (by decide +kernel)
theorem mw_609 : Cond.instanceMethod yX12_gives ∈ bW := bW_at 1560 (by decide +kernel) (by decide +kernel)
theorem mw_610 : Cond.selects RX12 yX12_gives yX12_gives ∈ bW := bW_at 1561 (by decide +kernel) (by decide +kernel)
theorem mw_611 : Cond.code yX11_way cX11_way 3 (some .int) ∈ bW := bW_at 778 (by decide +kernel) (by decide +kernel)
theorem mw_612 : Cond.methodLink RL 42 yX11_way ∈ bW := bW_at 775 (by decide +kernel) (by decide +kernel)
theorem mw_613 : Cond.instanceMethod yX11_way ∈ bW := bW_at 776 (by decide +kernel) (by decide +kernel)
theorem mw_614 : Cond.selects RX11 yX11_way yX11_way ∈ bW := bW_at 777 (by decide +kernel) (by decide +kernel)
theorem mw_615 : Cond.code yX12_way cX12_way 3 (some .int) ∈ bW := bW_at 1569 (by decide +kernel) (by decide +kernel)
theorem mw_616 : Cond.methodLink RL 45 yX12_way ∈ bW := bW_at 1566 (by decide +kernel) (by decide +kernel)
theorem mw_617 : Cond.instanceMethod yX12_way ∈ bW := bW_at 1567 (by decide +kernel) (by decide +kernel)
theorem mw_618 : Cond.selects RX12 yX12_way yX12_way ∈ bW := bW_at 1568 (by decide +kernel) (by decide +kernel)
theorem mw_619 : Cond.code yX11_clear cX11_clear 2 (some .int) ∈ bW := bW_at 782 (by decide +kernel) (by decide +kernel)
theorem mw_620 : Cond.methodLink RL 46 yX11_clear ∈ bW := bW_at 779 (by decide +kernel) (by decide +kernel)
theorem mw_621 : Cond.instanceMethod yX11_clear ∈ bW := bW_at 780 (by decide +kernel) (by decide +kernel)
theorem mw_622 : Cond.selects RX11 yX11_clear yX11_clear ∈ bW := bW_at 781 (by decide +kernel) (by decide +kernel)
theorem mw_623 : Cond.code yX12_clear cX12_clear 4 (some .int) ∈ bW := bW_at 1573 (by decide +kernel) (by decide +kernel)
theorem mw_624 : Cond.methodLink RL 49 yX12_clear ∈ bW := bW_at 1570 (by decide +kernel) (by decide +kernel)
theorem mw_625 : Cond.instanceMethod yX12_clear ∈ bW := bW_at 1571 (by decide +kernel) (by decide +kernel)
theorem mw_626 : Cond.selects RX12 yX12_clear yX12_clear ∈ bW := bW_at 1572 (by decide +kernel) (by decide +kernel)
theorem mw_627 : Cond.code yX11_whole cX11_whole 2 (some .int) ∈ bW := bW_at 786 (by decide +kernel) (by decide +kernel)
theorem mw_628 : Cond.methodLink RL 50 yX11_whole ∈ bW := bW_at 783 (by decide +kernel) (by decide +kernel)
theorem mw_629 : Cond.instanceMethod yX11_whole ∈ bW := bW_at 784 (by decide +kernel) (by decide +kernel)
theorem mw_630 : Cond.selects RX11 yX11_whole yX11_whole ∈ bW := bW_at 785 (by decide +kernel) (by decide +kernel)
theorem mw_631 : Cond.code yX12_whole cX12_whole 2 (some .int) ∈ bW := bW_at 1577 (by decide +kernel) (by decide +kernel)
theorem mw_632 : Cond.methodLink RL 53 yX12_whole ∈ bW := bW_at 1574 (by decide +kernel) (by decide +kernel)
theorem mw_633 : Cond.instanceMethod yX12_whole ∈ bW := bW_at 1575 (by decide +kernel) (by decide +kernel)
theorem mw_634 : Cond.selects RX12 yX12_whole yX12_whole ∈ bW := bW_at 1576 (by decide +kernel) (by decide +kernel)
theorem mw_635 : Cond.code yX11_can cX11_can 2 (some .int) ∈ bW := bW_at 794 (by decide +kernel) (by decide +kernel)
theorem mw_636 : Cond.methodLink RL 54 yX11_can ∈ bW := bW_at 791 (by decide +kernel) (by decide +kernel)
theorem mw_637 : Cond.instanceMethod yX11_can ∈ bW := bW_at 792 (by decide +kernel) (by decide +kernel)
theorem mw_638 : Cond.selects RX11 yX11_can yX11_can ∈ bW := bW_at 793 (by decide +kernel) (by decide +kernel)
theorem mw_639 : Cond.code yX12_can cX12_can 2 (some .int) ∈ bW := bW_at 1609 (by decide +kernel) (by decide +kernel)
theorem mw_640 : Cond.methodLink RL 57 yX12_can ∈ bW := bW_at 1606 (by decide +kernel) (by decide +kernel)
theorem mw_641 : Cond.instanceMethod yX12_can ∈ bW := bW_at 1607 (by decide +kernel) (by decide +kernel)
theorem mw_642 : Cond.selects RX12 yX12_can yX12_can ∈ bW := bW_at 1608 (by decide +kernel) (by decide +kernel)
theorem mw_643 : Cond.code yX11_bar cX11_bar 2 (some .int) ∈ bW := bW_at 807 (by decide +kernel) (by decide +kernel)
theorem mw_644 : Cond.methodLink RL 58 yX11_bar ∈ bW := bW_at 804 (by decide +kernel) (by decide +kernel)
theorem mw_645 : Cond.instanceMethod yX11_bar ∈ bW := bW_at 805 (by decide +kernel) (by decide +kernel)
theorem mw_646 : Cond.selects RX11 yX11_bar yX11_bar ∈ bW := bW_at 806 (by decide +kernel) (by decide +kernel)
theorem mw_647 : Cond.code yX12_bar cX12_bar 2 (some .int) ∈ bW := bW_at 1625 (by decide +kernel) (by decide +kernel)
theorem mw_648 : Cond.methodLink RL 61 yX12_bar ∈ bW := bW_at 1622 (by decide +kernel) (by decide +kernel)
theorem mw_649 : Cond.instanceMethod yX12_bar ∈ bW := bW_at 1623 (by decide +kernel) (by decide +kernel)
theorem mw_650 : Cond.selects RX12 yX12_bar yX12_bar ∈ bW := bW_at 1624 (by decide +kernel) (by decide +kernel)
theorem mw_651 : Cond.code yX11_cut cX11_cut 5 (some .int) ∈ bW := bW_at 815 (by decide +kernel) (by decide +kernel)
theorem mw_652 : Cond.methodLink RL 62 yX11_cut ∈ bW := bW_at 812 (by decide +kernel) (by decide +kernel)
theorem mw_653 : Cond.instanceMethod yX11_cut ∈ bW := bW_at 813 (by decide +kernel) (by decide +kernel)
theorem mw_654 : Cond.selects RX11 yX11_cut yX11_cut ∈ bW := bW_at 814 (by decide +kernel) (by decide +kernel)
theorem mw_655 : Cond.code yX12_cut cX12_cut 5 (some .int) ∈ bW := bW_at 1629 (by decide +kernel) (by decide +kernel)
theorem mw_656 : Cond.methodLink RL 65 yX12_cut ∈ bW := bW_at 1626 (by decide +kernel) (by decide +kernel)
theorem mw_657 : Cond.instanceMethod yX12_cut ∈ bW := bW_at 1627 (by decide +kernel) (by decide +kernel)
theorem mw_658 : Cond.selects RX12 yX12_cut yX12_cut ∈ bW := bW_at 1628 (by decide +kernel) (by decide +kernel)
theorem mw_659 : Cond.code yX11_show cX11_show 2 (some .int) ∈ bW := bW_at 824 (by decide +kernel) (by decide +kernel)
theorem mw_660 : Cond.methodLink RL 66 yX11_show ∈ bW := bW_at 821 (by decide +kernel) (by decide +kernel)
theorem mw_661 : Cond.instanceMethod yX11_show ∈ bW := bW_at 822 (by decide +kernel) (by decide +kernel)
theorem mw_662 : Cond.selects RX11 yX11_show yX11_show ∈ bW := bW_at 823 (by decide +kernel) (by decide +kernel)
theorem mw_663 : Cond.code yX12_show cX12_show 4 (some .int) ∈ bW := bW_at 1633 (by decide +kernel) (by decide +kernel)
theorem mw_664 : Cond.methodLink RL 69 yX12_show ∈ bW := bW_at 1630 (by decide +kernel) (by decide +kernel)
theorem mw_665 : Cond.instanceMethod yX12_show ∈ bW := bW_at 1631 (by decide +kernel) (by decide +kernel)
theorem mw_666 : Cond.selects RX12 yX12_show yX12_show ∈ bW := bW_at 1632 (by decide +kernel) (by decide +kernel)
theorem mw_667 : Cond.code yX11_forced cX11_forced 2 (some .int) ∈ bW := bW_at 837 (by decide +kernel) (by decide +kernel)
theorem mw_668 : Cond.methodLink RL 70 yX11_forced ∈ bW := bW_at 834 (by decide +kernel) (by decide +kernel)
theorem mw_669 : Cond.instanceMethod yX11_forced ∈ bW := bW_at 835 (by decide +kernel) (by decide +kernel)
theorem mw_670 : Cond.selects RX11 yX11_forced yX11_forced ∈ bW := bW_at 836 (by decide +kernel) (by decide +kernel)
theorem mw_671 : Cond.code yX12_forced cX12_forced 4 (some .int) ∈ bW := bW_at 1641 (by decide +kernel) (by decide +kernel)
theorem mw_672 : Cond.methodLink RL 73 yX12_forced ∈ bW := bW_at 1638 (by decide +kernel) (by decide +kernel)
theorem mw_673 : Cond.instanceMethod yX12_forced ∈ bW := bW_at 1639 (by decide +kernel) (by decide +kernel)
theorem mw_674 : Cond.selects RX12 yX12_forced yX12_forced ∈ bW := bW_at 1640 (by decide +kernel) (by decide +kernel)
theorem mw_675 : Cond.code yX11_forcedWay cX11_forcedWay 3 (some .int) ∈ bW := bW_at 849 (by decide +kernel) (by decide +kernel)
theorem mw_676 : Cond.methodLink RL 74 yX11_forcedWay ∈ bW := bW_at 846 (by decide +kernel) (by decide +kernel)
theorem mw_677 : Cond.instanceMethod yX11_forcedWay ∈ bW := bW_at 847 (by decide +kernel) (by decide +kernel)
theorem mw_678 : Cond.selects RX11 yX11_forcedWay yX11_forcedWay ∈ bW := bW_at 848 (by decide +kernel) (by decide +kernel)
theorem mw_679 : Cond.code yX12_forcedWay cX12_forcedWay 3 (some .int) ∈ bW := bW_at 1649 (by decide +kernel) (by decide +kernel)
theorem mw_680 : Cond.methodLink RL 77 yX12_forcedWay ∈ bW := bW_at 1646 (by decide +kernel) (by decide +kernel)
theorem mw_681 : Cond.instanceMethod yX12_forcedWay ∈ bW := bW_at 1647 (by decide +kernel) (by decide +kernel)
theorem mw_682 : Cond.selects RX12 yX12_forcedWay yX12_forcedWay ∈ bW := bW_at 1648 (by decide +kernel) (by decide +kernel)
theorem mw_683 : Cond.code yX11_minutes cX11_minutes 4 (some .int) ∈ bW := bW_at 854 (by decide +kernel) (by decide +kernel)
theorem mw_684 : Cond.methodLink RL 78 yX11_minutes ∈ bW := bW_at 851 (by decide +kernel) (by decide +kernel)
theorem mw_685 : Cond.instanceMethod yX11_minutes ∈ bW := bW_at 852 (by decide +kernel) (by decide +kernel)
theorem mw_686 : Cond.selects RX11 yX11_minutes yX11_minutes ∈ bW := bW_at 853 (by decide +kernel) (by decide +kernel)
theorem mw_687 : Cond.code yX12_minutes cX12_minutes 5 (some .int) ∈ bW := bW_at 1653 (by decide +kernel) (by decide +kernel)
theorem mw_688 : Cond.methodLink RL 81 yX12_minutes ∈ bW := bW_at 1650 (by decide +kernel) (by decide +kernel)
theorem mw_689 : Cond.instanceMethod yX12_minutes ∈ bW := bW_at 1651 (by decide +kernel) (by decide +kernel)
theorem mw_690 : Cond.selects RX12 yX12_minutes yX12_minutes ∈ bW := bW_at 1652 (by decide +kernel) (by decide +kernel)
theorem mw_691 : Cond.code yX11_round cX11_round 3 (some .int) ∈ bW := bW_at 870 (by decide +kernel) (by decide +kernel)
theorem mw_692 : Cond.methodLink RL 82 yX11_round ∈ bW := bW_at 867 (by decide +kernel) (by decide +kernel)
theorem mw_693 : Cond.instanceMethod yX11_round ∈ bW := bW_at 868 (by decide +kernel) (by decide +kernel)
theorem mw_694 : Cond.selects RX11 yX11_round yX11_round ∈ bW := bW_at 869 (by decide +kernel) (by decide +kernel)
theorem mw_695 : Cond.code yX12_round cX12_round 4 (some .int) ∈ bW := bW_at 1661 (by decide +kernel) (by decide +kernel)
theorem mw_696 : Cond.methodLink RL 85 yX12_round ∈ bW := bW_at 1658 (by decide +kernel) (by decide +kernel)
theorem mw_697 : Cond.instanceMethod yX12_round ∈ bW := bW_at 1659 (by decide +kernel) (by decide +kernel)
theorem mw_698 : Cond.selects RX12 yX12_round yX12_round ∈ bW := bW_at 1660 (by decide +kernel) (by decide +kernel)
theorem mw_699 : Cond.code yX11_sum cX11_sum 2 (some .int) ∈ bW := bW_at 886 (by decide +kernel) (by decide +kernel)
theorem mw_700 : Cond.methodLink RL 86 yX11_sum ∈ bW := bW_at 883 (by decide +kernel) (by decide +kernel)
theorem mw_701 : Cond.instanceMethod yX11_sum ∈ bW := bW_at 884 (by decide +kernel) (by decide +kernel)
theorem mw_702 : Cond.selects RX11 yX11_sum yX11_sum ∈ bW := bW_at 885 (by decide +kernel) (by decide +kernel)
theorem mw_703 : Cond.code yX12_sum cX12_sum 2 (some .int) ∈ bW := bW_at 1685 (by decide +kernel) (by decide +kernel)
theorem mw_704 : Cond.methodLink RL 89 yX12_sum ∈ bW := bW_at 1682 (by decide +kernel) (by decide +kernel)
theorem mw_705 : Cond.instanceMethod yX12_sum ∈ bW := bW_at 1683 (by decide +kernel) (by decide +kernel)
theorem mw_706 : Cond.selects RX12 yX12_sum yX12_sum ∈ bW := bW_at 1684 (by decide +kernel) (by decide +kernel)
theorem mw_707 : Cond.code yX11_worst cX11_worst 2 (some .int) ∈ bW := bW_at 895 (by decide +kernel) (by decide +kernel)
theorem mw_708 : Cond.methodLink RL 90 yX11_worst ∈ bW := bW_at 892 (by decide +kernel) (by decide +kernel)
theorem mw_709 : Cond.instanceMethod yX11_worst ∈ bW := bW_at 893 (by decide +kernel) (by decide +kernel)
theorem mw_710 : Cond.selects RX11 yX11_worst yX11_worst ∈ bW := bW_at 894 (by decide +kernel) (by decide +kernel)
theorem mw_711 : Cond.code yX12_worst cX12_worst 2 (some .int) ∈ bW := bW_at 1697 (by decide +kernel) (by decide +kernel)
theorem mw_712 : Cond.methodLink RL 93 yX12_worst ∈ bW := bW_at 1694 (by decide +kernel) (by decide +kernel)
theorem mw_713 : Cond.instanceMethod yX12_worst ∈ bW := bW_at 1695 (by decide +kernel) (by decide +kernel)
theorem mw_714 : Cond.selects RX12 yX12_worst yX12_worst ∈ bW := bW_at 1696 (by decide +kernel) (by decide +kernel)
theorem mw_715 : Cond.code yX11_best cX11_best 3 (some .int) ∈ bW := bW_at 907 (by decide +kernel) (by decide +kernel)
theorem mw_716 : Cond.methodLink RL 94 yX11_best ∈ bW := bW_at 904 (by decide +kernel) (by decide +kernel)
theorem mw_717 : Cond.instanceMethod yX11_best ∈ bW := bW_at 905 (by decide +kernel) (by decide +kernel)
theorem mw_718 : Cond.selects RX11 yX11_best yX11_best ∈ bW := bW_at 906 (by decide +kernel) (by decide +kernel)
theorem mw_719 : Cond.code yX12_best cX12_best 8 (some .int) ∈ bW := bW_at 1706 (by decide +kernel) (by decide +kernel)
theorem mw_720 : Cond.methodLink RL 97 yX12_best ∈ bW := bW_at 1703 (by decide +kernel) (by decide +kernel)
theorem mw_721 : Cond.instanceMethod yX12_best ∈ bW := bW_at 1704 (by decide +kernel) (by decide +kernel)
theorem mw_722 : Cond.selects RX12 yX12_best yX12_best ∈ bW := bW_at 1705 (by decide +kernel) (by decide +kernel)
theorem mw_723 : Cond.code yX11_better cX11_better 4 (some .int) ∈ bW := bW_at 941 (by decide +kernel) (by decide +kernel)
theorem mw_724 : Cond.methodLink RL 98 yX11_better ∈ bW := bW_at 938 (by decide +kernel) (by decide +kernel)
theorem mw_725 : Cond.instanceMethod yX11_better ∈ bW := bW_at 939 (by decide +kernel) (by decide +kernel)
theorem mw_726 : Cond.selects RX11 yX11_better yX11_better ∈ bW := bW_at 940 (by decide +kernel) (by decide +kernel)
theorem mw_727 : Cond.code yX12_better cX12_better 4 (some .int) ∈ bW := bW_at 1710 (by decide +kernel) (by decide +kernel)
theorem mw_728 : Cond.methodLink RL 101 yX12_better ∈ bW := bW_at 1707 (by decide +kernel) (by decide +kernel)
theorem mw_729 : Cond.instanceMethod yX12_better ∈ bW := bW_at 1708 (by decide +kernel) (by decide +kernel)
theorem mw_730 : Cond.selects RX12 yX12_better yX12_better ∈ bW := bW_at 1709 (by decide +kernel) (by decide +kernel)
theorem mw_731 : Cond.code yX11_alike cX11_alike 4 (some .int) ∈ bW := bW_at 1001 (by decide +kernel) (by decide +kernel)
theorem mw_732 : Cond.methodLink RL 102 yX11_alike ∈ bW := bW_at 998 (by decide +kernel) (by decide +kernel)
theorem mw_733 : Cond.instanceMethod yX11_alike ∈ bW := bW_at 999 (by decide +kernel) (by decide +kernel)
theorem mw_734 : Cond.selects RX11 yX11_alike yX11_alike ∈ bW := bW_at 1000 (by decide +kernel) (by decide +kernel)
theorem mw_735 : Cond.code yX12_alike cX12_alike 6 (some .int) ∈ bW := bW_at 1754 (by decide +kernel) (by decide +kernel)
theorem mw_736 : Cond.methodLink RL 105 yX12_alike ∈ bW := bW_at 1751 (by decide +kernel) (by decide +kernel)
theorem mw_737 : Cond.instanceMethod yX12_alike ∈ bW := bW_at 1752 (by decide +kernel) (by decide +kernel)
theorem mw_738 : Cond.selects RX12 yX12_alike yX12_alike ∈ bW := bW_at 1753 (by decide +kernel) (by decide +kernel)
theorem mw_739 : Cond.code yX11_known cX11_known 2 (some .int) ∈ bW := bW_at 1009 (by decide +kernel) (by decide +kernel)
theorem mw_740 : Cond.methodLink RL 106 yX11_known ∈ bW := bW_at 1006 (by decide +kernel) (by decide +kernel)
theorem mw_741 : Cond.instanceMethod yX11_known ∈ bW := bW_at 1007 (by decide +kernel) (by decide +kernel)
theorem mw_742 : Cond.selects RX11 yX11_known yX11_known ∈ bW := bW_at 1008 (by decide +kernel) (by decide +kernel)
theorem mw_743 : Cond.code yX12_known cX12_known 5 (some .int) ∈ bW := bW_at 1758 (by decide +kernel) (by decide +kernel)
theorem mw_744 : Cond.methodLink RL 109 yX12_known ∈ bW := bW_at 1755 (by decide +kernel) (by decide +kernel)
theorem mw_745 : Cond.instanceMethod yX12_known ∈ bW := bW_at 1756 (by decide +kernel) (by decide +kernel)
theorem mw_746 : Cond.selects RX12 yX12_known yX12_known ∈ bW := bW_at 1757 (by decide +kernel) (by decide +kernel)
theorem mw_747 : Cond.code yX11_ring cX11_ring 3 (some .int) ∈ bW := bW_at 1017 (by decide +kernel) (by decide +kernel)
theorem mw_748 : Cond.methodLink RL 110 yX11_ring ∈ bW := bW_at 1014 (by decide +kernel) (by decide +kernel)
theorem mw_749 : Cond.instanceMethod yX11_ring ∈ bW := bW_at 1015 (by decide +kernel) (by decide +kernel)
theorem mw_750 : Cond.selects RX11 yX11_ring yX11_ring ∈ bW := bW_at 1016 (by decide +kernel) (by decide +kernel)
theorem mw_751 : Cond.code yX12_ring cX12_ring 3 (some .int) ∈ bW := bW_at 1750 (by decide +kernel) (by decide +kernel)
theorem mw_752 : Cond.methodLink RL 113 yX12_ring ∈ bW := bW_at 1747 (by decide +kernel) (by decide +kernel)
theorem mw_753 : Cond.instanceMethod yX12_ring ∈ bW := bW_at 1748 (by decide +kernel) (by decide +kernel)
theorem mw_754 : Cond.selects RX12 yX12_ring yX12_ring ∈ bW := bW_at 1749 (by decide +kernel) (by decide +kernel)
theorem mw_755 : Cond.code yX11_ended cX11_ended 2 (some .int) ∈ bW := bW_at 1026 (by decide +kernel) (by decide +kernel)
theorem mw_756 : Cond.methodLink RL 114 yX11_ended ∈ bW := bW_at 1023 (by decide +kernel) (by decide +kernel)
theorem mw_757 : Cond.instanceMethod yX11_ended ∈ bW := bW_at 1024 (by decide +kernel) (by decide +kernel)
theorem mw_758 : Cond.selects RX11 yX11_ended yX11_ended ∈ bW := bW_at 1025 (by decide +kernel) (by decide +kernel)
theorem mw_759 : Cond.code yX12_ended cX12_ended 2 (some .int) ∈ bW := bW_at 1746 (by decide +kernel) (by decide +kernel)
theorem mw_760 : Cond.methodLink RL 117 yX12_ended ∈ bW := bW_at 1743 (by decide +kernel) (by decide +kernel)
theorem mw_761 : Cond.instanceMethod yX12_ended ∈ bW := bW_at 1744 (by decide +kernel) (by decide +kernel)
theorem mw_762 : Cond.selects RX12 yX12_ended yX12_ended ∈ bW := bW_at 1745 (by decide +kernel) (by decide +kernel)
theorem mw_763 : Cond.code yX11_pair cX11_pair 7 (some .int) ∈ bW := bW_at 1030 (by decide +kernel) (by decide +kernel)
theorem mw_764 : Cond.methodLink RL 118 yX11_pair ∈ bW := bW_at 1027 (by decide +kernel) (by decide +kernel)
theorem mw_765 : Cond.instanceMethod yX11_pair ∈ bW := bW_at 1028 (by decide +kernel) (by decide +kernel)
theorem mw_766 : Cond.selects RX11 yX11_pair yX11_pair ∈ bW := bW_at 1029 (by decide +kernel) (by decide +kernel)
theorem mw_767 : Cond.code yX12_pair cX12_pair 5 (some .int) ∈ bW := bW_at 1762 (by decide +kernel) (by decide +kernel)
theorem mw_768 : Cond.methodLink RL 121 yX12_pair ∈ bW := bW_at 1759 (by decide +kernel) (by decide +kernel)
theorem mw_769 : Cond.instanceMethod yX12_pair ∈ bW := bW_at 1760 (by decide +kernel) (by decide +kernel)
theorem mw_770 : Cond.selects RX12 yX12_pair yX12_pair ∈ bW := bW_at 1761 (by decide +kernel) (by decide +kernel)
theorem mw_771 : Cond.code yX11_paired cX11_paired 2 (some .int) ∈ bW := bW_at 1035 (by decide +kernel) (by decide +kernel)
theorem mw_772 : Cond.methodLink RL 122 yX11_paired ∈ bW := bW_at 1032 (by decide +kernel) (by decide +kernel)
theorem mw_773 : Cond.instanceMethod yX11_paired ∈ bW := bW_at 1033 (by decide +kernel) (by decide +kernel)
theorem mw_774 : Cond.selects RX11 yX11_paired yX11_paired ∈ bW := bW_at 1034 (by decide +kernel) (by decide +kernel)
theorem mw_775 : Cond.code yX12_paired cX12_paired 2 (some .int) ∈ bW := bW_at 1766 (by decide +kernel) (by decide +kernel)
theorem mw_776 : Cond.methodLink RL 125 yX12_paired ∈ bW := bW_at 1763 (by decide +kernel) (by decide +kernel)
theorem mw_777 : Cond.instanceMethod yX12_paired ∈ bW := bW_at 1764 (by decide +kernel) (by decide +kernel)
theorem mw_778 : Cond.selects RX12 yX12_paired yX12_paired ∈ bW := bW_at 1765 (by decide +kernel) (by decide +kernel)
theorem mw_779 : Cond.code yX11_total cX11_total 8 (some .int) ∈ bW := bW_at 1039 (by decide +kernel) (by decide +kernel)
theorem mw_780 : Cond.methodLink RL 126 yX11_total ∈ bW := bW_at 1036 (by decide +kernel) (by decide +kernel)
theorem mw_781 : Cond.instanceMethod yX11_total ∈ bW := bW_at 1037 (by decide +kernel) (by decide +kernel)
theorem mw_782 : Cond.selects RX11 yX11_total yX11_total ∈ bW := bW_at 1038 (by decide +kernel) (by decide +kernel)
theorem mw_783 : Cond.code yX12_total cX12_total 7 (some .int) ∈ bW := bW_at 1770 (by decide +kernel) (by decide +kernel)
theorem mw_784 : Cond.methodLink RL 129 yX12_total ∈ bW := bW_at 1767 (by decide +kernel) (by decide +kernel)
theorem mw_785 : Cond.instanceMethod yX12_total ∈ bW := bW_at 1768 (by decide +kernel) (by decide +kernel)
theorem mw_786 : Cond.selects RX12 yX12_total yX12_total ∈ bW := bW_at 1769 (by decide +kernel) (by decide +kernel)
theorem mw_787 : Cond.code yX11_coin cX11_coin 3 (some .int) ∈ bW := bW_at 1044 (by decide +kernel) (by decide +kernel)
theorem mw_788 : Cond.methodLink RL 130 yX11_coin ∈ bW := bW_at 1041 (by decide +kernel) (by decide +kernel)
theorem mw_789 : Cond.instanceMethod yX11_coin ∈ bW := bW_at 1042 (by decide +kernel) (by decide +kernel)
theorem mw_790 : Cond.selects RX11 yX11_coin yX11_coin ∈ bW := bW_at 1043 (by decide +kernel) (by decide +kernel)
theorem mw_791 : Cond.code yX12_coin cX12_coin 5 (some .int) ∈ bW := bW_at 1774 (by decide +kernel) (by decide +kernel)
theorem mw_792 : Cond.methodLink RL 133 yX12_coin ∈ bW := bW_at 1771 (by decide +kernel) (by decide +kernel)
theorem mw_793 : Cond.instanceMethod yX12_coin ∈ bW := bW_at 1772 (by decide +kernel) (by decide +kernel)
theorem mw_794 : Cond.selects RX12 yX12_coin yX12_coin ∈ bW := bW_at 1773 (by decide +kernel) (by decide +kernel)
theorem mw_795 : Cond.code yX11_next cX11_next 3 (some .int) ∈ bW := bW_at 1081 (by decide +kernel) (by decide +kernel)
theorem mw_796 : Cond.methodLink RL 134 yX11_next ∈ bW := bW_at 1078 (by decide +kernel) (by decide +kernel)
theorem mw_797 : Cond.instanceMethod yX11_next ∈ bW := bW_at 1079 (by decide +kernel) (by decide +kernel)
theorem mw_798 : Cond.selects RX11 yX11_next yX11_next ∈ bW := bW_at 1080 (by decide +kernel) (by decide +kernel)
theorem mw_799 : Cond.code yX12_next cX12_next 6 (some .int) ∈ bW := bW_at 1790 (by decide +kernel) (by decide +kernel)
theorem mw_800 : Cond.methodLink RL 137 yX12_next ∈ bW := bW_at 1787 (by decide +kernel) (by decide +kernel)
theorem mw_801 : Cond.instanceMethod yX12_next ∈ bW := bW_at 1788 (by decide +kernel) (by decide +kernel)
theorem mw_802 : Cond.selects RX12 yX12_next yX12_next ∈ bW := bW_at 1789 (by decide +kernel) (by decide +kernel)
theorem mw_803 : Cond.code yX11_paid cX11_paid 2 (some .int) ∈ bW := bW_at 1090 (by decide +kernel) (by decide +kernel)
theorem mw_804 : Cond.methodLink RL 138 yX11_paid ∈ bW := bW_at 1087 (by decide +kernel) (by decide +kernel)
theorem mw_805 : Cond.instanceMethod yX11_paid ∈ bW := bW_at 1088 (by decide +kernel) (by decide +kernel)
theorem mw_806 : Cond.selects RX11 yX11_paid yX11_paid ∈ bW := bW_at 1089 (by decide +kernel) (by decide +kernel)
theorem mw_807 : Cond.code yX12_paid cX12_paid 4 (some .int) ∈ bW := bW_at 1794 (by decide +kernel) (by decide +kernel)
theorem mw_808 : Cond.methodLink RL 141 yX12_paid ∈ bW := bW_at 1791 (by decide +kernel) (by decide +kernel)
theorem mw_809 : Cond.instanceMethod yX12_paid ∈ bW := bW_at 1792 (by decide +kernel) (by decide +kernel)
theorem mw_810 : Cond.selects RX12 yX12_paid yX12_paid ∈ bW := bW_at 1793 (by decide +kernel) (by decide +kernel)
theorem mw_811 : Cond.code yX11_fire cX11_fire 3 (some .int) ∈ bW := bW_at 1098 (by decide +kernel) (by decide +kernel)
theorem mw_812 : Cond.methodLink RL 142 yX11_fire ∈ bW := bW_at 1095 (by decide +kernel) (by decide +kernel)
theorem mw_813 : Cond.instanceMethod yX11_fire ∈ bW := bW_at 1096 (by decide +kernel) (by decide +kernel)
theorem mw_814 : Cond.selects RX11 yX11_fire yX11_fire ∈ bW := bW_at 1097 (by decide +kernel) (by decide +kernel)
theorem mw_815 : Cond.code yX12_fire cX12_fire 3 (some .int) ∈ bW := bW_at 1798 (by decide +kernel) (by decide +kernel)
theorem mw_816 : Cond.methodLink RL 145 yX12_fire ∈ bW := bW_at 1795 (by decide +kernel) (by decide +kernel)
theorem mw_817 : Cond.instanceMethod yX12_fire ∈ bW := bW_at 1796 (by decide +kernel) (by decide +kernel)
theorem mw_818 : Cond.selects RX12 yX12_fire yX12_fire ∈ bW := bW_at 1797 (by decide +kernel) (by decide +kernel)
theorem mw_819 : Cond.code yX11_lastFire cX11_lastFire 6 (some .int) ∈ bW := bW_at 1106 (by decide +kernel) (by decide +kernel)
theorem mw_820 : Cond.methodLink RL 146 yX11_lastFire ∈ bW := bW_at 1103 (by decide +kernel) (by decide +kernel)
theorem mw_821 : Cond.instanceMethod yX11_lastFire ∈ bW := bW_at 1104 (by decide +kernel) (by decide +kernel)
theorem mw_822 : Cond.selects RX11 yX11_lastFire yX11_lastFire ∈ bW := bW_at 1105 (by decide +kernel) (by decide +kernel)
theorem mw_823 : Cond.code yX12_lastFire cX12_lastFire 4 (some .int) ∈ bW := bW_at 1806 (by decide +kernel) (by decide +kernel)
theorem mw_824 : Cond.methodLink RL 149 yX12_lastFire ∈ bW := bW_at 1803 (by decide +kernel) (by decide +kernel)
theorem mw_825 : Cond.instanceMethod yX12_lastFire ∈ bW := bW_at 1804 (by decide +kernel) (by decide +kernel)
theorem mw_826 : Cond.selects RX12 yX12_lastFire yX12_lastFire ∈ bW := bW_at 1805 (by decide +kernel) (by decide +kernel)
theorem mw_827 : Cond.code yX11_arrive cX11_arrive 10 (some .int) ∈ bW := bW_at 1110 (by decide +kernel) (by decide +kernel)
theorem mw_828 : Cond.methodLink RL 150 yX11_arrive ∈ bW := bW_at 1107 (by decide +kernel) (by decide +kernel)
theorem mw_829 : Cond.instanceMethod yX11_arrive ∈ bW := bW_at 1108 (by decide +kernel) (by decide +kernel)
theorem mw_830 : Cond.selects RX11 yX11_arrive yX11_arrive ∈ bW := bW_at 1109 (by decide +kernel) (by decide +kernel)
theorem mw_831 : Cond.code yX12_arrive cX12_arrive 10 (some .int) ∈ bW := bW_at 1814 (by decide +kernel) (by decide +kernel)
theorem mw_832 : Cond.methodLink RL 153 yX12_arrive ∈ bW := bW_at 1811 (by decide +kernel) (by decide +kernel)
theorem mw_833 : Cond.instanceMethod yX12_arrive ∈ bW := bW_at 1812 (by decide +kernel) (by decide +kernel)
theorem mw_834 : Cond.selects RX12 yX12_arrive yX12_arrive ∈ bW := bW_at 1813 (by decide +kernel) (by decide +kernel)
theorem mw_835 : Cond.code yX11_reach cX11_reach 5 (some .int) ∈ bW := bW_at 1120 (by decide +kernel) (by decide +kernel)
theorem mw_836 : Cond.methodLink RL 154 yX11_reach ∈ bW := bW_at 1117 (by decide +kernel) (by decide +kernel)
theorem mw_837 : Cond.instanceMethod yX11_reach ∈ bW := bW_at 1118 (by decide +kernel) (by decide +kernel)
theorem mw_838 : Cond.selects RX11 yX11_reach yX11_reach ∈ bW := bW_at 1119 (by decide +kernel) (by decide +kernel)
theorem mw_839 : Cond.code yX12_reach cX12_reach 5 (some .int) ∈ bW := bW_at 1810 (by decide +kernel) (by decide +kernel)
theorem mw_840 : Cond.methodLink RL 157 yX12_reach ∈ bW := bW_at 1807 (by decide +kernel) (by decide +kernel)
theorem mw_841 : Cond.instanceMethod yX12_reach ∈ bW := bW_at 1808 (by decide +kernel) (by decide +kernel)
theorem mw_842 : Cond.selects RX12 yX12_reach yX12_reach ∈ bW := bW_at 1809 (by decide +kernel) (by decide +kernel)
theorem mw_843 : Cond.code yX11_afternoon cX11_afternoon 3 (some .int) ∈ bW := bW_at 1124 (by decide +kernel) (by decide +kernel)
theorem mw_844 : Cond.methodLink RL 158 yX11_afternoon ∈ bW := bW_at 1121 (by decide +kernel) (by decide +kernel)
theorem mw_845 : Cond.instanceMethod yX11_afternoon ∈ bW := bW_at 1122 (by decide +kernel) (by decide +kernel)
theorem mw_846 : Cond.selects RX11 yX11_afternoon yX11_afternoon ∈ bW := bW_at 1123 (by decide +kernel) (by decide +kernel)
theorem mw_847 : Cond.code yX12_afternoon cX12_afternoon 4 (some .int) ∈ bW := bW_at 1819 (by decide +kernel) (by decide +kernel)
theorem mw_848 : Cond.methodLink RL 161 yX12_afternoon ∈ bW := bW_at 1816 (by decide +kernel) (by decide +kernel)
theorem mw_849 : Cond.instanceMethod yX12_afternoon ∈ bW := bW_at 1817 (by decide +kernel) (by decide +kernel)
theorem mw_850 : Cond.selects RX12 yX12_afternoon yX12_afternoon ∈ bW := bW_at 1818 (by decide +kernel) (by decide +kernel)
theorem mw_851 : Cond.code yX11_sumBack cX11_sumBack 2 (some .int) ∈ bW := bW_at 1140 (by decide +kernel) (by decide +kernel)
theorem mw_852 : Cond.methodLink RL 162 yX11_sumBack ∈ bW := bW_at 1137 (by decide +kernel) (by decide +kernel)
theorem mw_853 : Cond.instanceMethod yX11_sumBack ∈ bW := bW_at 1138 (by decide +kernel) (by decide +kernel)
theorem mw_854 : Cond.selects RX11 yX11_sumBack yX11_sumBack ∈ bW := bW_at 1139 (by decide +kernel) (by decide +kernel)
theorem mw_855 : Cond.code yX12_sumBack cX12_sumBack 2 (some .int) ∈ bW := bW_at 1828 (by decide +kernel) (by decide +kernel)
theorem mw_856 : Cond.methodLink RL 165 yX12_sumBack ∈ bW := bW_at 1825 (by decide +kernel) (by decide +kernel)
theorem mw_857 : Cond.instanceMethod yX12_sumBack ∈ bW := bW_at 1826 (by decide +kernel) (by decide +kernel)
theorem mw_858 : Cond.selects RX12 yX12_sumBack yX12_sumBack ∈ bW := bW_at 1827 (by decide +kernel) (by decide +kernel)
theorem mw_859 : Cond.code yX11_walk cX11_walk 8 (some .int) ∈ bW := bW_at 1144 (by decide +kernel) (by decide +kernel)
theorem mw_860 : Cond.methodLink RL 166 yX11_walk ∈ bW := bW_at 1141 (by decide +kernel) (by decide +kernel)
theorem mw_861 : Cond.instanceMethod yX11_walk ∈ bW := bW_at 1142 (by decide +kernel) (by decide +kernel)
theorem mw_862 : Cond.selects RX11 yX11_walk yX11_walk ∈ bW := bW_at 1143 (by decide +kernel) (by decide +kernel)
theorem mw_863 : Cond.code yX12_walk cX12_walk 9 (some .int) ∈ bW := bW_at 1832 (by decide +kernel) (by decide +kernel)
theorem mw_864 : Cond.methodLink RL 169 yX12_walk ∈ bW := bW_at 1829 (by decide +kernel) (by decide +kernel)
theorem mw_865 : Cond.instanceMethod yX12_walk ∈ bW := bW_at 1830 (by decide +kernel) (by decide +kernel)
theorem mw_866 : Cond.selects RX12 yX12_walk yX12_walk ∈ bW := bW_at 1831 (by decide +kernel) (by decide +kernel)
theorem mw_867 : Cond.code yX11_change cX11_change 1 (some .int) ∈ bW := bW_at 1152 (by decide +kernel) (by decide +kernel)
theorem mw_868 : Cond.methodLink RL 170 yX11_change ∈ bW := bW_at 1149 (by decide +kernel) (by decide +kernel)
theorem mw_869 : Cond.instanceMethod yX11_change ∈ bW := bW_at 1150 (by decide +kernel) (by decide +kernel)
theorem mw_870 : Cond.selects RX11 yX11_change yX11_change ∈ bW := bW_at 1151 (by decide +kernel) (by decide +kernel)
theorem mw_871 : Cond.code yX12_change cX12_change 3 (some .int) ∈ bW := bW_at 1837 (by decide +kernel) (by decide +kernel)
theorem mw_872 : Cond.methodLink RL 173 yX12_change ∈ bW := bW_at 1834 (by decide +kernel) (by decide +kernel)
theorem mw_873 : Cond.instanceMethod yX12_change ∈ bW := bW_at 1835 (by decide +kernel) (by decide +kernel)
theorem mw_874 : Cond.selects RX12 yX12_change yX12_change ∈ bW := bW_at 1836 (by decide +kernel) (by decide +kernel)
theorem mw_875 : Cond.code yX11_signs cX11_signs 2 (some .int) ∈ bW := bW_at 1160 (by decide +kernel) (by decide +kernel)
theorem mw_876 : Cond.methodLink RL 174 yX11_signs ∈ bW := bW_at 1157 (by decide +kernel) (by decide +kernel)
theorem mw_877 : Cond.instanceMethod yX11_signs ∈ bW := bW_at 1158 (by decide +kernel) (by decide +kernel)
theorem mw_878 : Cond.selects RX11 yX11_signs yX11_signs ∈ bW := bW_at 1159 (by decide +kernel) (by decide +kernel)
theorem mw_879 : Cond.code yX12_signs cX12_signs 2 (some .int) ∈ bW := bW_at 1841 (by decide +kernel) (by decide +kernel)
theorem mw_880 : Cond.methodLink RL 177 yX12_signs ∈ bW := bW_at 1838 (by decide +kernel) (by decide +kernel)
theorem mw_881 : Cond.instanceMethod yX12_signs ∈ bW := bW_at 1839 (by decide +kernel) (by decide +kernel)
theorem mw_882 : Cond.selects RX12 yX12_signs yX12_signs ∈ bW := bW_at 1840 (by decide +kernel) (by decide +kernel)
theorem mw_883 : Cond.code yX11_gone cX11_gone 4 (some .int) ∈ bW := bW_at 1169 (by decide +kernel) (by decide +kernel)
theorem mw_884 : Cond.methodLink RL 178 yX11_gone ∈ bW := bW_at 1166 (by decide +kernel) (by decide +kernel)
theorem mw_885 : Cond.instanceMethod yX11_gone ∈ bW := bW_at 1167 (by decide +kernel) (by decide +kernel)
theorem mw_886 : Cond.selects RX11 yX11_gone yX11_gone ∈ bW := bW_at 1168 (by decide +kernel) (by decide +kernel)
theorem mw_887 : Cond.code yX12_gone cX12_gone 8 (some .int) ∈ bW := bW_at 1849 (by decide +kernel) (by decide +kernel)
theorem mw_888 : Cond.methodLink RL 181 yX12_gone ∈ bW := bW_at 1846 (by decide +kernel) (by decide +kernel)
theorem mw_889 : Cond.instanceMethod yX12_gone ∈ bW := bW_at 1847 (by decide +kernel) (by decide +kernel)
theorem mw_890 : Cond.selects RX12 yX12_gone yX12_gone ∈ bW := bW_at 1848 (by decide +kernel) (by decide +kernel)
theorem mw_891 : Cond.code yX11_load cX11_load 3 (some .int) ∈ bW := bW_at 1177 (by decide +kernel) (by decide +kernel)
theorem mw_892 : Cond.methodLink RL 182 yX11_load ∈ bW := bW_at 1174 (by decide +kernel) (by decide +kernel)
theorem mw_893 : Cond.instanceMethod yX11_load ∈ bW := bW_at 1175 (by decide +kernel) (by decide +kernel)
theorem mw_894 : Cond.selects RX11 yX11_load yX11_load ∈ bW := bW_at 1176 (by decide +kernel) (by decide +kernel)
theorem mw_895 : Cond.code yX12_load cX12_load 3 (some .int) ∈ bW := bW_at 1853 (by decide +kernel) (by decide +kernel)
theorem mw_896 : Cond.methodLink RL 185 yX12_load ∈ bW := bW_at 1850 (by decide +kernel) (by decide +kernel)
theorem mw_897 : Cond.instanceMethod yX12_load ∈ bW := bW_at 1851 (by decide +kernel) (by decide +kernel)
theorem mw_898 : Cond.selects RX12 yX12_load yX12_load ∈ bW := bW_at 1852 (by decide +kernel) (by decide +kernel)
theorem mw_899 : Cond.code yX11_busiest cX11_busiest 4 (some .int) ∈ bW := bW_at 1185 (by decide +kernel) (by decide +kernel)
theorem mw_900 : Cond.methodLink RL 186 yX11_busiest ∈ bW := bW_at 1182 (by decide +kernel) (by decide +kernel)
theorem mw_901 : Cond.instanceMethod yX11_busiest ∈ bW := bW_at 1183 (by decide +kernel) (by decide +kernel)
theorem mw_902 : Cond.selects RX11 yX11_busiest yX11_busiest ∈ bW := bW_at 1184 (by decide +kernel) (by decide +kernel)
theorem mw_903 : Cond.code yX12_busiest cX12_busiest 4 (some .int) ∈ bW := bW_at 1861 (by decide +kernel) (by decide +kernel)
theorem mw_904 : Cond.methodLink RL 189 yX12_busiest ∈ bW := bW_at 1858 (by decide +kernel) (by decide +kernel)
theorem mw_905 : Cond.instanceMethod yX12_busiest ∈ bW := bW_at 1859 (by decide +kernel) (by decide +kernel)
theorem mw_906 : Cond.selects RX12 yX12_busiest yX12_busiest ∈ bW := bW_at 1860 (by decide +kernel) (by decide +kernel)
theorem mw_907 : Cond.code yX11_judge cX11_judge 4 (some .int) ∈ bW := bW_at 1189 (by decide +kernel) (by decide +kernel)
theorem mw_908 : Cond.methodLink RL 190 yX11_judge ∈ bW := bW_at 1186 (by decide +kernel) (by decide +kernel)
theorem mw_909 : Cond.instanceMethod yX11_judge ∈ bW := bW_at 1187 (by decide +kernel) (by decide +kernel)
theorem mw_910 : Cond.selects RX11 yX11_judge yX11_judge ∈ bW := bW_at 1188 (by decide +kernel) (by decide +kernel)
theorem mw_911 : Cond.code yX12_judge cX12_judge 6 (some .int) ∈ bW := bW_at 1865 (by decide +kernel) (by decide +kernel)
theorem mw_912 : Cond.methodLink RL 193 yX12_judge ∈ bW := bW_at 1862 (by decide +kernel) (by decide +kernel)
theorem mw_913 : Cond.instanceMethod yX12_judge ∈ bW := bW_at 1863 (by decide +kernel) (by decide +kernel)
theorem mw_914 : Cond.selects RX12 yX12_judge yX12_judge ∈ bW := bW_at 1864 (by decide +kernel) (by decide +kernel)
theorem mw_915 : Cond.code yX11_spare cX11_spare 7 (some .int) ∈ bW := bW_at 1205 (by decide +kernel) (by decide +kernel)
theorem mw_916 : Cond.methodLink RL 194 yX11_spare ∈ bW := bW_at 1202 (by decide +kernel) (by decide +kernel)
theorem mw_917 : Cond.instanceMethod yX11_spare ∈ bW := bW_at 1203 (by decide +kernel) (by decide +kernel)
theorem mw_918 : Cond.selects RX11 yX11_spare yX11_spare ∈ bW := bW_at 1204 (by decide +kernel) (by decide +kernel)
theorem mw_919 : Cond.code yX12_spare cX12_spare 7 (some .int) ∈ bW := bW_at 1874 (by decide +kernel) (by decide +kernel)
theorem mw_920 : Cond.methodLink RL 197 yX12_spare ∈ bW := bW_at 1871 (by decide +kernel) (by decide +kernel)
theorem mw_921 : Cond.instanceMethod yX12_spare ∈ bW := bW_at 1872 (by decide +kernel) (by decide +kernel)
theorem mw_922 : Cond.selects RX12 yX12_spare yX12_spare ∈ bW := bW_at 1873 (by decide +kernel) (by decide +kernel)
theorem mw_923 : Cond.code yX11_spared cX11_spared 2 (some .int) ∈ bW := bW_at 1214 (by decide +kernel) (by decide +kernel)
theorem mw_924 : Cond.methodLink RL 198 yX11_spared ∈ bW := bW_at 1211 (by decide +kernel) (by decide +kernel)
theorem mw_925 : Cond.instanceMethod yX11_spared ∈ bW := bW_at 1212 (by decide +kernel) (by decide +kernel)
theorem mw_926 : Cond.selects RX11 yX11_spared yX11_spared ∈ bW := bW_at 1213 (by decide +kernel) (by decide +kernel)
theorem mw_927 : Cond.code yX12_spared cX12_spared 2 (some .int) ∈ bW := bW_at 1883 (by decide +kernel) (by decide +kernel)
theorem mw_928 : Cond.methodLink RL 201 yX12_spared ∈ bW := bW_at 1880 (by decide +kernel) (by decide +kernel)
theorem mw_929 : Cond.instanceMethod yX12_spared ∈ bW := bW_at 1881 (by decide +kernel) (by decide +kernel)
theorem mw_930 : Cond.selects RX12 yX12_spared yX12_spared ∈ bW := bW_at 1882 (by decide +kernel) (by decide +kernel)
theorem mw_931 : Cond.code yX11_alley cX11_alley 3 (some .int) ∈ bW := bW_at 1218 (by decide +kernel) (by decide +kernel)
theorem mw_932 : Cond.methodLink RL 202 yX11_alley ∈ bW := bW_at 1215 (by decide +kernel) (by decide +kernel)
theorem mw_933 : Cond.instanceMethod yX11_alley ∈ bW := bW_at 1216 (by decide +kernel) (by decide +kernel)
theorem mw_934 : Cond.selects RX11 yX11_alley yX11_alley ∈ bW := bW_at 1217 (by decide +kernel) (by decide +kernel)
theorem mw_935 : Cond.code yX12_alley cX12_alley 3 (some .int) ∈ bW := bW_at 1887 (by decide +kernel) (by decide +kernel)
theorem mw_936 : Cond.methodLink RL 205 yX12_alley ∈ bW := bW_at 1884 (by decide +kernel) (by decide +kernel)
theorem mw_937 : Cond.instanceMethod yX12_alley ∈ bW := bW_at 1885 (by decide +kernel) (by decide +kernel)
theorem mw_938 : Cond.selects RX12 yX12_alley yX12_alley ∈ bW := bW_at 1886 (by decide +kernel) (by decide +kernel)
theorem mw_939 : Cond.code yX11_street cX11_street 4 (some .int) ∈ bW := bW_at 1223 (by decide +kernel) (by decide +kernel)
theorem mw_940 : Cond.methodLink RL 206 yX11_street ∈ bW := bW_at 1220 (by decide +kernel) (by decide +kernel)
theorem mw_941 : Cond.instanceMethod yX11_street ∈ bW := bW_at 1221 (by decide +kernel) (by decide +kernel)
theorem mw_942 : Cond.selects RX11 yX11_street yX11_street ∈ bW := bW_at 1222 (by decide +kernel) (by decide +kernel)
theorem mw_943 : Cond.code yX12_street cX12_street 4 (some .int) ∈ bW := bW_at 1893 (by decide +kernel) (by decide +kernel)
theorem mw_944 : Cond.methodLink RL 209 yX12_street ∈ bW := bW_at 1890 (by decide +kernel) (by decide +kernel)
theorem mw_945 : Cond.instanceMethod yX12_street ∈ bW := bW_at 1891 (by decide +kernel) (by decide +kernel)
theorem mw_946 : Cond.selects RX12 yX12_street yX12_street ∈ bW := bW_at 1892 (by decide +kernel) (by decide +kernel)
theorem mw_947 : Cond.code yX11_journey cX11_journey 4 (some .int) ∈ bW := bW_at 1227 (by decide +kernel) (by decide +kernel)
theorem mw_948 : Cond.methodLink RL 210 yX11_journey ∈ bW := bW_at 1224 (by decide +kernel) (by decide +kernel)
theorem mw_949 : Cond.instanceMethod yX11_journey ∈ bW := bW_at 1225 (by decide +kernel) (by decide +kernel)
theorem mw_950 : Cond.selects RX11 yX11_journey yX11_journey ∈ bW := bW_at 1226 (by decide +kernel) (by decide +kernel)
theorem mw_951 : Cond.code yX12_journey cX12_journey 4 (some .int) ∈ bW := bW_at 1897 (by decide +kernel) (by decide +kernel)
theorem mw_952 : Cond.methodLink RL 213 yX12_journey ∈ bW := bW_at 1894 (by decide +kernel) (by decide +kernel)
theorem mw_953 : Cond.instanceMethod yX12_journey ∈ bW := bW_at 1895 (by decide +kernel) (by decide +kernel)
theorem mw_954 : Cond.selects RX12 yX12_journey yX12_journey ∈ bW := bW_at 1896 (by decide +kernel) (by decide +kernel)
theorem mw_955 : Cond.code yX11_count cX11_count 2 (some .int) ∈ bW := bW_at 1231 (by decide +kernel) (by decide +kernel)
theorem mw_956 : Cond.methodLink RL 214 yX11_count ∈ bW := bW_at 1228 (by decide +kernel) (by decide +kernel)
theorem mw_957 : Cond.instanceMethod yX11_count ∈ bW := bW_at 1229 (by decide +kernel) (by decide +kernel)
theorem mw_958 : Cond.selects RX11 yX11_count yX11_count ∈ bW := bW_at 1230 (by decide +kernel) (by decide +kernel)
theorem mw_959 : Cond.code yX12_count cX12_count 4 (some .int) ∈ bW := bW_at 1901 (by decide +kernel) (by decide +kernel)
theorem mw_960 : Cond.methodLink RL 217 yX12_count ∈ bW := bW_at 1898 (by decide +kernel) (by decide +kernel)
theorem mw_961 : Cond.instanceMethod yX12_count ∈ bW := bW_at 1899 (by decide +kernel) (by decide +kernel)
theorem mw_962 : Cond.selects RX12 yX12_count yX12_count ∈ bW := bW_at 1900 (by decide +kernel) (by decide +kernel)
theorem mw_963 : Cond.code yX11_keep cX11_keep 2 (some .int) ∈ bW := bW_at 1243 (by decide +kernel) (by decide +kernel)
theorem mw_964 : Cond.methodLink RL 218 yX11_keep ∈ bW := bW_at 1240 (by decide +kernel) (by decide +kernel)
theorem mw_965 : Cond.instanceMethod yX11_keep ∈ bW := bW_at 1241 (by decide +kernel) (by decide +kernel)
theorem mw_966 : Cond.selects RX11 yX11_keep yX11_keep ∈ bW := bW_at 1242 (by decide +kernel) (by decide +kernel)
theorem mw_967 : Cond.code yX12_keep cX12_keep 3 (some .int) ∈ bW := bW_at 1422 (by decide +kernel) (by decide +kernel)
theorem mw_968 : Cond.methodLink RL 221 yX12_keep ∈ bW := bW_at 1419 (by decide +kernel) (by decide +kernel)
theorem mw_969 : Cond.instanceMethod yX12_keep ∈ bW := bW_at 1420 (by decide +kernel) (by decide +kernel)
theorem mw_970 : Cond.selects RX12 yX12_keep yX12_keep ∈ bW := bW_at 1421 (by decide +kernel) (by decide +kernel)
theorem mw_971 : Cond.code yX11_back cX11_back 2 (some .int) ∈ bW := bW_at 1267 (by decide +kernel) (by decide +kernel)
theorem mw_972 : Cond.methodLink RL 222 yX11_back ∈ bW := bW_at 1264 (by decide +kernel) (by decide +kernel)
theorem mw_973 : Cond.instanceMethod yX11_back ∈ bW := bW_at 1265 (by decide +kernel) (by decide +kernel)
theorem mw_974 : Cond.selects RX11 yX11_back yX11_back ∈ bW := bW_at 1266 (by decide +kernel) (by decide +kernel)
theorem mw_975 : Cond.code yX12_back cX12_back 3 (some .int) ∈ bW := bW_at 1430 (by decide +kernel) (by decide +kernel)
theorem mw_976 : Cond.methodLink RL 225 yX12_back ∈ bW := bW_at 1427 (by decide +kernel) (by decide +kernel)
theorem mw_977 : Cond.instanceMethod yX12_back ∈ bW := bW_at 1428 (by decide +kernel) (by decide +kernel)
theorem mw_978 : Cond.selects RX12 yX12_back yX12_back ∈ bW := bW_at 1429 (by decide +kernel) (by decide +kernel)
theorem mw_979 : Cond.code yX11_row cX11_row 4 (some .int) ∈ bW := bW_at 1271 (by decide +kernel) (by decide +kernel)
theorem mw_980 : Cond.methodLink RL 226 yX11_row ∈ bW := bW_at 1268 (by decide +kernel) (by decide +kernel)
theorem mw_981 : Cond.instanceMethod yX11_row ∈ bW := bW_at 1269 (by decide +kernel) (by decide +kernel)
theorem mw_982 : Cond.selects RX11 yX11_row yX11_row ∈ bW := bW_at 1270 (by decide +kernel) (by decide +kernel)
theorem mw_983 : Cond.code yX12_row cX12_row 5 (some .int) ∈ bW := bW_at 1913 (by decide +kernel) (by decide +kernel)
theorem mw_984 : Cond.methodLink RL 229 yX12_row ∈ bW := bW_at 1910 (by decide +kernel) (by decide +kernel)
theorem mw_985 : Cond.instanceMethod yX12_row ∈ bW := bW_at 1911 (by decide +kernel) (by decide +kernel)
theorem mw_986 : Cond.selects RX12 yX12_row yX12_row ∈ bW := bW_at 1912 (by decide +kernel) (by decide +kernel)
theorem mw_987 : Cond.constantLong RL 230 4294967295 ∈ bW := bW_at 1925 (by decide +kernel) (by decide +kernel)
theorem mw_988 : Cond.code yX11_write cX11_write 6 (some .int) ∈ bW := bW_at 1282 (by decide +kernel) (by decide +kernel)
theorem mw_989 : Cond.methodLink RL 232 yX11_write ∈ bW := bW_at 1279 (by decide +kernel) (by decide +kernel)
theorem mw_990 : Cond.instanceMethod yX11_write ∈ bW := bW_at 1280 (by decide +kernel) (by decide +kernel)
theorem mw_991 : Cond.selects RX11 yX11_write yX11_write ∈ bW := bW_at 1281 (by decide +kernel) (by decide +kernel)
theorem mw_992 : Cond.code yX12_write cX12_write 5 (some .int) ∈ bW := bW_at 1917 (by decide +kernel) (by decide +kernel)
theorem mw_993 : Cond.methodLink RL 236 yX12_write ∈ bW := bW_at 1914 (by decide +kernel) (by decide +kernel)
theorem mw_994 : Cond.instanceMethod yX12_write ∈ bW := bW_at 1915 (by decide +kernel) (by decide +kernel)
theorem mw_995 : Cond.selects RX12 yX12_write yX12_write ∈ bW := bW_at 1916 (by decide +kernel) (by decide +kernel)
theorem mw_996 : Cond.code yX11_paste cX11_paste 8 (some .int) ∈ bW := bW_at 1290 (by decide +kernel) (by decide +kernel)
theorem mw_997 : Cond.methodLink RL 237 yX11_paste ∈ bW := bW_at 1287 (by decide +kernel) (by decide +kernel)
theorem mw_998 : Cond.instanceMethod yX11_paste ∈ bW := bW_at 1288 (by decide +kernel) (by decide +kernel)
theorem mw_999 : Cond.selects RX11 yX11_paste yX11_paste ∈ bW := bW_at 1289 (by decide +kernel) (by decide +kernel)
theorem mw_1000 : Cond.code yX12_paste cX12_paste 7 (some .int) ∈ bW := bW_at 1924 (by decide +kernel) (by decide +kernel)
theorem mw_1001 : Cond.methodLink RL 240 yX12_paste ∈ bW := bW_at 1921 (by decide +kernel) (by decide +kernel)
theorem mw_1002 : Cond.instanceMethod yX12_paste ∈ bW := bW_at 1922 (by decide +kernel) (by decide +kernel)
theorem mw_1003 : Cond.selects RX12 yX12_paste yX12_paste ∈ bW := bW_at 1923 (by decide +kernel) (by decide +kernel)
theorem mw_1004 : Cond.classLink RL 7 RX11 ∈ bW := bW_at 124 (by decide +kernel) (by decide +kernel)
theorem mw_1005 : Cond.instantiable RX11 15 ∈ bW := bW_at 125 (by decide +kernel) (by decide +kernel)
theorem mw_1006 : Cond.code yX11_init cX11_init 2 none ∈ bW := bW_at 128 (by decide +kernel) (by decide +kernel)
theorem mw_1007 : Cond.methodLink RL 9 yX11_init ∈ bW := bW_at 126 (by decide +kernel) (by decide +kernel)
theorem mw_1008 : Cond.instanceMethod yX11_init ∈ bW := bW_at 127 (by decide +kernel) (by decide +kernel)
theorem mw_1009 : Cond.classLink RL 10 RX12 ∈ bW := bW_at 1295 (by decide +kernel) (by decide +kernel)
theorem mw_1010 : Cond.instantiable RX12 38 ∈ bW := bW_at 1296 (by decide +kernel) (by decide +kernel)
theorem mw_1011 : Cond.code yX12_init cX12_init 1 none ∈ bW := bW_at 1299 (by decide +kernel) (by decide +kernel)
theorem mw_1012 : Cond.methodLink RL 12 yX12_init ∈ bW := bW_at 1297 (by decide +kernel) (by decide +kernel)
theorem mw_1013 : Cond.instanceMethod yX12_init ∈ bW := bW_at 1298 (by decide +kernel) (by decide +kernel)
