theorem dX6_isSame_334 : decode cX6_isSame 334 = .ok (.iconst 5, 1) := by decide +kernel
theorem dX6_isSame_335 : decode cX6_isSame 335 = .ok (.newarray .int, 2) := by decide +kernel
theorem dX6_isSame_337 : decode cX6_isSame 337 = .ok (.dup, 1) := by decide +kernel
theorem dX6_isSame_338 : decode cX6_isSame 338 = .ok (.iconst 0, 1) := by decide +kernel
theorem dX6_isSame_339 : decode cX6_isSame 339 = .ok (.aload 6, 2) := by decide +kernel
theorem dX6_isSame_341 : decode cX6_isSame 341 = .ok (.iconst 0, 1) := by decide +kernel
theorem dX6_isSame_342 : decode cX6_isSame 342 = .ok (.iaload, 1) := by decide +kernel
theorem dX6_isSame_343 : decode cX6_isSame 343 = .ok (.iastore, 1) := by decide +kernel
theorem dX6_isSame_344 : decode cX6_isSame 344 = .ok (.dup, 1) := by decide +kernel
theorem dX6_isSame_345 : decode cX6_isSame 345 = .ok (.iconst 1, 1) := by decide +kernel
theorem dX6_isSame_346 : decode cX6_isSame 346 = .ok (.aload 6, 2) := by decide +kernel
theorem dX6_isSame_348 : decode cX6_isSame 348 = .ok (.iconst 1, 1) := by decide +kernel
theorem dX6_isSame_349 : decode cX6_isSame 349 = .ok (.iaload, 1) := by decide +kernel
theorem dX6_isSame_350 : decode cX6_isSame 350 = .ok (.iastore, 1) := by decide +kernel
theorem dX6_isSame_351 : decode cX6_isSame 351 = .ok (.dup, 1) := by decide +kernel
theorem dX6_isSame_352 : decode cX6_isSame 352 = .ok (.iconst 2, 1) := by decide +kernel
theorem dX6_isSame_353 : decode cX6_isSame 353 = .ok (.aload 6, 2) := by decide +kernel
theorem dX6_isSame_355 : decode cX6_isSame 355 = .ok (.iconst 2, 1) := by decide +kernel
theorem dX6_isSame_356 : decode cX6_isSame 356 = .ok (.iaload, 1) := by decide +kernel
theorem dX6_isSame_357 : decode cX6_isSame 357 = .ok (.iastore, 1) := by decide +kernel
theorem dX6_isSame_358 : decode cX6_isSame 358 = .ok (.dup, 1) := by decide +kernel
theorem dX6_isSame_359 : decode cX6_isSame 359 = .ok (.iconst 3, 1) := by decide +kernel
theorem dX6_isSame_360 : decode cX6_isSame 360 = .ok (.aload 6, 2) := by decide +kernel
theorem dX6_isSame_362 : decode cX6_isSame 362 = .ok (.iconst 3, 1) := by decide +kernel
theorem dX6_isSame_363 : decode cX6_isSame 363 = .ok (.iaload, 1) := by decide +kernel
theorem dX6_isSame_364 : decode cX6_isSame 364 = .ok (.iastore, 1) := by decide +kernel
theorem dX6_isSame_365 : decode cX6_isSame 365 = .ok (.dup, 1) := by decide +kernel
theorem dX6_isSame_366 : decode cX6_isSame 366 = .ok (.iconst 4, 1) := by decide +kernel
theorem dX6_isSame_367 : decode cX6_isSame 367 = .ok (.iload 7, 2) := by decide +kernel
theorem dX6_isSame_369 : decode cX6_isSame 369 = .ok (.iastore, 1) := by decide +kernel
theorem dX6_isSame_370 : decode cX6_isSame 370 = .ok (.astore 8, 2) := by decide +kernel
theorem dX6_isSame_372 : decode cX6_isSame 372 = .ok (.iconst 0, 1) := by decide +kernel
theorem dX6_isSame_373 : decode cX6_isSame 373 = .ok (.istore 9, 2) := by decide +kernel
theorem dX6_isSame_375 : decode cX6_isSame 375 = .ok (.iload 9, 2) := by decide +kernel
theorem dX6_isSame_377 : decode cX6_isSame 377 = .ok (.iconst 5, 1) := by decide +kernel
theorem dX6_isSame_378 : decode cX6_isSame 378 = .ok (.if_icmp .ge 27, 3) := by decide +kernel
theorem dX6_isSame_381 : decode cX6_isSame 381 = .ok (.aload_n 1, 1) := by decide +kernel
theorem dX6_isSame_382 : decode cX6_isSame 382 = .ok (.iload 5, 2) := by decide +kernel
theorem dX6_isSame_384 : decode cX6_isSame 384 = .ok (.iload 9, 2) := by decide +kernel
theorem dX6_isSame_386 : decode cX6_isSame 386 = .ok (.invokevirtual 88, 3) := by decide +kernel
theorem dX6_isSame_389 : decode cX6_isSame 389 = .ok (.aload 8, 2) := by decide +kernel
theorem dX6_isSame_391 : decode cX6_isSame 391 = .ok (.iload 9, 2) := by decide +kernel
theorem dX6_isSame_393 : decode cX6_isSame 393 = .ok (.iaload, 1) := by decide +kernel
theorem dX6_isSame_394 : decode cX6_isSame 394 = .ok (.if_icmp .eq 5, 3) := by decide +kernel
theorem dX6_isSame_397 : decode cX6_isSame 397 = .ok (.iconst 0, 1) := by decide +kernel
theorem dX6_isSame_398 : decode cX6_isSame 398 = .ok (.ireturn, 1) := by decide +kernel
theorem dX6_isSame_399 : decode cX6_isSame 399 = .ok (.iinc 9 1, 3) := by decide +kernel
theorem dX6_isSame_402 : decode cX6_isSame 402 = .ok (.goto (-27), 3) := by decide +kernel
theorem dX6_isSame_405 : decode cX6_isSame 405 = .ok (.iinc 5 1, 3) := by decide +kernel
theorem dX6_isSame_408 : decode cX6_isSame 408 = .ok (.goto (-146), 3) := by decide +kernel
theorem dX6_isSame_411 : decode cX6_isSame 411 = .ok (.iconst 0, 1) := by decide +kernel
theorem dX6_isSame_412 : decode cX6_isSame 412 = .ok (.istore 5, 2) := by decide +kernel
theorem dX6_isSame_414 : decode cX6_isSame 414 = .ok (.iload 5, 2) := by decide +kernel
theorem dX6_isSame_416 : decode cX6_isSame 416 = .ok (.aload_n 0, 1) := by decide +kernel
theorem dX6_isSame_417 : decode cX6_isSame 417 = .ok (.getfield 14, 3) := by decide +kernel
theorem dX6_isSame_420 : decode cX6_isSame 420 = .ok (.arraylength, 1) := by decide +kernel
theorem dX6_isSame_421 : decode cX6_isSame 421 = .ok (.if_icmp .ge 165, 3) := by decide +kernel
theorem dX6_isSame_424 : decode cX6_isSame 424 = .ok (.iconst 0, 1) := by decide +kernel
theorem dX6_isSame_425 : decode cX6_isSame 425 = .ok (.istore 6, 2) := by decide +kernel
theorem dX6_isSame_427 : decode cX6_isSame 427 = .ok (.aload_n 0, 1) := by decide +kernel
theorem dX6_isSame_428 : decode cX6_isSame 428 = .ok (.getfield 18, 3) := by decide +kernel
theorem dX6_isSame_431 : decode cX6_isSame 431 = .ok (.astore 7, 2) := by decide +kernel
theorem dX6_isSame_433 : decode cX6_isSame 433 = .ok (.aload 7, 2) := by decide +kernel
theorem dX6_isSame_435 : decode cX6_isSame 435 = .ok (.arraylength, 1) := by decide +kernel
theorem dX6_isSame_436 : decode cX6_isSame 436 = .ok (.istore 8, 2) := by decide +kernel
theorem dX6_isSame_438 : decode cX6_isSame 438 = .ok (.iconst 0, 1) := by decide +kernel
theorem dX6_isSame_439 : decode cX6_isSame 439 = .ok (.istore 9, 2) := by decide +kernel
theorem dX6_isSame_441 : decode cX6_isSame 441 = .ok (.iload 9, 2) := by decide +kernel
theorem dX6_isSame_443 : decode cX6_isSame 443 = .ok (.iload 8, 2) := by decide +kernel
theorem dX6_isSame_445 : decode cX6_isSame 445 = .ok (.if_icmp .ge 35, 3) := by decide +kernel
theorem dX6_isSame_448 : decode cX6_isSame 448 = .ok (.aload 7, 2) := by decide +kernel
theorem dX6_isSame_450 : decode cX6_isSame 450 = .ok (.iload 9, 2) := by decide +kernel
theorem dX6_isSame_452 : decode cX6_isSame 452 = .ok (.aaload, 1) := by decide +kernel
theorem dX6_isSame_453 : decode cX6_isSame 453 = .ok (.astore 10, 2) := by decide +kernel
theorem dX6_isSame_455 : decode cX6_isSame 455 = .ok (.iload 6, 2) := by decide +kernel
theorem dX6_isSame_457 : decode cX6_isSame 457 = .ok (.aload 10, 2) := by decide +kernel
theorem dX6_isSame_459 : decode cX6_isSame 459 = .ok (.iconst 1, 1) := by decide +kernel
theorem dX6_isSame_460 : decode cX6_isSame 460 = .ok (.iaload, 1) := by decide +kernel
theorem dX6_isSame_461 : decode cX6_isSame 461 = .ok (.iload 5, 2) := by decide +kernel
theorem dX6_isSame_463 : decode cX6_isSame 463 = .ok (.if_icmp .ne 7, 3) := by decide +kernel
theorem dX6_isSame_466 : decode cX6_isSame 466 = .ok (.iconst 1, 1) := by decide +kernel
theorem dX6_isSame_467 : decode cX6_isSame 467 = .ok (.goto 4, 3) := by decide +kernel
theorem dX6_isSame_470 : decode cX6_isSame 470 = .ok (.iconst 0, 1) := by decide +kernel
theorem dX6_isSame_471 : decode cX6_isSame 471 = .ok (.iadd, 1) := by decide +kernel
theorem dX6_isSame_472 : decode cX6_isSame 472 = .ok (.istore 6, 2) := by decide +kernel
theorem dX6_isSame_474 : decode cX6_isSame 474 = .ok (.iinc 9 1, 3) := by decide +kernel
theorem dX6_isSame_477 : decode cX6_isSame 477 = .ok (.goto (-36), 3) := by decide +kernel
theorem dX6_isSame_480 : decode cX6_isSame 480 = .ok (.bipush 6, 2) := by decide +kernel
theorem dX6_isSame_482 : decode cX6_isSame 482 = .ok (.newarray .int, 2) := by decide +kernel
theorem dX6_isSame_484 : decode cX6_isSame 484 = .ok (.dup, 1) := by decide +kernel
theorem dX6_isSame_485 : decode cX6_isSame 485 = .ok (.iconst 0, 1) := by decide +kernel
theorem dX6_isSame_486 : decode cX6_isSame 486 = .ok (.aload_n 0, 1) := by decide +kernel
theorem dX6_isSame_487 : decode cX6_isSame 487 = .ok (.getfield 14, 3) := by decide +kernel
theorem dX6_isSame_490 : decode cX6_isSame 490 = .ok (.iload 5, 2) := by decide +kernel
theorem dX6_isSame_492 : decode cX6_isSame 492 = .ok (.aaload, 1) := by decide +kernel
theorem dX6_isSame_493 : decode cX6_isSame 493 = .ok (.iconst 0, 1) := by decide +kernel
theorem dX6_isSame_494 : decode cX6_isSame 494 = .ok (.iaload, 1) := by decide +kernel
theorem dX6_isSame_495 : decode cX6_isSame 495 = .ok (.iastore, 1) := by decide +kernel
theorem dX6_isSame_496 : decode cX6_isSame 496 = .ok (.dup, 1) := by decide +kernel
theorem dX6_isSame_497 : decode cX6_isSame 497 = .ok (.iconst 1, 1) := by decide +kernel
theorem dX6_isSame_498 : decode cX6_isSame 498 = .ok (.aload_n 0, 1) := by decide +kernel
theorem dX6_isSame_499 : decode cX6_isSame 499 = .ok (.getfield 14, 3) := by decide +kernel
theorem dX6_isSame_502 : decode cX6_isSame 502 = .ok (.iload 5, 2) := by decide +kernel
theorem dX6_isSame_504 : decode cX6_isSame 504 = .ok (.aaload, 1) := by decide +kernel
theorem dX6_isSame_505 : decode cX6_isSame 505 = .ok (.iconst 1, 1) := by decide +kernel
theorem dX6_isSame_506 : decode cX6_isSame 506 = .ok (.iaload, 1) := by decide +kernel
theorem dX6_isSame_507 : decode cX6_isSame 507 = .ok (.iastore, 1) := by decide +kernel
theorem dX6_isSame_508 : decode cX6_isSame 508 = .ok (.dup, 1) := by decide +kernel
theorem dX6_isSame_509 : decode cX6_isSame 509 = .ok (.iconst 2, 1) := by decide +kernel
theorem dX6_isSame_510 : decode cX6_isSame 510 = .ok (.aload_n 0, 1) := by decide +kernel
theorem dX6_isSame_511 : decode cX6_isSame 511 = .ok (.getfield 14, 3) := by decide +kernel
theorem dX6_isSame_514 : decode cX6_isSame 514 = .ok (.iload 5, 2) := by decide +kernel
theorem dX6_isSame_516 : decode cX6_isSame 516 = .ok (.aaload, 1) := by decide +kernel
theorem dX6_isSame_517 : decode cX6_isSame 517 = .ok (.iconst 2, 1) := by decide +kernel
theorem dX6_isSame_518 : decode cX6_isSame 518 = .ok (.iaload, 1) := by decide +kernel
theorem dX6_isSame_519 : decode cX6_isSame 519 = .ok (.iastore, 1) := by decide +kernel
theorem dX6_isSame_520 : decode cX6_isSame 520 = .ok (.dup, 1) := by decide +kernel
theorem dX6_isSame_521 : decode cX6_isSame 521 = .ok (.iconst 3, 1) := by decide +kernel
theorem dX6_isSame_522 : decode cX6_isSame 522 = .ok (.iload 6, 2) := by decide +kernel
theorem dX6_isSame_524 : decode cX6_isSame 524 = .ok (.iastore, 1) := by decide +kernel
theorem dX6_isSame_525 : decode cX6_isSame 525 = .ok (.dup, 1) := by decide +kernel
theorem dX6_isSame_526 : decode cX6_isSame 526 = .ok (.iconst 4, 1) := by decide +kernel
theorem dX6_isSame_527 : decode cX6_isSame 527 = .ok (.aload_n 0, 1) := by decide +kernel
theorem dX6_isSame_528 : decode cX6_isSame 528 = .ok (.getfield 14, 3) := by decide +kernel
theorem dX6_isSame_531 : decode cX6_isSame 531 = .ok (.iload 5, 2) := by decide +kernel
theorem dX6_isSame_533 : decode cX6_isSame 533 = .ok (.aaload, 1) := by decide +kernel
theorem dX6_isSame_534 : decode cX6_isSame 534 = .ok (.iconst 3, 1) := by decide +kernel
theorem dX6_isSame_535 : decode cX6_isSame 535 = .ok (.iaload, 1) := by decide +kernel
theorem dX6_isSame_536 : decode cX6_isSame 536 = .ok (.iastore, 1) := by decide +kernel
theorem dX6_isSame_537 : decode cX6_isSame 537 = .ok (.dup, 1) := by decide +kernel
theorem dX6_isSame_538 : decode cX6_isSame 538 = .ok (.iconst 5, 1) := by decide +kernel
theorem dX6_isSame_539 : decode cX6_isSame 539 = .ok (.aload_n 3, 1) := by decide +kernel
theorem dX6_isSame_540 : decode cX6_isSame 540 = .ok (.iload 5, 2) := by decide +kernel
theorem dX6_isSame_542 : decode cX6_isSame 542 = .ok (.iaload, 1) := by decide +kernel
theorem dX6_isSame_543 : decode cX6_isSame 543 = .ok (.iastore, 1) := by decide +kernel
theorem dX6_isSame_544 : decode cX6_isSame 544 = .ok (.astore 7, 2) := by decide +kernel
theorem dX6_isSame_546 : decode cX6_isSame 546 = .ok (.iconst 0, 1) := by decide +kernel
theorem dX6_isSame_547 : decode cX6_isSame 547 = .ok (.istore 8, 2) := by decide +kernel
theorem dX6_isSame_549 : decode cX6_isSame 549 = .ok (.iload 8, 2) := by decide +kernel
theorem dX6_isSame_551 : decode cX6_isSame 551 = .ok (.bipush 6, 2) := by decide +kernel
theorem dX6_isSame_553 : decode cX6_isSame 553 = .ok (.if_icmp .ge 27, 3) := by decide +kernel
theorem dX6_isSame_556 : decode cX6_isSame 556 = .ok (.aload_n 1, 1) := by decide +kernel
theorem dX6_isSame_557 : decode cX6_isSame 557 = .ok (.iload 5, 2) := by decide +kernel
theorem dX6_isSame_559 : decode cX6_isSame 559 = .ok (.iload 8, 2) := by decide +kernel
theorem dX6_isSame_561 : decode cX6_isSame 561 = .ok (.invokevirtual 91, 3) := by decide +kernel
theorem dX6_isSame_564 : decode cX6_isSame 564 = .ok (.aload 7, 2) := by decide +kernel
theorem dX6_isSame_566 : decode cX6_isSame 566 = .ok (.iload 8, 2) := by decide +kernel
theorem dX6_isSame_568 : decode cX6_isSame 568 = .ok (.iaload, 1) := by decide +kernel
theorem dX6_isSame_569 : decode cX6_isSame 569 = .ok (.if_icmp .eq 5, 3) := by decide +kernel
theorem dX6_isSame_572 : decode cX6_isSame 572 = .ok (.iconst 0, 1) := by decide +kernel
theorem dX6_isSame_573 : decode cX6_isSame 573 = .ok (.ireturn, 1) := by decide +kernel
theorem dX6_isSame_574 : decode cX6_isSame 574 = .ok (.iinc 8 1, 3) := by decide +kernel
theorem dX6_isSame_577 : decode cX6_isSame 577 = .ok (.goto (-28), 3) := by decide +kernel
theorem dX6_isSame_580 : decode cX6_isSame 580 = .ok (.iinc 5 1, 3) := by decide +kernel
theorem dX6_isSame_583 : decode cX6_isSame 583 = .ok (.goto (-169), 3) := by decide +kernel
theorem dX6_isSame_586 : decode cX6_isSame 586 = .ok (.iconst 0, 1) := by decide +kernel
theorem dX6_isSame_587 : decode cX6_isSame 587 = .ok (.istore 5, 2) := by decide +kernel
theorem dX6_isSame_589 : decode cX6_isSame 589 = .ok (.iload 5, 2) := by decide +kernel
theorem dX6_isSame_591 : decode cX6_isSame 591 = .ok (.aload_n 0, 1) := by decide +kernel
theorem dX6_isSame_592 : decode cX6_isSame 592 = .ok (.getfield 21, 3) := by decide +kernel
theorem dX6_isSame_595 : decode cX6_isSame 595 = .ok (.arraylength, 1) := by decide +kernel
theorem dX6_isSame_596 : decode cX6_isSame 596 = .ok (.if_icmp .ge 96, 3) := by decide +kernel
theorem dX6_isSame_599 : decode cX6_isSame 599 = .ok (.iconst 4, 1) := by decide +kernel
theorem dX6_isSame_600 : decode cX6_isSame 600 = .ok (.newarray .int, 2) := by decide +kernel
theorem dX6_isSame_602 : decode cX6_isSame 602 = .ok (.dup, 1) := by decide +kernel
theorem dX6_isSame_603 : decode cX6_isSame 603 = .ok (.iconst 0, 1) := by decide +kernel
theorem dX6_isSame_604 : decode cX6_isSame 604 = .ok (.aload_n 0, 1) := by decide +kernel
theorem dX6_isSame_605 : decode cX6_isSame 605 = .ok (.getfield 21, 3) := by decide +kernel
theorem dX6_isSame_608 : decode cX6_isSame 608 = .ok (.iload 5, 2) := by decide +kernel
theorem dX6_isSame_610 : decode cX6_isSame 610 = .ok (.aaload, 1) := by decide +kernel
theorem dX6_isSame_611 : decode cX6_isSame 611 = .ok (.iconst 0, 1) := by decide +kernel
theorem dX6_isSame_612 : decode cX6_isSame 612 = .ok (.iaload, 1) := by decide +kernel
theorem dX6_isSame_613 : decode cX6_isSame 613 = .ok (.iastore, 1) := by decide +kernel
theorem dX6_isSame_614 : decode cX6_isSame 614 = .ok (.dup, 1) := by decide +kernel
theorem dX6_isSame_615 : decode cX6_isSame 615 = .ok (.iconst 1, 1) := by decide +kernel
theorem dX6_isSame_616 : decode cX6_isSame 616 = .ok (.aload_n 0, 1) := by decide +kernel
theorem dX6_isSame_617 : decode cX6_isSame 617 = .ok (.iload 5, 2) := by decide +kernel
theorem dX6_isSame_619 : decode cX6_isSame 619 = .ok (.invokevirtual 93, 3) := by decide +kernel
theorem dX6_isSame_622 : decode cX6_isSame 622 = .ok (.iastore, 1) := by decide +kernel
theorem dX6_isSame_623 : decode cX6_isSame 623 = .ok (.dup, 1) := by decide +kernel
theorem dX6_isSame_624 : decode cX6_isSame 624 = .ok (.iconst 2, 1) := by decide +kernel
theorem dX6_isSame_625 : decode cX6_isSame 625 = .ok (.aload 4, 2) := by decide +kernel
theorem dX6_isSame_627 : decode cX6_isSame 627 = .ok (.iload 5, 2) := by decide +kernel
theorem dX6_isSame_629 : decode cX6_isSame 629 = .ok (.iaload, 1) := by decide +kernel
theorem dX6_isSame_630 : decode cX6_isSame 630 = .ok (.iastore, 1) := by decide +kernel
theorem dX6_isSame_631 : decode cX6_isSame 631 = .ok (.dup, 1) := by decide +kernel
theorem dX6_isSame_632 : decode cX6_isSame 632 = .ok (.iconst 3, 1) := by decide +kernel
theorem dX6_isSame_633 : decode cX6_isSame 633 = .ok (.aload_n 0, 1) := by decide +kernel
theorem dX6_isSame_634 : decode cX6_isSame 634 = .ok (.getfield 21, 3) := by decide +kernel
theorem dX6_isSame_637 : decode cX6_isSame 637 = .ok (.iload 5, 2) := by decide +kernel
theorem dX6_isSame_639 : decode cX6_isSame 639 = .ok (.aaload, 1) := by decide +kernel
theorem dX6_isSame_640 : decode cX6_isSame 640 = .ok (.iconst 1, 1) := by decide +kernel
theorem dX6_isSame_641 : decode cX6_isSame 641 = .ok (.iaload, 1) := by decide +kernel
theorem dX6_isSame_642 : decode cX6_isSame 642 = .ok (.ifCond .ge 7, 3) := by decide +kernel
theorem dX6_isSame_645 : decode cX6_isSame 645 = .ok (.iconst 0, 1) := by decide +kernel
theorem dX6_isSame_646 : decode cX6_isSame 646 = .ok (.goto 4, 3) := by decide +kernel
theorem dX6_isSame_649 : decode cX6_isSame 649 = .ok (.iconst 1, 1) := by decide +kernel
theorem dX6_isSame_650 : decode cX6_isSame 650 = .ok (.iastore, 1) := by decide +kernel
theorem dX6_isSame_651 : decode cX6_isSame 651 = .ok (.astore 6, 2) := by decide +kernel
theorem dX6_isSame_653 : decode cX6_isSame 653 = .ok (.iconst 0, 1) := by decide +kernel
theorem dX6_isSame_654 : decode cX6_isSame 654 = .ok (.istore 7, 2) := by decide +kernel
theorem dX6_isSame_656 : decode cX6_isSame 656 = .ok (.iload 7, 2) := by decide +kernel
theorem dX6_isSame_658 : decode cX6_isSame 658 = .ok (.iconst 4, 1) := by decide +kernel
theorem dX6_isSame_659 : decode cX6_isSame 659 = .ok (.if_icmp .ge 27, 3) := by decide +kernel
theorem dX6_isSame_662 : decode cX6_isSame 662 = .ok (.aload_n 1, 1) := by decide +kernel
theorem dX6_isSame_663 : decode cX6_isSame 663 = .ok (.iload 5, 2) := by decide +kernel
theorem dX6_isSame_665 : decode cX6_isSame 665 = .ok (.iload 7, 2) := by decide +kernel
theorem dX6_isSame_667 : decode cX6_isSame 667 = .ok (.invokevirtual 96, 3) := by decide +kernel
theorem dX6_isSame_670 : decode cX6_isSame 670 = .ok (.aload 6, 2) := by decide +kernel
theorem dX6_isSame_672 : decode cX6_isSame 672 = .ok (.iload 7, 2) := by decide +kernel
theorem dX6_isSame_674 : decode cX6_isSame 674 = .ok (.iaload, 1) := by decide +kernel
theorem dX6_isSame_675 : decode cX6_isSame 675 = .ok (.if_icmp .eq 5, 3) := by decide +kernel
theorem dX6_isSame_678 : decode cX6_isSame 678 = .ok (.iconst 0, 1) := by decide +kernel
theorem dX6_isSame_679 : decode cX6_isSame 679 = .ok (.ireturn, 1) := by decide +kernel
theorem dX6_isSame_680 : decode cX6_isSame 680 = .ok (.iinc 7 1, 3) := by decide +kernel
theorem dX6_isSame_683 : decode cX6_isSame 683 = .ok (.goto (-27), 3) := by decide +kernel
theorem dX6_isSame_686 : decode cX6_isSame 686 = .ok (.iinc 5 1, 3) := by decide +kernel
theorem dX6_isSame_689 : decode cX6_isSame 689 = .ok (.goto (-100), 3) := by decide +kernel
theorem dX6_isSame_692 : decode cX6_isSame 692 = .ok (.bipush 10, 2) := by decide +kernel
theorem dX6_isSame_694 : decode cX6_isSame 694 = .ok (.newarray .int, 2) := by decide +kernel
theorem dX6_isSame_696 : decode cX6_isSame 696 = .ok (.dup, 1) := by decide +kernel
theorem dX6_isSame_697 : decode cX6_isSame 697 = .ok (.iconst 0, 1) := by decide +kernel
theorem dX6_isSame_698 : decode cX6_isSame 698 = .ok (.aload_n 0, 1) := by decide +kernel
theorem dX6_isSame_699 : decode cX6_isSame 699 = .ok (.getfield 47, 3) := by decide +kernel
theorem dX6_isSame_702 : decode cX6_isSame 702 = .ok (.iastore, 1) := by decide +kernel
theorem dX6_isSame_703 : decode cX6_isSame 703 = .ok (.dup, 1) := by decide +kernel
theorem dX6_isSame_704 : decode cX6_isSame 704 = .ok (.iconst 1, 1) := by decide +kernel
theorem dX6_isSame_705 : decode cX6_isSame 705 = .ok (.aload_n 0, 1) := by decide +kernel
theorem dX6_isSame_706 : decode cX6_isSame 706 = .ok (.invokevirtual 61, 3) := by decide +kernel
theorem dX6_isSame_709 : decode cX6_isSame 709 = .ok (.iastore, 1) := by decide +kernel
theorem dX6_isSame_710 : decode cX6_isSame 710 = .ok (.dup, 1) := by decide +kernel
theorem dX6_isSame_711 : decode cX6_isSame 711 = .ok (.iconst 2, 1) := by decide +kernel
theorem dX6_isSame_712 : decode cX6_isSame 712 = .ok (.aload_n 0, 1) := by decide +kernel
theorem dX6_isSame_713 : decode cX6_isSame 713 = .ok (.invokevirtual 61, 3) := by decide +kernel
theorem dX6_isSame_716 : decode cX6_isSame 716 = .ok (.iconst 3, 1) := by decide +kernel
theorem dX6_isSame_717 : decode cX6_isSame 717 = .ok (.if_icmp .ge 7, 3) := by decide +kernel
theorem dX6_isSame_720 : decode cX6_isSame 720 = .ok (.iconst 0, 1) := by decide +kernel
theorem dX6_isSame_721 : decode cX6_isSame 721 = .ok (.goto 4, 3) := by decide +kernel
theorem dX6_isSame_724 : decode cX6_isSame 724 = .ok (.iconst 1, 1) := by decide +kernel
theorem dX6_isSame_725 : decode cX6_isSame 725 = .ok (.iastore, 1) := by decide +kernel
theorem dX6_isSame_726 : decode cX6_isSame 726 = .ok (.dup, 1) := by decide +kernel
theorem dX6_isSame_727 : decode cX6_isSame 727 = .ok (.iconst 3, 1) := by decide +kernel
theorem dX6_isSame_728 : decode cX6_isSame 728 = .ok (.aload_n 0, 1) := by decide +kernel
theorem dX6_isSame_729 : decode cX6_isSame 729 = .ok (.getfield 39, 3) := by decide +kernel
theorem dX6_isSame_732 : decode cX6_isSame 732 = .ok (.iastore, 1) := by decide +kernel
theorem dX6_isSame_733 : decode cX6_isSame 733 = .ok (.dup, 1) := by decide +kernel
theorem dX6_isSame_734 : decode cX6_isSame 734 = .ok (.iconst 4, 1) := by decide +kernel
theorem dX6_isSame_735 : decode cX6_isSame 735 = .ok (.aload_n 0, 1) := by decide +kernel
theorem dX6_isSame_736 : decode cX6_isSame 736 = .ok (.iconst 0, 1) := by decide +kernel
theorem dX6_isSame_737 : decode cX6_isSame 737 = .ok (.invokevirtual 98, 3) := by decide +kernel
theorem dX6_isSame_740 : decode cX6_isSame 740 = .ok (.iastore, 1) := by decide +kernel
theorem dX6_isSame_741 : decode cX6_isSame 741 = .ok (.dup, 1) := by decide +kernel
theorem dX6_isSame_742 : decode cX6_isSame 742 = .ok (.iconst 5, 1) := by decide +kernel
theorem dX6_isSame_743 : decode cX6_isSame 743 = .ok (.aload_n 0, 1) := by decide +kernel
theorem dX6_isSame_744 : decode cX6_isSame 744 = .ok (.iconst 1, 1) := by decide +kernel
theorem dX6_isSame_745 : decode cX6_isSame 745 = .ok (.invokevirtual 98, 3) := by decide +kernel
theorem dX6_isSame_748 : decode cX6_isSame 748 = .ok (.iastore, 1) := by decide +kernel
theorem dX6_isSame_749 : decode cX6_isSame 749 = .ok (.dup, 1) := by decide +kernel
theorem dX6_isSame_750 : decode cX6_isSame 750 = .ok (.bipush 6, 2) := by decide +kernel
theorem dX6_isSame_752 : decode cX6_isSame 752 = .ok (.aload_n 0, 1) := by decide +kernel
theorem dX6_isSame_753 : decode cX6_isSame 753 = .ok (.iconst 2, 1) := by decide +kernel
theorem dX6_isSame_754 : decode cX6_isSame 754 = .ok (.invokevirtual 98, 3) := by decide +kernel
theorem dX6_isSame_757 : decode cX6_isSame 757 = .ok (.iastore, 1) := by decide +kernel
theorem dX6_isSame_758 : decode cX6_isSame 758 = .ok (.dup, 1) := by decide +kernel
theorem dX6_isSame_759 : decode cX6_isSame 759 = .ok (.bipush 7, 2) := by decide +kernel
theorem dX6_isSame_761 : decode cX6_isSame 761 = .ok (.aload_n 0, 1) := by decide +kernel
theorem dX6_isSame_762 : decode cX6_isSame 762 = .ok (.iconst 3, 1) := by decide +kernel
theorem dX6_isSame_763 : decode cX6_isSame 763 = .ok (.invokevirtual 98, 3) := by decide +kernel
theorem dX6_isSame_766 : decode cX6_isSame 766 = .ok (.iastore, 1) := by decide +kernel
theorem dX6_isSame_767 : decode cX6_isSame 767 = .ok (.dup, 1) := by decide +kernel
theorem dX6_isSame_768 : decode cX6_isSame 768 = .ok (.bipush 8, 2) := by decide +kernel
theorem dX6_isSame_770 : decode cX6_isSame 770 = .ok (.aload_n 0, 1) := by decide +kernel
theorem dX6_isSame_771 : decode cX6_isSame 771 = .ok (.getfield 101, 3) := by decide +kernel
theorem dX6_isSame_774 : decode cX6_isSame 774 = .ok (.iastore, 1) := by decide +kernel
theorem dX6_isSame_775 : decode cX6_isSame 775 = .ok (.dup, 1) := by decide +kernel
theorem dX6_isSame_776 : decode cX6_isSame 776 = .ok (.bipush 9, 2) := by decide +kernel
theorem dX6_isSame_778 : decode cX6_isSame 778 = .ok (.aload_n 0, 1) := by decide +kernel
theorem dX6_isSame_779 : decode cX6_isSame 779 = .ok (.invokevirtual 104, 3) := by decide +kernel
theorem dX6_isSame_782 : decode cX6_isSame 782 = .ok (.iastore, 1) := by decide +kernel
theorem dX6_isSame_783 : decode cX6_isSame 783 = .ok (.astore 5, 2) := by decide +kernel
theorem dX6_isSame_785 : decode cX6_isSame 785 = .ok (.iconst 0, 1) := by decide +kernel
theorem dX6_isSame_786 : decode cX6_isSame 786 = .ok (.istore 6, 2) := by decide +kernel
theorem dX6_isSame_788 : decode cX6_isSame 788 = .ok (.iload 6, 2) := by decide +kernel
theorem dX6_isSame_790 : decode cX6_isSame 790 = .ok (.bipush 10, 2) := by decide +kernel
theorem dX6_isSame_792 : decode cX6_isSame 792 = .ok (.if_icmp .ge 25, 3) := by decide +kernel
theorem dX6_isSame_795 : decode cX6_isSame 795 = .ok (.aload_n 1, 1) := by decide +kernel
theorem dX6_isSame_796 : decode cX6_isSame 796 = .ok (.iload 6, 2) := by decide +kernel
theorem dX6_isSame_798 : decode cX6_isSame 798 = .ok (.invokevirtual 107, 3) := by decide +kernel
theorem dX6_isSame_801 : decode cX6_isSame 801 = .ok (.aload 5, 2) := by decide +kernel
theorem dX6_isSame_803 : decode cX6_isSame 803 = .ok (.iload 6, 2) := by decide +kernel
theorem dX6_isSame_805 : decode cX6_isSame 805 = .ok (.iaload, 1) := by decide +kernel
theorem dX6_isSame_806 : decode cX6_isSame 806 = .ok (.if_icmp .eq 5, 3) := by decide +kernel
theorem dX6_isSame_809 : decode cX6_isSame 809 = .ok (.iconst 0, 1) := by decide +kernel
theorem dX6_isSame_810 : decode cX6_isSame 810 = .ok (.ireturn, 1) := by decide +kernel
theorem dX6_isSame_811 : decode cX6_isSame 811 = .ok (.iinc 6 1, 3) := by decide +kernel
theorem dX6_isSame_814 : decode cX6_isSame 814 = .ok (.goto (-26), 3) := by decide +kernel
theorem dX6_isSame_817 : decode cX6_isSame 817 = .ok (.aload_n 1, 1) := by decide +kernel
theorem dX6_isSame_818 : decode cX6_isSame 818 = .ok (.invokevirtual 110, 3) := by decide +kernel
theorem dX6_isSame_821 : decode cX6_isSame 821 = .ok (.aload_n 0, 1) := by decide +kernel
theorem dX6_isSame_822 : decode cX6_isSame 822 = .ok (.getfield 39, 3) := by decide +kernel
theorem dX6_isSame_825 : decode cX6_isSame 825 = .ok (.ifCond .ne 7, 3) := by decide +kernel
theorem dX6_isSame_828 : decode cX6_isSame 828 = .ok (.dconst 0, 1) := by decide +kernel
theorem dX6_isSame_829 : decode cX6_isSame 829 = .ok (.goto 11, 3) := by decide +kernel
theorem dX6_isSame_832 : decode cX6_isSame 832 = .ok (.iload_n 2, 1) := by decide +kernel
theorem dX6_isSame_833 : decode cX6_isSame 833 = .ok (.i2d, 1) := by decide +kernel
theorem dX6_isSame_834 : decode cX6_isSame 834 = .ok (.aload_n 0, 1) := by decide +kernel
theorem dX6_isSame_835 : decode cX6_isSame 835 = .ok (.getfield 39, 3) := by decide +kernel
theorem dX6_isSame_838 : decode cX6_isSame 838 = .ok (.i2d, 1) := by decide +kernel
theorem dX6_isSame_839 : decode cX6_isSame 839 = .ok (.ddiv, 1) := by decide +kernel
theorem dX6_isSame_840 : decode cX6_isSame 840 = .ok (.dcmp .l, 1) := by decide +kernel
theorem dX6_isSame_841 : decode cX6_isSame 841 = .ok (.ifCond .ne 7, 3) := by decide +kernel
theorem dX6_isSame_844 : decode cX6_isSame 844 = .ok (.iconst 1, 1) := by decide +kernel
theorem dX6_isSame_845 : decode cX6_isSame 845 = .ok (.goto 4, 3) := by decide +kernel
theorem dX6_isSame_848 : decode cX6_isSame 848 = .ok (.iconst 0, 1) := by decide +kernel
theorem dX6_isSame_849 : decode cX6_isSame 849 = .ok (.ireturn, 1) := by decide +kernel
theorem dX7_init_0 : decode cX7_init 0 = .ok (.aload_n 0, 1) := by decide +kernel
theorem dX7_init_1 : decode cX7_init 1 = .ok (.invokespecial 1, 3) := by decide +kernel
theorem dX7_init_4 : decode cX7_init 4 = .ok (.aload_n 0, 1) := by decide +kernel
theorem dX7_init_5 : decode cX7_init 5 = .ok (.iconst (-1), 1) := by decide +kernel
theorem dX7_init_6 : decode cX7_init 6 = .ok (.putfield 7, 3) := by decide +kernel
theorem dX7_init_9 : decode cX7_init 9 = .ok (.return_, 1) := by decide +kernel
theorem dJ9_floorMod_7cf53_0 : decode cJ9_floorMod_7cf53 0 = .ok (.iload_n 0, 1) := by decide +kernel
theorem dJ9_floorMod_7cf53_1 : decode cJ9_floorMod_7cf53 1 = .ok (.iload_n 1, 1) := by decide +kernel
theorem dJ9_floorMod_7cf53_2 : decode cJ9_floorMod_7cf53 2 = .ok (.irem, 1) := by decide +kernel
theorem dJ9_floorMod_7cf53_3 : decode cJ9_floorMod_7cf53 3 = .ok (.istore_n 2, 1) := by decide +kernel
theorem dJ9_floorMod_7cf53_4 : decode cJ9_floorMod_7cf53 4 = .ok (.iload_n 0, 1) := by decide +kernel
theorem dJ9_floorMod_7cf53_5 : decode cJ9_floorMod_7cf53 5 = .ok (.iload_n 1, 1) := by decide +kernel
theorem dJ9_floorMod_7cf53_6 : decode cJ9_floorMod_7cf53 6 = .ok (.ixor, 1) := by decide +kernel
theorem dJ9_floorMod_7cf53_7 : decode cJ9_floorMod_7cf53 7 = .ok (.ifCond .ge 11, 3) := by decide +kernel
theorem dJ9_floorMod_7cf53_10 : decode cJ9_floorMod_7cf53 10 = .ok (.iload_n 2, 1) := by decide +kernel
theorem dJ9_floorMod_7cf53_11 : decode cJ9_floorMod_7cf53 11 = .ok (.ifCond .eq 7, 3) := by decide +kernel
theorem dJ9_floorMod_7cf53_14 : decode cJ9_floorMod_7cf53 14 = .ok (.iload_n 2, 1) := by decide +kernel
theorem dJ9_floorMod_7cf53_15 : decode cJ9_floorMod_7cf53 15 = .ok (.iload_n 1, 1) := by decide +kernel
theorem dJ9_floorMod_7cf53_16 : decode cJ9_floorMod_7cf53 16 = .ok (.iadd, 1) := by decide +kernel
theorem dJ9_floorMod_7cf53_17 : decode cJ9_floorMod_7cf53 17 = .ok (.ireturn, 1) := by decide +kernel
theorem dJ9_floorMod_7cf53_18 : decode cJ9_floorMod_7cf53 18 = .ok (.iload_n 2, 1) := by decide +kernel
theorem dJ9_floorMod_7cf53_19 : decode cJ9_floorMod_7cf53 19 = .ok (.ireturn, 1) := by decide +kernel
theorem dJ9_max_7cf53_0 : decode cJ9_max_7cf53 0 = .ok (.iload_n 0, 1) := by decide +kernel
theorem dJ9_max_7cf53_1 : decode cJ9_max_7cf53 1 = .ok (.iload_n 1, 1) := by decide +kernel
theorem dJ9_max_7cf53_2 : decode cJ9_max_7cf53 2 = .ok (.if_icmp .lt 7, 3) := by decide +kernel
theorem dJ9_max_7cf53_5 : decode cJ9_max_7cf53 5 = .ok (.iload_n 0, 1) := by decide +kernel
theorem dJ9_max_7cf53_6 : decode cJ9_max_7cf53 6 = .ok (.goto 4, 3) := by decide +kernel
theorem dJ9_max_7cf53_9 : decode cJ9_max_7cf53 9 = .ok (.iload_n 1, 1) := by decide +kernel
theorem dJ9_max_7cf53_10 : decode cJ9_max_7cf53 10 = .ok (.ireturn, 1) := by decide +kernel
theorem dJ9_min_7cf53_0 : decode cJ9_min_7cf53 0 = .ok (.iload_n 0, 1) := by decide +kernel
theorem dJ9_min_7cf53_1 : decode cJ9_min_7cf53 1 = .ok (.iload_n 1, 1) := by decide +kernel
theorem dJ9_min_7cf53_2 : decode cJ9_min_7cf53 2 = .ok (.if_icmp .gt 7, 3) := by decide +kernel
theorem dJ9_min_7cf53_5 : decode cJ9_min_7cf53 5 = .ok (.iload_n 0, 1) := by decide +kernel
theorem dJ9_min_7cf53_6 : decode cJ9_min_7cf53 6 = .ok (.goto 4, 3) := by decide +kernel
theorem dJ9_min_7cf53_9 : decode cJ9_min_7cf53 9 = .ok (.iload_n 1, 1) := by decide +kernel
theorem dJ9_min_7cf53_10 : decode cJ9_min_7cf53 10 = .ok (.ireturn, 1) := by decide +kernel
theorem dJ7_fill_53178_0 : decode cJ7_fill_53178 0 = .ok (.iconst 0, 1) := by decide +kernel
theorem dJ7_fill_53178_1 : decode cJ7_fill_53178 1 = .ok (.istore_n 2, 1) := by decide +kernel
theorem dJ7_fill_53178_2 : decode cJ7_fill_53178 2 = .ok (.aload_n 0, 1) := by decide +kernel
theorem dJ7_fill_53178_3 : decode cJ7_fill_53178 3 = .ok (.arraylength, 1) := by decide +kernel
theorem dJ7_fill_53178_4 : decode cJ7_fill_53178 4 = .ok (.istore_n 3, 1) := by decide +kernel
theorem dJ7_fill_53178_5 : decode cJ7_fill_53178 5 = .ok (.iload_n 2, 1) := by decide +kernel
theorem dJ7_fill_53178_6 : decode cJ7_fill_53178 6 = .ok (.iload_n 3, 1) := by decide +kernel
theorem dJ7_fill_53178_7 : decode cJ7_fill_53178 7 = .ok (.if_icmp .ge 13, 3) := by decide +kernel
theorem dJ7_fill_53178_10 : decode cJ7_fill_53178 10 = .ok (.aload_n 0, 1) := by decide +kernel
theorem dJ7_fill_53178_11 : decode cJ7_fill_53178 11 = .ok (.iload_n 2, 1) := by decide +kernel
theorem dJ7_fill_53178_12 : decode cJ7_fill_53178 12 = .ok (.iload_n 1, 1) := by decide +kernel
theorem dJ7_fill_53178_13 : decode cJ7_fill_53178 13 = .ok (.iastore, 1) := by decide +kernel
theorem dJ7_fill_53178_14 : decode cJ7_fill_53178 14 = .ok (.iinc 2 1, 3) := by decide +kernel
theorem dJ7_fill_53178_17 : decode cJ7_fill_53178 17 = .ok (.goto (-12), 3) := by decide +kernel
theorem dJ7_fill_53178_20 : decode cJ7_fill_53178 20 = .ok (.return_, 1) := by decide +kernel
theorem dL_below_0 : decode cL_below 0 = .ok (.iload_n 0, 1) := by decide +kernel
theorem dL_below_1 : decode cL_below 1 = .ok (.ldc 7, 2) := by decide +kernel
theorem dL_below_3 : decode cL_below 3 = .ok (.iand, 1) := by decide +kernel
theorem dL_below_4 : decode cL_below 4 = .ok (.iload_n 1, 1) := by decide +kernel
theorem dL_below_5 : decode cL_below 5 = .ok (.irem, 1) := by decide +kernel
theorem dL_below_6 : decode cL_below 6 = .ok (.ireturn, 1) := by decide +kernel
theorem dL_cell_0 : decode cL_cell 0 = .ok (.iload_n 1, 1) := by decide +kernel
theorem dL_cell_1 : decode cL_cell 1 = .ok (.aload_n 0, 1) := by decide +kernel
theorem dL_cell_2 : decode cL_cell 2 = .ok (.arraylength, 1) := by decide +kernel
theorem dL_cell_3 : decode cL_cell 3 = .ok (.if_icmp .ge 9, 3) := by decide +kernel
theorem dL_cell_6 : decode cL_cell 6 = .ok (.aload_n 0, 1) := by decide +kernel
theorem dL_cell_7 : decode cL_cell 7 = .ok (.iload_n 1, 1) := by decide +kernel
theorem dL_cell_8 : decode cL_cell 8 = .ok (.iaload, 1) := by decide +kernel
theorem dL_cell_9 : decode cL_cell 9 = .ok (.goto 9, 3) := by decide +kernel
theorem dL_cell_12 : decode cL_cell 12 = .ok (.ldc 8, 2) := by decide +kernel
theorem dL_cell_14 : decode cL_cell 14 = .ok (.iload_n 1, 1) := by decide +kernel
theorem dL_cell_15 : decode cL_cell 15 = .ok (.iconst 3, 1) := by decide +kernel
theorem dL_cell_16 : decode cL_cell 16 = .ok (.iadd, 1) := by decide +kernel
theorem dL_cell_17 : decode cL_cell 17 = .ok (.imul, 1) := by decide +kernel
theorem dL_cell_18 : decode cL_cell 18 = .ok (.ireturn, 1) := by decide +kernel
set_option maxRecDepth 20000 in
theorem ggL_act_L_below : GoodIn wsL_act wsL_below := goodIn_r _ [21, 22] (by decide +kernel) (by decide +kernel)
set_option maxRecDepth 20000 in
theorem gL_act_L_below : GoodIn wsL_act (va_wsS RL 21 yL_below wsL_below) := goodIn_app (goodIn_of _ (by decide +kernel)) ggL_act_L_below
set_option maxRecDepth 20000 in
theorem ggL_act_X6_more : GoodIn wsL_act wsX6_more := goodIn_r _ [26, 27] (by decide +kernel) (by decide +kernel)
set_option maxRecDepth 20000 in
theorem gL_act_X6_more : GoodIn wsL_act (va_wsS RL 35 yX6_more wsX6_more) := goodIn_app (goodIn_of _ (by decide +kernel)) ggL_act_X6_more
set_option maxRecDepth 20000 in
theorem ggL_act_X5_open : GoodIn wsL_act wsX5_open := goodIn_ca (goodIn_ca (goodIn_r _ [32, 33, 34, 35, 36, 37, 38, 39, 40, 41, 31, 42, 43, 44, 45, 46, 47, 48, 49, 50, 51, 229, 230, 231, 232, 233, 234, 235, 236, 237, 238, 239, 240, 241, 242] (by decide +kernel) (by decide +kernel)) (goodIn_sub (fun _ h => List.mem_cons_of_mem _ (List.mem_append_left _ (List.mem_append_left _ (List.mem_append_right _ h)))) (by decide +kernel))) (goodIn_sub (fun _ h => List.mem_cons_of_mem _ (List.mem_append_left _ (List.mem_append_right _ h))) (by decide +kernel))
set_option maxRecDepth 20000 in
theorem gL_act_X5_open : GoodIn wsL_act (wsV RL 39 RX5 yX5_open wsX5_open) := goodIn_app (goodIn_of _ (by decide +kernel)) ggL_act_X5_open
set_option maxRecDepth 20000 in
theorem ggL_act_X5_hire : GoodIn wsL_act wsX5_hire := goodIn_ca (goodIn_ca (goodIn_r _ [55, 33, 34, 35, 36, 37, 56, 57, 40, 41, 31, 42, 58, 59, 60, 61, 62, 63, 64, 65, 229, 230, 231, 232, 233, 234, 235, 236, 237, 243, 244, 245, 246, 247] (by decide +kernel) (by decide +kernel)) (goodIn_sub (fun _ h => List.mem_cons_of_mem _ (List.mem_append_left _ (List.mem_append_left _ (List.mem_append_right _ h)))) (by decide +kernel))) (goodIn_sub (fun _ h => List.mem_cons_of_mem _ (List.mem_append_left _ (List.mem_append_right _ h))) (by decide +kernel))
set_option maxRecDepth 20000 in
theorem gL_act_X5_hire : GoodIn wsL_act (wsV RL 45 RX5 yX5_hire wsX5_hire) := goodIn_app (goodIn_of _ (by decide +kernel)) ggL_act_X5_hire
set_option maxRecDepth 20000 in
theorem ggL_act_X5_build : GoodIn wsL_act wsX5_build := goodIn_ca (goodIn_ca (goodIn_r _ [69, 33, 34, 35, 36, 70, 71, 40, 41, 31, 42, 72, 73, 74, 75, 76, 77, 78, 229, 230, 231, 232, 248, 249, 250] (by decide +kernel) (by decide +kernel)) (goodIn_sub (fun _ h => List.mem_cons_of_mem _ (List.mem_append_left _ (List.mem_append_left _ (List.mem_append_right _ h)))) (by decide +kernel))) (goodIn_sub (fun _ h => List.mem_cons_of_mem _ (List.mem_append_left _ (List.mem_append_right _ h))) (by decide +kernel))
set_option maxRecDepth 20000 in
theorem gL_act_X5_build : GoodIn wsL_act (wsV RL 49 RX5 yX5_build wsX5_build) := goodIn_app (goodIn_of _ (by decide +kernel)) ggL_act_X5_build
set_option maxRecDepth 20000 in
theorem ggL_act_X5_setFall : GoodIn wsL_act wsX5_setFall := goodIn_ca (goodIn_ca (goodIn_r _ [82, 83, 84, 33, 34, 37, 85, 40, 41, 31, 42, 229, 230, 231, 232, 233, 234, 235, 236, 237] (by decide +kernel) (by decide +kernel)) (goodIn_sub (fun _ h => List.mem_cons_of_mem _ (List.mem_append_right _ h)) (by decide +kernel))) (goodIn_sub (fun _ h => List.mem_cons_of_mem _ (List.mem_append_left _ (List.mem_append_left _ (List.mem_append_right _ h)))) (by decide +kernel))
set_option maxRecDepth 20000 in
theorem gL_act_X5_setFall : GoodIn wsL_act (wsV RL 56 RX5 yX5_setFall wsX5_setFall) := goodIn_app (goodIn_of _ (by decide +kernel)) ggL_act_X5_setFall
set_option maxRecDepth 20000 in
theorem ggL_act_X5_send : GoodIn wsL_act wsX5_send := goodIn_ca (goodIn_r _ [89, 83, 84, 37, 56, 38, 90, 91, 92, 93, 61, 94, 63, 95, 96, 97, 46, 98, 48, 229, 230, 231, 232, 233, 234, 235, 236, 237, 243, 244, 245, 246, 247, 238, 239, 240, 241, 242] (by decide +kernel) (by decide +kernel)) (goodIn_sub (fun _ h => List.mem_cons_of_mem _ (List.mem_append_right _ h)) (by decide +kernel))
set_option maxRecDepth 20000 in
theorem gL_act_X5_send : GoodIn wsL_act (wsV RL 59 RX5 yX5_send wsX5_send) := goodIn_app (goodIn_of _ (by decide +kernel)) ggL_act_X5_send
set_option maxRecDepth 20000 in
theorem ggL_act_X5_smash : GoodIn wsL_act wsX5_smash := goodIn_ca (goodIn_ca (goodIn_r _ [102, 83, 84, 35, 36, 37, 103, 104, 38, 105, 106, 107, 108, 109, 110, 111, 112, 113, 114, 115, 46, 116, 51, 117, 12, 13, 14, 118, 96, 97, 98, 48, 229, 230, 231, 232, 233, 234, 235, 236, 237, 251, 252, 253, 254, 255, 256, 257, 238, 239, 240, 241, 242] (by decide +kernel) (by decide +kernel)) (goodIn_sub (fun _ h => List.mem_cons_of_mem _ (List.mem_append_right _ h)) (by decide +kernel))) (goodIn_sub (fun _ h => List.mem_cons_of_mem _ (List.mem_append_left _ (List.mem_append_right _ h))) (by decide +kernel))
set_option maxRecDepth 20000 in
theorem gL_act_X5_smash : GoodIn wsL_act (wsV RL 78 RX5 yX5_smash wsX5_smash) := goodIn_app (goodIn_of _ (by decide +kernel)) ggL_act_X5_smash
set_option maxRecDepth 20000 in
theorem ggL_act_X6_water : GoodIn wsL_act wsX6_water := goodIn_r _ [122, 123, 124, 216, 217, 218, 219, 220, 221, 222, 223] (by decide +kernel) (by decide +kernel)
set_option maxRecDepth 20000 in
theorem gL_act_X6_water : GoodIn wsL_act (wsV RL 81 RX6 yX6_water wsX6_water) := goodIn_app (goodIn_of _ (by decide +kernel)) ggL_act_X6_water
set_option maxRecDepth 20000 in
theorem ggL_act_X6_left : GoodIn wsL_act wsX6_left := goodIn_r _ [128, 129, 130, 131, 132, 133, 134, 135, 136, 25, 137, 138, 216, 217, 218, 219, 220, 221, 222, 223, 224, 225, 226, 227, 228] (by decide +kernel) (by decide +kernel)
set_option maxRecDepth 20000 in
theorem gL_act_X6_left : GoodIn wsL_act (wsV RL 85 RX6 yX6_left wsX6_left) := goodIn_app (goodIn_of _ (by decide +kernel)) ggL_act_X6_left
set_option maxRecDepth 20000 in
theorem ggL_act_X6_worth : GoodIn wsL_act wsX6_worth := goodIn_r _ [142, 132, 143, 144, 138, 145, 224, 225, 226, 227, 228, 216, 217, 218, 219, 220, 221, 222, 223] (by decide +kernel) (by decide +kernel)
set_option maxRecDepth 20000 in
theorem gL_act_X6_worth : GoodIn wsL_act (wsV RL 91 RX6 yX6_worth wsX6_worth) := goodIn_app (goodIn_of _ (by decide +kernel)) ggL_act_X6_worth
set_option maxRecDepth 20000 in
theorem ggL_act_X5_ship : GoodIn wsL_act wsX5_ship := goodIn_ca (goodIn_ca (goodIn_r _ [149, 83, 84, 35, 36, 70, 37, 150, 103, 151, 152, 153, 154, 75, 155, 77, 156, 157, 158, 159, 160, 161, 162, 163, 110, 164, 112, 165, 166, 167, 168, 169, 170, 171, 172, 173, 174, 175, 176, 177, 178, 179, 180, 181, 182, 183, 184, 185, 186, 187, 188, 189, 190, 191, 192, 229, 230, 231, 232, 233, 234, 235, 236, 237, 248, 249, 250, 251, 252, 253, 254, 255, 256, 257] (by decide +kernel) (by decide +kernel)) (goodIn_sub (fun _ h => List.mem_cons_of_mem _ (List.mem_append_right _ h)) (by decide +kernel))) (goodIn_sub (fun _ h => List.mem_cons_of_mem _ (List.mem_append_left _ (List.mem_append_right _ h))) (by decide +kernel))
set_option maxRecDepth 20000 in
theorem gL_act_X5_ship : GoodIn wsL_act (wsV RL 101 RX5 yX5_ship wsX5_ship) := goodIn_app (goodIn_of _ (by decide +kernel)) ggL_act_X5_ship
set_option maxRecDepth 20000 in
theorem ggL_act_X6_weight : GoodIn wsL_act wsX6_weight := goodIn_r _ [137, 138, 224, 225, 226, 227, 228] (by decide +kernel) (by decide +kernel)
set_option maxRecDepth 20000 in
theorem gL_act_X6_weight : GoodIn wsL_act (wsV RL 104 RX6 yX6_weight wsX6_weight) := goodIn_app (goodIn_of _ (by decide +kernel)) ggL_act_X6_weight
set_option maxRecDepth 20000 in
theorem ggL_act_X5_load : GoodIn wsL_act wsX5_load := goodIn_ca (goodIn_ca (goodIn_r _ [197, 83, 84, 35, 36, 37, 103, 70, 104, 150, 107, 108, 109, 110, 111, 112, 152, 153, 154, 75, 155, 77, 156, 157, 158, 159, 160, 198, 199, 200, 201, 186, 202, 203, 204, 31, 205, 206, 207, 208, 209, 210, 165, 211, 212, 213, 214, 215, 181, 229, 230, 231, 232, 233, 234, 235, 236, 237, 251, 252, 253, 254, 255, 256, 257, 248, 249, 250] (by decide +kernel) (by decide +kernel)) (goodIn_sub (fun _ h => List.mem_cons_of_mem _ (List.mem_append_right _ h)) (by decide +kernel))) (goodIn_sub (fun _ h => List.mem_cons_of_mem _ (List.mem_append_left _ (List.mem_append_right _ h))) (by decide +kernel))
set_option maxRecDepth 20000 in
theorem gL_act_X5_load : GoodIn wsL_act (wsV RL 107 RX5 yX5_load wsX5_load) := goodIn_app (goodIn_of _ (by decide +kernel)) ggL_act_X5_load
theorem dL_act_0 : decode cL_act 0 = .ok (.aload_n 1, 1) := by decide +kernel
theorem dL_act_1 : decode cL_act 1 = .ok (.getfield 9, 3) := by decide +kernel
theorem dL_act_4 : decode cL_act 4 = .ok (.arraylength, 1) := by decide +kernel
theorem dL_act_5 : decode cL_act 5 = .ok (.istore_n 3, 1) := by decide +kernel
theorem dL_act_6 : decode cL_act 6 = .ok (.aload_n 1, 1) := by decide +kernel
theorem dL_act_7 : decode cL_act 7 = .ok (.getfield 15, 3) := by decide +kernel
theorem dL_act_10 : decode cL_act 10 = .ok (.arraylength, 1) := by decide +kernel
theorem dL_act_11 : decode cL_act 11 = .ok (.istore 4, 2) := by decide +kernel
theorem dL_act_13 : decode cL_act 13 = .ok (.aload_n 1, 1) := by decide +kernel
theorem dL_act_14 : decode cL_act 14 = .ok (.getfield 18, 3) := by decide +kernel
theorem dL_act_17 : decode cL_act 17 = .ok (.arraylength, 1) := by decide +kernel
theorem dL_act_18 : decode cL_act 18 = .ok (.istore 5, 2) := by decide +kernel
theorem dL_act_20 : decode cL_act 20 = .ok (.iload 5, 2) := by decide +kernel
theorem dL_act_22 : decode cL_act 22 = .ok (.ifCond .ne 7, 3) := by decide +kernel
theorem dL_act_25 : decode cL_act 25 = .ok (.iconst 0, 1) := by decide +kernel
theorem dL_act_26 : decode cL_act 26 = .ok (.goto 11, 3) := by decide +kernel
theorem dL_act_29 : decode cL_act 29 = .ok (.iload_n 2, 1) := by decide +kernel
theorem dL_act_30 : decode cL_act 30 = .ok (.iconst 3, 1) := by decide +kernel
theorem dL_act_31 : decode cL_act 31 = .ok (.ishr, 1) := by decide +kernel
theorem dL_act_32 : decode cL_act 32 = .ok (.iload 5, 2) := by decide +kernel
theorem dL_act_34 : decode cL_act 34 = .ok (.invokestatic 21, 3) := by decide +kernel
theorem dL_act_37 : decode cL_act 37 = .ok (.istore 6, 2) := by decide +kernel
theorem dL_act_39 : decode cL_act 39 = .ok (.aload_n 1, 1) := by decide +kernel
theorem dL_act_40 : decode cL_act 40 = .ok (.getfield 27, 3) := by decide +kernel
theorem dL_act_43 : decode cL_act 43 = .ok (.ifCond .ne 7, 3) := by decide +kernel
theorem dL_act_46 : decode cL_act 46 = .ok (.aconst_null, 1) := by decide +kernel
theorem dL_act_47 : decode cL_act 47 = .ok (.goto 16, 3) := by decide +kernel
theorem dL_act_50 : decode cL_act 50 = .ok (.aload_n 1, 1) := by decide +kernel
theorem dL_act_51 : decode cL_act 51 = .ok (.getfield 31, 3) := by decide +kernel
theorem dL_act_54 : decode cL_act 54 = .ok (.iload_n 2, 1) := by decide +kernel
theorem dL_act_55 : decode cL_act 55 = .ok (.aload_n 1, 1) := by decide +kernel
theorem dL_act_56 : decode cL_act 56 = .ok (.getfield 27, 3) := by decide +kernel
theorem dL_act_59 : decode cL_act 59 = .ok (.invokestatic 21, 3) := by decide +kernel
theorem dL_act_62 : decode cL_act 62 = .ok (.aaload, 1) := by decide +kernel
theorem dL_act_63 : decode cL_act 63 = .ok (.astore 7, 2) := by decide +kernel
theorem dL_act_65 : decode cL_act 65 = .ok (.iload_n 2, 1) := by decide +kernel
theorem dL_act_66 : decode cL_act 66 = .ok (.bipush 9, 2) := by decide +kernel
theorem dL_act_68 : decode cL_act 68 = .ok (.ishr, 1) := by decide +kernel
theorem dL_act_69 : decode cL_act 69 = .ok (.bipush 16, 2) := by decide +kernel
theorem dL_act_71 : decode cL_act 71 = .ok (.invokestatic 21, 3) := by decide +kernel
theorem dL_act_74 : decode cL_act 74 = .ok (.tableswitch 661 0 9 #[54, 152, 225, 293, 349, 349, 349, 415, 506, 506], 54) := by decide +kernel
theorem dL_act_128 : decode cL_act 128 = .ok (.iload_n 3, 1) := by decide +kernel
theorem dL_act_129 : decode cL_act 129 = .ok (.iconst 5, 1) := by decide +kernel
theorem dL_act_130 : decode cL_act 130 = .ok (.if_icmp .ne 5, 3) := by decide +kernel
theorem dL_act_133 : decode cL_act 133 = .ok (.iconst 1, 1) := by decide +kernel
theorem dL_act_134 : decode cL_act 134 = .ok (.ireturn, 1) := by decide +kernel
theorem dL_act_135 : decode cL_act 135 = .ok (.aload_n 1, 1) := by decide +kernel
theorem dL_act_136 : decode cL_act 136 = .ok (.aload_n 1, 1) := by decide +kernel
theorem dL_act_137 : decode cL_act 137 = .ok (.getfield 9, 3) := by decide +kernel
theorem dL_act_140 : decode cL_act 140 = .ok (.iconst 4, 1) := by decide +kernel
theorem dL_act_141 : decode cL_act 141 = .ok (.newarray .int, 2) := by decide +kernel
theorem dL_act_143 : decode cL_act 143 = .ok (.dup, 1) := by decide +kernel
theorem dL_act_144 : decode cL_act 144 = .ok (.iconst 0, 1) := by decide +kernel
theorem dL_act_145 : decode cL_act 145 = .ok (.iconst 1, 1) := by decide +kernel
theorem dL_act_146 : decode cL_act 146 = .ok (.iload_n 2, 1) := by decide +kernel
theorem dL_act_147 : decode cL_act 147 = .ok (.bipush 9, 2) := by decide +kernel
theorem dL_act_149 : decode cL_act 149 = .ok (.invokestatic 21, 3) := by decide +kernel
theorem dL_act_152 : decode cL_act 152 = .ok (.iadd, 1) := by decide +kernel
theorem dL_act_153 : decode cL_act 153 = .ok (.iastore, 1) := by decide +kernel
theorem dL_act_154 : decode cL_act 154 = .ok (.dup, 1) := by decide +kernel
theorem dL_act_155 : decode cL_act 155 = .ok (.iconst 1, 1) := by decide +kernel
theorem dL_act_156 : decode cL_act 156 = .ok (.iload_n 2, 1) := by decide +kernel
theorem dL_act_157 : decode cL_act 157 = .ok (.iconst 2, 1) := by decide +kernel
theorem dL_act_158 : decode cL_act 158 = .ok (.ishr, 1) := by decide +kernel
theorem dL_act_159 : decode cL_act 159 = .ok (.bipush 10, 2) := by decide +kernel
theorem dL_act_161 : decode cL_act 161 = .ok (.invokestatic 21, 3) := by decide +kernel
theorem dL_act_164 : decode cL_act 164 = .ok (.iastore, 1) := by decide +kernel
theorem dL_act_165 : decode cL_act 165 = .ok (.dup, 1) := by decide +kernel
theorem dL_act_166 : decode cL_act 166 = .ok (.iconst 2, 1) := by decide +kernel
theorem dL_act_167 : decode cL_act 167 = .ok (.iload_n 2, 1) := by decide +kernel
theorem dL_act_168 : decode cL_act 168 = .ok (.iconst 3, 1) := by decide +kernel
theorem dL_act_169 : decode cL_act 169 = .ok (.ishr, 1) := by decide +kernel
theorem dL_act_170 : decode cL_act 170 = .ok (.sipush 201, 3) := by decide +kernel
theorem dL_act_173 : decode cL_act 173 = .ok (.invokestatic 21, 3) := by decide +kernel
theorem dL_act_176 : decode cL_act 176 = .ok (.iastore, 1) := by decide +kernel
theorem dL_act_177 : decode cL_act 177 = .ok (.dup, 1) := by decide +kernel
theorem dL_act_178 : decode cL_act 178 = .ok (.iconst 3, 1) := by decide +kernel
theorem dL_act_179 : decode cL_act 179 = .ok (.iconst 0, 1) := by decide +kernel
theorem dL_act_180 : decode cL_act 180 = .ok (.iastore, 1) := by decide +kernel
theorem dL_act_181 : decode cL_act 181 = .ok (.invokestatic 35, 3) := by decide +kernel
theorem dL_act_184 : decode cL_act 184 = .ok (.putfield 9, 3) := by decide +kernel
theorem dL_act_187 : decode cL_act 187 = .ok (.aload_n 0, 1) := by decide +kernel
theorem dL_act_188 : decode cL_act 188 = .ok (.iconst 1, 1) := by decide +kernel
theorem dL_act_189 : decode cL_act 189 = .ok (.iload_n 2, 1) := by decide +kernel
theorem dL_act_190 : decode cL_act 190 = .ok (.bipush 9, 2) := by decide +kernel
theorem dL_act_192 : decode cL_act 192 = .ok (.invokestatic 21, 3) := by decide +kernel
theorem dL_act_195 : decode cL_act 195 = .ok (.iadd, 1) := by decide +kernel
theorem dL_act_196 : decode cL_act 196 = .ok (.iload_n 2, 1) := by decide +kernel
theorem dL_act_197 : decode cL_act 197 = .ok (.iconst 2, 1) := by decide +kernel
theorem dL_act_198 : decode cL_act 198 = .ok (.ishr, 1) := by decide +kernel
theorem dL_act_199 : decode cL_act 199 = .ok (.bipush 10, 2) := by decide +kernel
theorem dL_act_201 : decode cL_act 201 = .ok (.invokestatic 21, 3) := by decide +kernel
theorem dL_act_204 : decode cL_act 204 = .ok (.iload_n 2, 1) := by decide +kernel
theorem dL_act_205 : decode cL_act 205 = .ok (.iconst 3, 1) := by decide +kernel
theorem dL_act_206 : decode cL_act 206 = .ok (.ishr, 1) := by decide +kernel
theorem dL_act_207 : decode cL_act 207 = .ok (.sipush 201, 3) := by decide +kernel
theorem dL_act_210 : decode cL_act 210 = .ok (.invokestatic 21, 3) := by decide +kernel
theorem dL_act_213 : decode cL_act 213 = .ok (.invokevirtual 39, 3) := by decide +kernel
theorem dL_act_216 : decode cL_act 216 = .ok (.iload_n 3, 1) := by decide +kernel
theorem dL_act_217 : decode cL_act 217 = .ok (.if_icmp .ne 7, 3) := by decide +kernel
theorem dL_act_220 : decode cL_act 220 = .ok (.iconst 1, 1) := by decide +kernel
theorem dL_act_221 : decode cL_act 221 = .ok (.goto 4, 3) := by decide +kernel
theorem dL_act_224 : decode cL_act 224 = .ok (.iconst 0, 1) := by decide +kernel
theorem dL_act_225 : decode cL_act 225 = .ok (.ireturn, 1) := by decide +kernel
theorem dL_act_226 : decode cL_act 226 = .ok (.iload 4, 2) := by decide +kernel
theorem dL_act_228 : decode cL_act 228 = .ok (.bipush 6, 2) := by decide +kernel
theorem dL_act_230 : decode cL_act 230 = .ok (.if_icmp .ne 5, 3) := by decide +kernel
theorem dL_act_233 : decode cL_act 233 = .ok (.iconst 1, 1) := by decide +kernel
theorem dL_act_234 : decode cL_act 234 = .ok (.ireturn, 1) := by decide +kernel
theorem dL_act_235 : decode cL_act 235 = .ok (.aload_n 1, 1) := by decide +kernel
theorem dL_act_236 : decode cL_act 236 = .ok (.aload_n 1, 1) := by decide +kernel
theorem dL_act_237 : decode cL_act 237 = .ok (.getfield 15, 3) := by decide +kernel
theorem dL_act_240 : decode cL_act 240 = .ok (.iconst 4, 1) := by decide +kernel
theorem dL_act_241 : decode cL_act 241 = .ok (.newarray .int, 2) := by decide +kernel
theorem dL_act_243 : decode cL_act 243 = .ok (.dup, 1) := by decide +kernel
theorem dL_act_244 : decode cL_act 244 = .ok (.iconst 0, 1) := by decide +kernel
theorem dL_act_245 : decode cL_act 245 = .ok (.iconst 1, 1) := by decide +kernel
theorem dL_act_246 : decode cL_act 246 = .ok (.iload_n 2, 1) := by decide +kernel
theorem dL_act_247 : decode cL_act 247 = .ok (.iconst 2, 1) := by decide +kernel
theorem dL_act_248 : decode cL_act 248 = .ok (.ishr, 1) := by decide +kernel
theorem dL_act_249 : decode cL_act 249 = .ok (.bipush 9, 2) := by decide +kernel
theorem dL_act_251 : decode cL_act 251 = .ok (.invokestatic 21, 3) := by decide +kernel
theorem dL_act_254 : decode cL_act 254 = .ok (.iadd, 1) := by decide +kernel
theorem dL_act_255 : decode cL_act 255 = .ok (.iastore, 1) := by decide +kernel
theorem dL_act_256 : decode cL_act 256 = .ok (.dup, 1) := by decide +kernel
theorem dL_act_257 : decode cL_act 257 = .ok (.iconst 1, 1) := by decide +kernel
theorem dL_act_258 : decode cL_act 258 = .ok (.iconst (-1), 1) := by decide +kernel
theorem dL_act_259 : decode cL_act 259 = .ok (.iastore, 1) := by decide +kernel
theorem dL_act_260 : decode cL_act 260 = .ok (.dup, 1) := by decide +kernel
theorem dL_act_261 : decode cL_act 261 = .ok (.iconst 2, 1) := by decide +kernel
theorem dL_act_262 : decode cL_act 262 = .ok (.iconst 0, 1) := by decide +kernel
theorem dL_act_263 : decode cL_act 263 = .ok (.iastore, 1) := by decide +kernel
theorem dL_act_264 : decode cL_act 264 = .ok (.dup, 1) := by decide +kernel
theorem dL_act_265 : decode cL_act 265 = .ok (.iconst 3, 1) := by decide +kernel
theorem dL_act_266 : decode cL_act 266 = .ok (.iconst 0, 1) := by decide +kernel
theorem dL_act_267 : decode cL_act 267 = .ok (.iastore, 1) := by decide +kernel
theorem dL_act_268 : decode cL_act 268 = .ok (.invokestatic 35, 3) := by decide +kernel
theorem dL_act_271 : decode cL_act 271 = .ok (.putfield 15, 3) := by decide +kernel
theorem dL_act_274 : decode cL_act 274 = .ok (.aload_n 0, 1) := by decide +kernel
theorem dL_act_275 : decode cL_act 275 = .ok (.iconst 1, 1) := by decide +kernel
theorem dL_act_276 : decode cL_act 276 = .ok (.iload_n 2, 1) := by decide +kernel
theorem dL_act_277 : decode cL_act 277 = .ok (.iconst 2, 1) := by decide +kernel
theorem dL_act_278 : decode cL_act 278 = .ok (.ishr, 1) := by decide +kernel
theorem dL_act_279 : decode cL_act 279 = .ok (.bipush 9, 2) := by decide +kernel
theorem dL_act_281 : decode cL_act 281 = .ok (.invokestatic 21, 3) := by decide +kernel
theorem dL_act_284 : decode cL_act 284 = .ok (.iadd, 1) := by decide +kernel
theorem dL_act_285 : decode cL_act 285 = .ok (.invokevirtual 45, 3) := by decide +kernel
theorem dL_act_288 : decode cL_act 288 = .ok (.iload 4, 2) := by decide +kernel
theorem dL_act_290 : decode cL_act 290 = .ok (.if_icmp .ne 7, 3) := by decide +kernel
theorem dL_act_293 : decode cL_act 293 = .ok (.iconst 1, 1) := by decide +kernel
theorem dL_act_294 : decode cL_act 294 = .ok (.goto 4, 3) := by decide +kernel
theorem dL_act_297 : decode cL_act 297 = .ok (.iconst 0, 1) := by decide +kernel
theorem dL_act_298 : decode cL_act 298 = .ok (.ireturn, 1) := by decide +kernel
theorem dL_act_299 : decode cL_act 299 = .ok (.iload 5, 2) := by decide +kernel
theorem dL_act_301 : decode cL_act 301 = .ok (.iconst 3, 1) := by decide +kernel
theorem dL_act_302 : decode cL_act 302 = .ok (.if_icmp .ne 5, 3) := by decide +kernel
theorem dL_act_305 : decode cL_act 305 = .ok (.iconst 1, 1) := by decide +kernel
theorem dL_act_306 : decode cL_act 306 = .ok (.ireturn, 1) := by decide +kernel
theorem dL_act_307 : decode cL_act 307 = .ok (.aload_n 1, 1) := by decide +kernel
theorem dL_act_308 : decode cL_act 308 = .ok (.aload_n 1, 1) := by decide +kernel
theorem dL_act_309 : decode cL_act 309 = .ok (.getfield 18, 3) := by decide +kernel
theorem dL_act_312 : decode cL_act 312 = .ok (.iconst 2, 1) := by decide +kernel
theorem dL_act_313 : decode cL_act 313 = .ok (.newarray .int, 2) := by decide +kernel
theorem dL_act_315 : decode cL_act 315 = .ok (.dup, 1) := by decide +kernel
theorem dL_act_316 : decode cL_act 316 = .ok (.iconst 0, 1) := by decide +kernel
theorem dL_act_317 : decode cL_act 317 = .ok (.bipush 20, 2) := by decide +kernel
theorem dL_act_319 : decode cL_act 319 = .ok (.iload_n 2, 1) := by decide +kernel
theorem dL_act_320 : decode cL_act 320 = .ok (.iconst 1, 1) := by decide +kernel
theorem dL_act_321 : decode cL_act 321 = .ok (.ishr, 1) := by decide +kernel
theorem dL_act_322 : decode cL_act 322 = .ok (.sipush 381, 3) := by decide +kernel
theorem dL_act_325 : decode cL_act 325 = .ok (.invokestatic 21, 3) := by decide +kernel
theorem dL_act_328 : decode cL_act 328 = .ok (.iadd, 1) := by decide +kernel
theorem dL_act_329 : decode cL_act 329 = .ok (.iastore, 1) := by decide +kernel
theorem dL_act_330 : decode cL_act 330 = .ok (.dup, 1) := by decide +kernel
theorem dL_act_331 : decode cL_act 331 = .ok (.iconst 1, 1) := by decide +kernel
theorem dL_act_332 : decode cL_act 332 = .ok (.iconst (-1), 1) := by decide +kernel
theorem dL_act_333 : decode cL_act 333 = .ok (.iastore, 1) := by decide +kernel
theorem dL_act_334 : decode cL_act 334 = .ok (.invokestatic 35, 3) := by decide +kernel
theorem dL_act_337 : decode cL_act 337 = .ok (.putfield 18, 3) := by decide +kernel
theorem dL_act_340 : decode cL_act 340 = .ok (.aload_n 0, 1) := by decide +kernel
theorem dL_act_341 : decode cL_act 341 = .ok (.bipush 20, 2) := by decide +kernel
theorem dL_act_343 : decode cL_act 343 = .ok (.iload_n 2, 1) := by decide +kernel
theorem dL_act_344 : decode cL_act 344 = .ok (.iconst 1, 1) := by decide +kernel
theorem dL_act_345 : decode cL_act 345 = .ok (.ishr, 1) := by decide +kernel
theorem dL_act_346 : decode cL_act 346 = .ok (.sipush 381, 3) := by decide +kernel
theorem dL_act_349 : decode cL_act 349 = .ok (.invokestatic 21, 3) := by decide +kernel
theorem dL_act_352 : decode cL_act 352 = .ok (.iadd, 1) := by decide +kernel
theorem dL_act_353 : decode cL_act 353 = .ok (.invokevirtual 49, 3) := by decide +kernel
theorem dL_act_356 : decode cL_act 356 = .ok (.iload 5, 2) := by decide +kernel
theorem dL_act_358 : decode cL_act 358 = .ok (.if_icmp .ne 7, 3) := by decide +kernel
theorem dL_act_361 : decode cL_act 361 = .ok (.iconst 1, 1) := by decide +kernel
theorem dL_act_362 : decode cL_act 362 = .ok (.goto 4, 3) := by decide +kernel
theorem dL_act_365 : decode cL_act 365 = .ok (.iconst 0, 1) := by decide +kernel
theorem dL_act_366 : decode cL_act 366 = .ok (.ireturn, 1) := by decide +kernel
theorem dL_act_367 : decode cL_act 367 = .ok (.iload_n 2, 1) := by decide +kernel
theorem dL_act_368 : decode cL_act 368 = .ok (.bipush 9, 2) := by decide +kernel
theorem dL_act_370 : decode cL_act 370 = .ok (.invokestatic 21, 3) := by decide +kernel
theorem dL_act_373 : decode cL_act 373 = .ok (.istore 8, 2) := by decide +kernel
theorem dL_act_375 : decode cL_act 375 = .ok (.aload_n 1, 1) := by decide +kernel
theorem dL_act_376 : decode cL_act 376 = .ok (.getfield 52, 3) := by decide +kernel
theorem dL_act_379 : decode cL_act 379 = .ok (.iload 8, 2) := by decide +kernel
theorem dL_act_381 : decode cL_act 381 = .ok (.iaload, 1) := by decide +kernel
theorem dL_act_382 : decode cL_act 382 = .ok (.istore 9, 2) := by decide +kernel
theorem dL_act_384 : decode cL_act 384 = .ok (.aload_n 1, 1) := by decide +kernel
theorem dL_act_385 : decode cL_act 385 = .ok (.getfield 52, 3) := by decide +kernel
theorem dL_act_388 : decode cL_act 388 = .ok (.iload 8, 2) := by decide +kernel
theorem dL_act_390 : decode cL_act 390 = .ok (.iload_n 2, 1) := by decide +kernel
theorem dL_act_391 : decode cL_act 391 = .ok (.iconst 3, 1) := by decide +kernel
theorem dL_act_392 : decode cL_act 392 = .ok (.ishr, 1) := by decide +kernel
theorem dL_act_393 : decode cL_act 393 = .ok (.bipush 10, 2) := by decide +kernel
theorem dL_act_395 : decode cL_act 395 = .ok (.invokestatic 21, 3) := by decide +kernel
theorem dL_act_398 : decode cL_act 398 = .ok (.iastore, 1) := by decide +kernel
theorem dL_act_399 : decode cL_act 399 = .ok (.aload_n 0, 1) := by decide +kernel
theorem dL_act_400 : decode cL_act 400 = .ok (.iload 8, 2) := by decide +kernel
theorem dL_act_402 : decode cL_act 402 = .ok (.aload_n 1, 1) := by decide +kernel
theorem dL_act_403 : decode cL_act 403 = .ok (.getfield 52, 3) := by decide +kernel
theorem dL_act_406 : decode cL_act 406 = .ok (.iload 8, 2) := by decide +kernel
theorem dL_act_408 : decode cL_act 408 = .ok (.iaload, 1) := by decide +kernel
theorem dL_act_409 : decode cL_act 409 = .ok (.invokevirtual 56, 3) := by decide +kernel
theorem dL_act_412 : decode cL_act 412 = .ok (.iload 9, 2) := by decide +kernel
theorem dL_act_414 : decode cL_act 414 = .ok (.if_icmp .ne 7, 3) := by decide +kernel
theorem dL_act_417 : decode cL_act 417 = .ok (.iconst 1, 1) := by decide +kernel
theorem dL_act_418 : decode cL_act 418 = .ok (.goto 4, 3) := by decide +kernel
theorem dL_act_421 : decode cL_act 421 = .ok (.iconst 0, 1) := by decide +kernel
theorem dL_act_422 : decode cL_act 422 = .ok (.ireturn, 1) := by decide +kernel
theorem dL_act_423 : decode cL_act 423 = .ok (.iload 4, 2) := by decide +kernel
theorem dL_act_425 : decode cL_act 425 = .ok (.ifCond .ne 5, 3) := by decide +kernel
theorem dL_act_428 : decode cL_act 428 = .ok (.iconst 1, 1) := by decide +kernel
theorem dL_act_429 : decode cL_act 429 = .ok (.ireturn, 1) := by decide +kernel
theorem dL_act_430 : decode cL_act 430 = .ok (.aload_n 1, 1) := by decide +kernel
theorem dL_act_431 : decode cL_act 431 = .ok (.getfield 15, 3) := by decide +kernel
theorem dL_act_434 : decode cL_act 434 = .ok (.iload_n 2, 1) := by decide +kernel
theorem dL_act_435 : decode cL_act 435 = .ok (.iload 4, 2) := by decide +kernel
theorem dL_act_437 : decode cL_act 437 = .ok (.invokestatic 21, 3) := by decide +kernel
theorem dL_act_440 : decode cL_act 440 = .ok (.aaload, 1) := by decide +kernel
theorem dL_act_441 : decode cL_act 441 = .ok (.astore 10, 2) := by decide +kernel
theorem dL_act_443 : decode cL_act 443 = .ok (.aload 10, 2) := by decide +kernel
theorem dL_act_445 : decode cL_act 445 = .ok (.iconst 1, 1) := by decide +kernel
theorem dL_act_446 : decode cL_act 446 = .ok (.iaload, 1) := by decide +kernel
theorem dL_act_447 : decode cL_act 447 = .ok (.istore 11, 2) := by decide +kernel
theorem dL_act_449 : decode cL_act 449 = .ok (.aload 10, 2) := by decide +kernel
theorem dL_act_451 : decode cL_act 451 = .ok (.iconst 1, 1) := by decide +kernel
theorem dL_act_452 : decode cL_act 452 = .ok (.iload_n 2, 1) := by decide +kernel
theorem dL_act_453 : decode cL_act 453 = .ok (.iconst 4, 1) := by decide +kernel
theorem dL_act_454 : decode cL_act 454 = .ok (.ishr, 1) := by decide +kernel
theorem dL_act_455 : decode cL_act 455 = .ok (.iload_n 3, 1) := by decide +kernel
theorem dL_act_456 : decode cL_act 456 = .ok (.iconst 1, 1) := by decide +kernel
theorem dL_act_457 : decode cL_act 457 = .ok (.iadd, 1) := by decide +kernel
theorem dL_act_458 : decode cL_act 458 = .ok (.invokestatic 21, 3) := by decide +kernel
theorem dL_act_461 : decode cL_act 461 = .ok (.iconst 1, 1) := by decide +kernel
theorem dL_act_462 : decode cL_act 462 = .ok (.isub, 1) := by decide +kernel
theorem dL_act_463 : decode cL_act 463 = .ok (.iastore, 1) := by decide +kernel
theorem dL_act_464 : decode cL_act 464 = .ok (.aload_n 0, 1) := by decide +kernel
theorem dL_act_465 : decode cL_act 465 = .ok (.iload_n 2, 1) := by decide +kernel
theorem dL_act_466 : decode cL_act 466 = .ok (.iload 4, 2) := by decide +kernel
theorem dL_act_468 : decode cL_act 468 = .ok (.invokestatic 21, 3) := by decide +kernel
theorem dL_act_471 : decode cL_act 471 = .ok (.aload 10, 2) := by decide +kernel
theorem dL_act_473 : decode cL_act 473 = .ok (.iconst 1, 1) := by decide +kernel
theorem dL_act_474 : decode cL_act 474 = .ok (.iaload, 1) := by decide +kernel
theorem dL_act_475 : decode cL_act 475 = .ok (.invokevirtual 59, 3) := by decide +kernel
theorem dL_act_478 : decode cL_act 478 = .ok (.iload 11, 2) := by decide +kernel
theorem dL_act_480 : decode cL_act 480 = .ok (.if_icmp .ne 7, 3) := by decide +kernel
theorem dL_act_483 : decode cL_act 483 = .ok (.iconst 1, 1) := by decide +kernel
theorem dL_act_484 : decode cL_act 484 = .ok (.goto 4, 3) := by decide +kernel
theorem dL_act_487 : decode cL_act 487 = .ok (.iconst 0, 1) := by decide +kernel
theorem dL_act_488 : decode cL_act 488 = .ok (.ireturn, 1) := by decide +kernel
theorem dL_act_489 : decode cL_act 489 = .ok (.aload 7, 2) := by decide +kernel
theorem dL_act_491 : decode cL_act 491 = .ok (.ifnull 22, 3) := by decide +kernel
theorem dL_act_494 : decode cL_act 494 = .ok (.aload 7, 2) := by decide +kernel
theorem dL_act_496 : decode cL_act 496 = .ok (.getfield 62, 3) := by decide +kernel
theorem dL_act_499 : decode cL_act 499 = .ok (.iconst 1, 1) := by decide +kernel
theorem dL_act_500 : decode cL_act 500 = .ok (.if_icmp .gt 13, 3) := by decide +kernel
theorem dL_act_503 : decode cL_act 503 = .ok (.iload_n 2, 1) := by decide +kernel
theorem dL_act_504 : decode cL_act 504 = .ok (.iconst 5, 1) := by decide +kernel
theorem dL_act_505 : decode cL_act 505 = .ok (.ishr, 1) := by decide +kernel
theorem dL_act_506 : decode cL_act 506 = .ok (.iconst 2, 1) := by decide +kernel
theorem dL_act_507 : decode cL_act 507 = .ok (.invokestatic 21, 3) := by decide +kernel
theorem dL_act_510 : decode cL_act 510 = .ok (.ifCond .ne 5, 3) := by decide +kernel
theorem dL_act_513 : decode cL_act 513 = .ok (.iconst 1, 1) := by decide +kernel
theorem dL_act_514 : decode cL_act 514 = .ok (.ireturn, 1) := by decide +kernel
theorem dL_act_515 : decode cL_act 515 = .ok (.aload_n 1, 1) := by decide +kernel
theorem dL_act_516 : decode cL_act 516 = .ok (.getfield 9, 3) := by decide +kernel
theorem dL_act_519 : decode cL_act 519 = .ok (.aload 7, 2) := by decide +kernel
theorem dL_act_521 : decode cL_act 521 = .ok (.getfield 67, 3) := by decide +kernel
theorem dL_act_524 : decode cL_act 524 = .ok (.aaload, 1) := by decide +kernel
theorem dL_act_525 : decode cL_act 525 = .ok (.astore 12, 2) := by decide +kernel
theorem dL_act_527 : decode cL_act 527 = .ok (.aload 7, 2) := by decide +kernel
theorem dL_act_529 : decode cL_act 529 = .ok (.iconst 4, 1) := by decide +kernel
theorem dL_act_530 : decode cL_act 530 = .ok (.putfield 62, 3) := by decide +kernel
theorem dL_act_533 : decode cL_act 533 = .ok (.aload 12, 2) := by decide +kernel
theorem dL_act_535 : decode cL_act 535 = .ok (.iconst 2, 1) := by decide +kernel
theorem dL_act_536 : decode cL_act 536 = .ok (.sipush 200, 3) := by decide +kernel
theorem dL_act_539 : decode cL_act 539 = .ok (.aload 12, 2) := by decide +kernel
theorem dL_act_541 : decode cL_act 541 = .ok (.iconst 2, 1) := by decide +kernel
theorem dL_act_542 : decode cL_act 542 = .ok (.iaload, 1) := by decide +kernel
theorem dL_act_543 : decode cL_act 543 = .ok (.aload 7, 2) := by decide +kernel
theorem dL_act_545 : decode cL_act 545 = .ok (.getfield 70, 3) := by decide +kernel
theorem dL_act_548 : decode cL_act 548 = .ok (.iconst 2, 1) := by decide +kernel
theorem dL_act_549 : decode cL_act 549 = .ok (.idiv, 1) := by decide +kernel
theorem dL_act_550 : decode cL_act 550 = .ok (.iadd, 1) := by decide +kernel
theorem dL_act_551 : decode cL_act 551 = .ok (.invokestatic 73, 3) := by decide +kernel
theorem dL_act_554 : decode cL_act 554 = .ok (.iastore, 1) := by decide +kernel
theorem dL_act_555 : decode cL_act 555 = .ok (.aload_n 0, 1) := by decide +kernel
theorem dL_act_556 : decode cL_act 556 = .ok (.iload_n 2, 1) := by decide +kernel
theorem dL_act_557 : decode cL_act 557 = .ok (.aload_n 1, 1) := by decide +kernel
theorem dL_act_558 : decode cL_act 558 = .ok (.getfield 27, 3) := by decide +kernel
theorem dL_act_561 : decode cL_act 561 = .ok (.invokestatic 21, 3) := by decide +kernel
theorem dL_act_564 : decode cL_act 564 = .ok (.invokevirtual 78, 3) := by decide +kernel
theorem dL_act_567 : decode cL_act 567 = .ok (.aload 12, 2) := by decide +kernel
theorem dL_act_569 : decode cL_act 569 = .ok (.iconst 2, 1) := by decide +kernel
theorem dL_act_570 : decode cL_act 570 = .ok (.iaload, 1) := by decide +kernel
theorem dL_act_571 : decode cL_act 571 = .ok (.if_icmp .ne 7, 3) := by decide +kernel
theorem dL_act_574 : decode cL_act 574 = .ok (.iconst 1, 1) := by decide +kernel
theorem dL_act_575 : decode cL_act 575 = .ok (.goto 4, 3) := by decide +kernel
theorem dL_act_578 : decode cL_act 578 = .ok (.iconst 0, 1) := by decide +kernel
theorem dL_act_579 : decode cL_act 579 = .ok (.ireturn, 1) := by decide +kernel
theorem dL_act_580 : decode cL_act 580 = .ok (.iload 5, 2) := by decide +kernel
theorem dL_act_582 : decode cL_act 582 = .ok (.ifCond .eq 41, 3) := by decide +kernel
theorem dL_act_585 : decode cL_act 585 = .ok (.aload_n 1, 1) := by decide +kernel
theorem dL_act_586 : decode cL_act 586 = .ok (.getfield 18, 3) := by decide +kernel
theorem dL_act_589 : decode cL_act 589 = .ok (.iload 6, 2) := by decide +kernel
theorem dL_act_591 : decode cL_act 591 = .ok (.aaload, 1) := by decide +kernel
theorem dL_act_592 : decode cL_act 592 = .ok (.iconst 1, 1) := by decide +kernel
theorem dL_act_593 : decode cL_act 593 = .ok (.iaload, 1) := by decide +kernel
theorem dL_act_594 : decode cL_act 594 = .ok (.ifCond .ge 29, 3) := by decide +kernel
theorem dL_act_597 : decode cL_act 597 = .ok (.aload_n 1, 1) := by decide +kernel
theorem dL_act_598 : decode cL_act 598 = .ok (.invokevirtual 81, 3) := by decide +kernel
theorem dL_act_601 : decode cL_act 601 = .ok (.iconst 2, 1) := by decide +kernel
theorem dL_act_602 : decode cL_act 602 = .ok (.if_icmp .lt 21, 3) := by decide +kernel
theorem dL_act_605 : decode cL_act 605 = .ok (.aload_n 1, 1) := by decide +kernel
theorem dL_act_606 : decode cL_act 606 = .ok (.iload 6, 2) := by decide +kernel
theorem dL_act_608 : decode cL_act 608 = .ok (.invokevirtual 85, 3) := by decide +kernel
theorem dL_act_611 : decode cL_act 611 = .ok (.aload_n 1, 1) := by decide +kernel
theorem dL_act_612 : decode cL_act 612 = .ok (.getfield 18, 3) := by decide +kernel
theorem dL_act_615 : decode cL_act 615 = .ok (.iload 6, 2) := by decide +kernel
theorem dL_act_617 : decode cL_act 617 = .ok (.aaload, 1) := by decide +kernel
theorem dL_act_618 : decode cL_act 618 = .ok (.iconst 0, 1) := by decide +kernel
theorem dL_act_619 : decode cL_act 619 = .ok (.iaload, 1) := by decide +kernel
theorem dL_act_620 : decode cL_act 620 = .ok (.if_icmp .ne 5, 3) := by decide +kernel
theorem dL_act_623 : decode cL_act 623 = .ok (.iconst 1, 1) := by decide +kernel
theorem dL_act_624 : decode cL_act 624 = .ok (.ireturn, 1) := by decide +kernel
theorem dL_act_625 : decode cL_act 625 = .ok (.iconst 0, 1) := by decide +kernel
theorem dL_act_626 : decode cL_act 626 = .ok (.istore 13, 2) := by decide +kernel
theorem dL_act_628 : decode cL_act 628 = .ok (.iconst 0, 1) := by decide +kernel
theorem dL_act_629 : decode cL_act 629 = .ok (.istore 14, 2) := by decide +kernel
theorem dL_act_631 : decode cL_act 631 = .ok (.iload 14, 2) := by decide +kernel
theorem dL_act_633 : decode cL_act 633 = .ok (.aload_n 1, 1) := by decide +kernel
theorem dL_act_634 : decode cL_act 634 = .ok (.getfield 27, 3) := by decide +kernel
theorem dL_act_637 : decode cL_act 637 = .ok (.if_icmp .ge 57, 3) := by decide +kernel
theorem dL_act_640 : decode cL_act 640 = .ok (.aload_n 1, 1) := by decide +kernel
theorem dL_act_641 : decode cL_act 641 = .ok (.getfield 31, 3) := by decide +kernel
theorem dL_act_644 : decode cL_act 644 = .ok (.iload 14, 2) := by decide +kernel
theorem dL_act_646 : decode cL_act 646 = .ok (.aaload, 1) := by decide +kernel
theorem dL_act_647 : decode cL_act 647 = .ok (.astore 15, 2) := by decide +kernel
theorem dL_act_649 : decode cL_act 649 = .ok (.aload 15, 2) := by decide +kernel
theorem dL_act_651 : decode cL_act 651 = .ok (.getfield 62, 3) := by decide +kernel
theorem dL_act_654 : decode cL_act 654 = .ok (.iconst 2, 1) := by decide +kernel
theorem dL_act_655 : decode cL_act 655 = .ok (.if_icmp .ne 33, 3) := by decide +kernel
theorem dL_act_658 : decode cL_act 658 = .ok (.aload 15, 2) := by decide +kernel
theorem dL_act_660 : decode cL_act 660 = .ok (.getfield 88, 3) := by decide +kernel
theorem dL_act_663 : decode cL_act 663 = .ok (.iload 6, 2) := by decide +kernel
theorem dL_act_665 : decode cL_act 665 = .ok (.if_icmp .eq 6, 3) := by decide +kernel
theorem dL_act_668 : decode cL_act 668 = .ok (.goto 20, 3) := by decide +kernel
theorem dL_act_671 : decode cL_act 671 = .ok (.iload 13, 2) := by decide +kernel
theorem dL_act_673 : decode cL_act 673 = .ok (.aload_n 1, 1) := by decide +kernel
theorem dL_act_674 : decode cL_act 674 = .ok (.aload 15, 2) := by decide +kernel
theorem dL_act_676 : decode cL_act 676 = .ok (.invokevirtual 91, 3) := by decide +kernel
theorem dL_act_679 : decode cL_act 679 = .ok (.iadd, 1) := by decide +kernel
theorem dL_act_680 : decode cL_act 680 = .ok (.istore 13, 2) := by decide +kernel
theorem dL_act_682 : decode cL_act 682 = .ok (.aload 15, 2) := by decide +kernel
theorem dL_act_684 : decode cL_act 684 = .ok (.iconst 3, 1) := by decide +kernel
theorem dL_act_685 : decode cL_act 685 = .ok (.putfield 62, 3) := by decide +kernel
theorem dL_act_688 : decode cL_act 688 = .ok (.iinc 14 1, 3) := by decide +kernel
theorem dL_act_691 : decode cL_act 691 = .ok (.goto (-60), 3) := by decide +kernel
theorem dL_act_694 : decode cL_act 694 = .ok (.aload_n 1, 1) := by decide +kernel
theorem dL_act_695 : decode cL_act 695 = .ok (.dup, 1) := by decide +kernel
theorem dL_act_696 : decode cL_act 696 = .ok (.getfield 95, 3) := by decide +kernel
theorem dL_act_699 : decode cL_act 699 = .ok (.iload 13, 2) := by decide +kernel
theorem dL_act_701 : decode cL_act 701 = .ok (.iadd, 1) := by decide +kernel
theorem dL_act_702 : decode cL_act 702 = .ok (.putfield 95, 3) := by decide +kernel
theorem dL_act_705 : decode cL_act 705 = .ok (.aload_n 1, 1) := by decide +kernel
theorem dL_act_706 : decode cL_act 706 = .ok (.getfield 18, 3) := by decide +kernel
theorem dL_act_709 : decode cL_act 709 = .ok (.iload 6, 2) := by decide +kernel
theorem dL_act_711 : decode cL_act 711 = .ok (.aaload, 1) := by decide +kernel
theorem dL_act_712 : decode cL_act 712 = .ok (.iconst 1, 1) := by decide +kernel
theorem dL_act_713 : decode cL_act 713 = .ok (.aload_n 1, 1) := by decide +kernel
theorem dL_act_714 : decode cL_act 714 = .ok (.getfield 98, 3) := by decide +kernel
theorem dL_act_717 : decode cL_act 717 = .ok (.iastore, 1) := by decide +kernel
theorem dL_act_718 : decode cL_act 718 = .ok (.aload_n 0, 1) := by decide +kernel
theorem dL_act_719 : decode cL_act 719 = .ok (.iload 6, 2) := by decide +kernel
theorem dL_act_721 : decode cL_act 721 = .ok (.invokevirtual 101, 3) := by decide +kernel
theorem dL_act_724 : decode cL_act 724 = .ok (.iload 13, 2) := by decide +kernel
theorem dL_act_726 : decode cL_act 726 = .ok (.if_icmp .ne 7, 3) := by decide +kernel
theorem dL_act_729 : decode cL_act 729 = .ok (.iconst 1, 1) := by decide +kernel
theorem dL_act_730 : decode cL_act 730 = .ok (.goto 4, 3) := by decide +kernel
theorem dL_act_733 : decode cL_act 733 = .ok (.iconst 0, 1) := by decide +kernel
theorem dL_act_734 : decode cL_act 734 = .ok (.ireturn, 1) := by decide +kernel
theorem dL_act_735 : decode cL_act 735 = .ok (.iload 5, 2) := by decide +kernel
theorem dL_act_737 : decode cL_act 737 = .ok (.ifCond .eq 44, 3) := by decide +kernel
theorem dL_act_740 : decode cL_act 740 = .ok (.aload 7, 2) := by decide +kernel
theorem dL_act_742 : decode cL_act 742 = .ok (.ifnull 39, 3) := by decide +kernel
theorem dL_act_745 : decode cL_act 745 = .ok (.aload 7, 2) := by decide +kernel
theorem dL_act_747 : decode cL_act 747 = .ok (.getfield 62, 3) := by decide +kernel
theorem dL_act_750 : decode cL_act 750 = .ok (.iconst 1, 1) := by decide +kernel
theorem dL_act_751 : decode cL_act 751 = .ok (.if_icmp .ne 30, 3) := by decide +kernel
theorem dL_act_754 : decode cL_act 754 = .ok (.aload_n 1, 1) := by decide +kernel
theorem dL_act_755 : decode cL_act 755 = .ok (.getfield 18, 3) := by decide +kernel
theorem dL_act_758 : decode cL_act 758 = .ok (.iload 6, 2) := by decide +kernel
theorem dL_act_760 : decode cL_act 760 = .ok (.aaload, 1) := by decide +kernel
theorem dL_act_761 : decode cL_act 761 = .ok (.iconst 1, 1) := by decide +kernel
theorem dL_act_762 : decode cL_act 762 = .ok (.iaload, 1) := by decide +kernel
theorem dL_act_763 : decode cL_act 763 = .ok (.ifCond .ge 18, 3) := by decide +kernel
theorem dL_act_766 : decode cL_act 766 = .ok (.aload_n 1, 1) := by decide +kernel
theorem dL_act_767 : decode cL_act 767 = .ok (.aload 7, 2) := by decide +kernel
theorem dL_act_769 : decode cL_act 769 = .ok (.invokevirtual 104, 3) := by decide +kernel
theorem dL_act_772 : decode cL_act 772 = .ok (.aload_n 1, 1) := by decide +kernel
theorem dL_act_773 : decode cL_act 773 = .ok (.iload 6, 2) := by decide +kernel
theorem dL_act_775 : decode cL_act 775 = .ok (.invokevirtual 85, 3) := by decide +kernel
theorem dL_act_778 : decode cL_act 778 = .ok (.if_icmp .le 5, 3) := by decide +kernel
theorem dL_act_781 : decode cL_act 781 = .ok (.iconst 1, 1) := by decide +kernel
theorem dL_act_782 : decode cL_act 782 = .ok (.ireturn, 1) := by decide +kernel
theorem dL_act_783 : decode cL_act 783 = .ok (.aload 7, 2) := by decide +kernel
theorem dL_act_785 : decode cL_act 785 = .ok (.iconst 2, 1) := by decide +kernel
theorem dL_act_786 : decode cL_act 786 = .ok (.putfield 62, 3) := by decide +kernel
theorem dL_act_789 : decode cL_act 789 = .ok (.aload 7, 2) := by decide +kernel
theorem dL_act_791 : decode cL_act 791 = .ok (.iload 6, 2) := by decide +kernel
theorem dL_act_793 : decode cL_act 793 = .ok (.putfield 88, 3) := by decide +kernel
theorem dL_act_796 : decode cL_act 796 = .ok (.aload_n 0, 1) := by decide +kernel
theorem dL_act_797 : decode cL_act 797 = .ok (.iload_n 2, 1) := by decide +kernel
theorem dL_act_798 : decode cL_act 798 = .ok (.aload_n 1, 1) := by decide +kernel
theorem dL_act_799 : decode cL_act 799 = .ok (.getfield 27, 3) := by decide +kernel
theorem dL_act_802 : decode cL_act 802 = .ok (.invokestatic 21, 3) := by decide +kernel
theorem dL_act_805 : decode cL_act 805 = .ok (.iload 6, 2) := by decide +kernel
theorem dL_act_807 : decode cL_act 807 = .ok (.invokevirtual 107, 3) := by decide +kernel
theorem dL_act_810 : decode cL_act 810 = .ok (.aload_n 1, 1) := by decide +kernel
theorem dL_act_811 : decode cL_act 811 = .ok (.iload 6, 2) := by decide +kernel
theorem dL_act_813 : decode cL_act 813 = .ok (.invokevirtual 85, 3) := by decide +kernel
theorem dL_act_816 : decode cL_act 816 = .ok (.if_icmp .ne 7, 3) := by decide +kernel
theorem dL_act_819 : decode cL_act 819 = .ok (.iconst 1, 1) := by decide +kernel
theorem dL_act_820 : decode cL_act 820 = .ok (.goto 4, 3) := by decide +kernel
theorem dL_act_823 : decode cL_act 823 = .ok (.iconst 0, 1) := by decide +kernel
theorem dL_act_824 : decode cL_act 824 = .ok (.ireturn, 1) := by decide +kernel
set_option maxRecDepth 20000 in
theorem ggL_build_X6_init : GoodIn wsL_build wsX6_init := goodIn_r _ [5, 6, 7, 8, 9, 10, 11, 12, 13, 14, 15, 16, 319, 320, 321, 322, 323, 324, 325, 326] (by decide +kernel) (by decide +kernel)
set_option maxRecDepth 20000 in
theorem gL_build_X6_init_n110 : GoodIn wsL_build (wsX6_init) := ggL_build_X6_init
set_option maxRecDepth 20000 in
theorem ggL_build_L_cell : GoodIn wsL_build wsL_cell := goodIn_r _ [20, 21] (by decide +kernel) (by decide +kernel)
set_option maxRecDepth 20000 in
theorem gL_build_L_cell : GoodIn wsL_build (va_wsS RL 111 yL_cell wsL_cell) := goodIn_app (goodIn_of _ (by decide +kernel)) ggL_build_L_cell
