theorem dL_tells_349 : decode cL_tells 349 = .ok (.iconst 4, 1) := by decide +kernel
theorem dL_tells_350 : decode cL_tells 350 = .ok (.iaload, 1) := by decide +kernel
theorem dL_tells_351 : decode cL_tells 351 = .ok (.if_icmp .ge 68, 3) := by decide +kernel
theorem dL_tells_354 : decode cL_tells 354 = .ok (.iload 15, 2) := by decide +kernel
theorem dL_tells_356 : decode cL_tells 356 = .ok (.aload_n 1, 1) := by decide +kernel
theorem dL_tells_357 : decode cL_tells 357 = .ok (.bipush 6, 2) := by decide +kernel
theorem dL_tells_359 : decode cL_tells 359 = .ok (.iload 16, 2) := by decide +kernel
theorem dL_tells_361 : decode cL_tells 361 = .ok (.imul, 1) := by decide +kernel
theorem dL_tells_362 : decode cL_tells 362 = .ok (.iconst 4, 1) := by decide +kernel
theorem dL_tells_363 : decode cL_tells 363 = .ok (.iadd, 1) := by decide +kernel
theorem dL_tells_364 : decode cL_tells 364 = .ok (.iaload, 1) := by decide +kernel
theorem dL_tells_365 : decode cL_tells 365 = .ok (.ifCond .lt 44, 3) := by decide +kernel
theorem dL_tells_368 : decode cL_tells 368 = .ok (.aload 4, 2) := by decide +kernel
theorem dL_tells_370 : decode cL_tells 370 = .ok (.aload_n 1, 1) := by decide +kernel
theorem dL_tells_371 : decode cL_tells 371 = .ok (.bipush 6, 2) := by decide +kernel
theorem dL_tells_373 : decode cL_tells 373 = .ok (.iload 16, 2) := by decide +kernel
theorem dL_tells_375 : decode cL_tells 375 = .ok (.imul, 1) := by decide +kernel
theorem dL_tells_376 : decode cL_tells 376 = .ok (.iconst 4, 1) := by decide +kernel
theorem dL_tells_377 : decode cL_tells 377 = .ok (.iadd, 1) := by decide +kernel
theorem dL_tells_378 : decode cL_tells 378 = .ok (.iaload, 1) := by decide +kernel
theorem dL_tells_379 : decode cL_tells 379 = .ok (.invokestatic 16, 3) := by decide +kernel
theorem dL_tells_382 : decode cL_tells 382 = .ok (.iload 14, 2) := by decide +kernel
theorem dL_tells_384 : decode cL_tells 384 = .ok (.if_icmp .ne 25, 3) := by decide +kernel
theorem dL_tells_387 : decode cL_tells 387 = .ok (.aload_n 1, 1) := by decide +kernel
theorem dL_tells_388 : decode cL_tells 388 = .ok (.bipush 6, 2) := by decide +kernel
theorem dL_tells_390 : decode cL_tells 390 = .ok (.iload 16, 2) := by decide +kernel
theorem dL_tells_392 : decode cL_tells 392 = .ok (.imul, 1) := by decide +kernel
theorem dL_tells_393 : decode cL_tells 393 = .ok (.iconst 5, 1) := by decide +kernel
theorem dL_tells_394 : decode cL_tells 394 = .ok (.iadd, 1) := by decide +kernel
theorem dL_tells_395 : decode cL_tells 395 = .ok (.iaload, 1) := by decide +kernel
theorem dL_tells_396 : decode cL_tells 396 = .ok (.ifCond .ne 13, 3) := by decide +kernel
theorem dL_tells_399 : decode cL_tells 399 = .ok (.aload_n 1, 1) := by decide +kernel
theorem dL_tells_400 : decode cL_tells 400 = .ok (.bipush 6, 2) := by decide +kernel
theorem dL_tells_402 : decode cL_tells 402 = .ok (.iload 16, 2) := by decide +kernel
theorem dL_tells_404 : decode cL_tells 404 = .ok (.imul, 1) := by decide +kernel
theorem dL_tells_405 : decode cL_tells 405 = .ok (.iaload, 1) := by decide +kernel
theorem dL_tells_406 : decode cL_tells 406 = .ok (.goto 4, 3) := by decide +kernel
theorem dL_tells_409 : decode cL_tells 409 = .ok (.iconst 0, 1) := by decide +kernel
theorem dL_tells_410 : decode cL_tells 410 = .ok (.iadd, 1) := by decide +kernel
theorem dL_tells_411 : decode cL_tells 411 = .ok (.istore 15, 2) := by decide +kernel
theorem dL_tells_413 : decode cL_tells 413 = .ok (.iinc 16 1, 3) := by decide +kernel
theorem dL_tells_416 : decode cL_tells 416 = .ok (.goto (-71), 3) := by decide +kernel
theorem dL_tells_419 : decode cL_tells 419 = .ok (.aload_n 0, 1) := by decide +kernel
theorem dL_tells_420 : decode cL_tells 420 = .ok (.iload 14, 2) := by decide +kernel
theorem dL_tells_422 : decode cL_tells 422 = .ok (.iconst 0, 1) := by decide +kernel
theorem dL_tells_423 : decode cL_tells 423 = .ok (.invokevirtual 33, 3) := by decide +kernel
theorem dL_tells_426 : decode cL_tells 426 = .ok (.aload_n 3, 1) := by decide +kernel
theorem dL_tells_427 : decode cL_tells 427 = .ok (.iconst 5, 1) := by decide +kernel
theorem dL_tells_428 : decode cL_tells 428 = .ok (.iload 14, 2) := by decide +kernel
theorem dL_tells_430 : decode cL_tells 430 = .ok (.imul, 1) := by decide +kernel
theorem dL_tells_431 : decode cL_tells 431 = .ok (.iaload, 1) := by decide +kernel
theorem dL_tells_432 : decode cL_tells 432 = .ok (.if_icmp .ne 113, 3) := by decide +kernel
theorem dL_tells_435 : decode cL_tells 435 = .ok (.aload_n 0, 1) := by decide +kernel
theorem dL_tells_436 : decode cL_tells 436 = .ok (.iload 14, 2) := by decide +kernel
theorem dL_tells_438 : decode cL_tells 438 = .ok (.iconst 1, 1) := by decide +kernel
theorem dL_tells_439 : decode cL_tells 439 = .ok (.invokevirtual 33, 3) := by decide +kernel
theorem dL_tells_442 : decode cL_tells 442 = .ok (.aload_n 3, 1) := by decide +kernel
theorem dL_tells_443 : decode cL_tells 443 = .ok (.iconst 5, 1) := by decide +kernel
theorem dL_tells_444 : decode cL_tells 444 = .ok (.iload 14, 2) := by decide +kernel
theorem dL_tells_446 : decode cL_tells 446 = .ok (.imul, 1) := by decide +kernel
theorem dL_tells_447 : decode cL_tells 447 = .ok (.iconst 1, 1) := by decide +kernel
theorem dL_tells_448 : decode cL_tells 448 = .ok (.iadd, 1) := by decide +kernel
theorem dL_tells_449 : decode cL_tells 449 = .ok (.iaload, 1) := by decide +kernel
theorem dL_tells_450 : decode cL_tells 450 = .ok (.if_icmp .ne 95, 3) := by decide +kernel
theorem dL_tells_453 : decode cL_tells 453 = .ok (.aload_n 0, 1) := by decide +kernel
theorem dL_tells_454 : decode cL_tells 454 = .ok (.iload 14, 2) := by decide +kernel
theorem dL_tells_456 : decode cL_tells 456 = .ok (.iconst 2, 1) := by decide +kernel
theorem dL_tells_457 : decode cL_tells 457 = .ok (.invokevirtual 33, 3) := by decide +kernel
theorem dL_tells_460 : decode cL_tells 460 = .ok (.aload_n 3, 1) := by decide +kernel
theorem dL_tells_461 : decode cL_tells 461 = .ok (.iconst 5, 1) := by decide +kernel
theorem dL_tells_462 : decode cL_tells 462 = .ok (.iload 14, 2) := by decide +kernel
theorem dL_tells_464 : decode cL_tells 464 = .ok (.imul, 1) := by decide +kernel
theorem dL_tells_465 : decode cL_tells 465 = .ok (.iconst 2, 1) := by decide +kernel
theorem dL_tells_466 : decode cL_tells 466 = .ok (.iadd, 1) := by decide +kernel
theorem dL_tells_467 : decode cL_tells 467 = .ok (.iaload, 1) := by decide +kernel
theorem dL_tells_468 : decode cL_tells 468 = .ok (.if_icmp .ne 77, 3) := by decide +kernel
theorem dL_tells_471 : decode cL_tells 471 = .ok (.aload_n 0, 1) := by decide +kernel
theorem dL_tells_472 : decode cL_tells 472 = .ok (.iload 14, 2) := by decide +kernel
theorem dL_tells_474 : decode cL_tells 474 = .ok (.iconst 3, 1) := by decide +kernel
theorem dL_tells_475 : decode cL_tells 475 = .ok (.invokevirtual 33, 3) := by decide +kernel
theorem dL_tells_478 : decode cL_tells 478 = .ok (.aload_n 1, 1) := by decide +kernel
theorem dL_tells_479 : decode cL_tells 479 = .ok (.aload_n 3, 1) := by decide +kernel
theorem dL_tells_480 : decode cL_tells 480 = .ok (.aload 4, 2) := by decide +kernel
theorem dL_tells_482 : decode cL_tells 482 = .ok (.aload 5, 2) := by decide +kernel
theorem dL_tells_484 : decode cL_tells 484 = .ok (.iload 14, 2) := by decide +kernel
theorem dL_tells_486 : decode cL_tells 486 = .ok (.invokestatic 24, 3) := by decide +kernel
theorem dL_tells_489 : decode cL_tells 489 = .ok (.if_icmp .ne 56, 3) := by decide +kernel
theorem dL_tells_492 : decode cL_tells 492 = .ok (.aload_n 0, 1) := by decide +kernel
theorem dL_tells_493 : decode cL_tells 493 = .ok (.iload 14, 2) := by decide +kernel
theorem dL_tells_495 : decode cL_tells 495 = .ok (.iconst 4, 1) := by decide +kernel
theorem dL_tells_496 : decode cL_tells 496 = .ok (.invokevirtual 33, 3) := by decide +kernel
theorem dL_tells_499 : decode cL_tells 499 = .ok (.iload 15, 2) := by decide +kernel
theorem dL_tells_501 : decode cL_tells 501 = .ok (.if_icmp .ne 44, 3) := by decide +kernel
theorem dL_tells_504 : decode cL_tells 504 = .ok (.aload_n 0, 1) := by decide +kernel
theorem dL_tells_505 : decode cL_tells 505 = .ok (.iload 14, 2) := by decide +kernel
theorem dL_tells_507 : decode cL_tells 507 = .ok (.iconst 5, 1) := by decide +kernel
theorem dL_tells_508 : decode cL_tells 508 = .ok (.invokevirtual 33, 3) := by decide +kernel
theorem dL_tells_511 : decode cL_tells 511 = .ok (.aload_n 3, 1) := by decide +kernel
theorem dL_tells_512 : decode cL_tells 512 = .ok (.iconst 5, 1) := by decide +kernel
theorem dL_tells_513 : decode cL_tells 513 = .ok (.iload 14, 2) := by decide +kernel
theorem dL_tells_515 : decode cL_tells 515 = .ok (.imul, 1) := by decide +kernel
theorem dL_tells_516 : decode cL_tells 516 = .ok (.iconst 3, 1) := by decide +kernel
theorem dL_tells_517 : decode cL_tells 517 = .ok (.iadd, 1) := by decide +kernel
theorem dL_tells_518 : decode cL_tells 518 = .ok (.iaload, 1) := by decide +kernel
theorem dL_tells_519 : decode cL_tells 519 = .ok (.if_icmp .ne 26, 3) := by decide +kernel
theorem dL_tells_522 : decode cL_tells 522 = .ok (.aload_n 0, 1) := by decide +kernel
theorem dL_tells_523 : decode cL_tells 523 = .ok (.iload 14, 2) := by decide +kernel
theorem dL_tells_525 : decode cL_tells 525 = .ok (.bipush 6, 2) := by decide +kernel
theorem dL_tells_527 : decode cL_tells 527 = .ok (.invokevirtual 33, 3) := by decide +kernel
theorem dL_tells_530 : decode cL_tells 530 = .ok (.aload_n 3, 1) := by decide +kernel
theorem dL_tells_531 : decode cL_tells 531 = .ok (.iconst 5, 1) := by decide +kernel
theorem dL_tells_532 : decode cL_tells 532 = .ok (.iload 14, 2) := by decide +kernel
theorem dL_tells_534 : decode cL_tells 534 = .ok (.imul, 1) := by decide +kernel
theorem dL_tells_535 : decode cL_tells 535 = .ok (.iconst 4, 1) := by decide +kernel
theorem dL_tells_536 : decode cL_tells 536 = .ok (.iadd, 1) := by decide +kernel
theorem dL_tells_537 : decode cL_tells 537 = .ok (.iaload, 1) := by decide +kernel
theorem dL_tells_538 : decode cL_tells 538 = .ok (.if_icmp .ne 7, 3) := by decide +kernel
theorem dL_tells_541 : decode cL_tells 541 = .ok (.iconst 1, 1) := by decide +kernel
theorem dL_tells_542 : decode cL_tells 542 = .ok (.goto 4, 3) := by decide +kernel
theorem dL_tells_545 : decode cL_tells 545 = .ok (.iconst 0, 1) := by decide +kernel
theorem dL_tells_546 : decode cL_tells 546 = .ok (.istore 16, 2) := by decide +kernel
theorem dL_tells_548 : decode cL_tells 548 = .ok (.iconst 3, 1) := by decide +kernel
theorem dL_tells_549 : decode cL_tells 549 = .ok (.iload 14, 2) := by decide +kernel
theorem dL_tells_551 : decode cL_tells 551 = .ok (.imul, 1) := by decide +kernel
theorem dL_tells_552 : decode cL_tells 552 = .ok (.istore 17, 2) := by decide +kernel
theorem dL_tells_554 : decode cL_tells 554 = .ok (.iload 17, 2) := by decide +kernel
theorem dL_tells_556 : decode cL_tells 556 = .ok (.iconst 3, 1) := by decide +kernel
theorem dL_tells_557 : decode cL_tells 557 = .ok (.iload 14, 2) := by decide +kernel
theorem dL_tells_559 : decode cL_tells 559 = .ok (.imul, 1) := by decide +kernel
theorem dL_tells_560 : decode cL_tells 560 = .ok (.iconst 3, 1) := by decide +kernel
theorem dL_tells_561 : decode cL_tells 561 = .ok (.iadd, 1) := by decide +kernel
theorem dL_tells_562 : decode cL_tells 562 = .ok (.if_icmp .ge 56, 3) := by decide +kernel
theorem dL_tells_565 : decode cL_tells 565 = .ok (.iload 16, 2) := by decide +kernel
theorem dL_tells_567 : decode cL_tells 567 = .ok (.ifCond .eq 42, 3) := by decide +kernel
theorem dL_tells_570 : decode cL_tells 570 = .ok (.aload_n 0, 1) := by decide +kernel
theorem dL_tells_571 : decode cL_tells 571 = .ok (.iload 17, 2) := by decide +kernel
theorem dL_tells_573 : decode cL_tells 573 = .ok (.iconst 0, 1) := by decide +kernel
theorem dL_tells_574 : decode cL_tells 574 = .ok (.invokevirtual 35, 3) := by decide +kernel
theorem dL_tells_577 : decode cL_tells 577 = .ok (.aload 4, 2) := by decide +kernel
theorem dL_tells_579 : decode cL_tells 579 = .ok (.iload 17, 2) := by decide +kernel
theorem dL_tells_581 : decode cL_tells 581 = .ok (.invokestatic 16, 3) := by decide +kernel
theorem dL_tells_584 : decode cL_tells 584 = .ok (.if_icmp .ne 25, 3) := by decide +kernel
theorem dL_tells_587 : decode cL_tells 587 = .ok (.aload_n 0, 1) := by decide +kernel
theorem dL_tells_588 : decode cL_tells 588 = .ok (.iload 17, 2) := by decide +kernel
theorem dL_tells_590 : decode cL_tells 590 = .ok (.iconst 1, 1) := by decide +kernel
theorem dL_tells_591 : decode cL_tells 591 = .ok (.invokevirtual 35, 3) := by decide +kernel
theorem dL_tells_594 : decode cL_tells 594 = .ok (.aload_n 1, 1) := by decide +kernel
theorem dL_tells_595 : decode cL_tells 595 = .ok (.aload 5, 2) := by decide +kernel
theorem dL_tells_597 : decode cL_tells 597 = .ok (.iload 17, 2) := by decide +kernel
theorem dL_tells_599 : decode cL_tells 599 = .ok (.invokestatic 38, 3) := by decide +kernel
theorem dL_tells_602 : decode cL_tells 602 = .ok (.if_icmp .ne 7, 3) := by decide +kernel
theorem dL_tells_605 : decode cL_tells 605 = .ok (.iconst 1, 1) := by decide +kernel
theorem dL_tells_606 : decode cL_tells 606 = .ok (.goto 4, 3) := by decide +kernel
theorem dL_tells_609 : decode cL_tells 609 = .ok (.iconst 0, 1) := by decide +kernel
theorem dL_tells_610 : decode cL_tells 610 = .ok (.istore 16, 2) := by decide +kernel
theorem dL_tells_612 : decode cL_tells 612 = .ok (.iinc 17 1, 3) := by decide +kernel
theorem dL_tells_615 : decode cL_tells 615 = .ok (.goto (-61), 3) := by decide +kernel
theorem dL_tells_618 : decode cL_tells 618 = .ok (.iload 16, 2) := by decide +kernel
theorem dL_tells_620 : decode cL_tells 620 = .ok (.ifCond .ne 5, 3) := by decide +kernel
theorem dL_tells_623 : decode cL_tells 623 = .ok (.iconst 0, 1) := by decide +kernel
theorem dL_tells_624 : decode cL_tells 624 = .ok (.ireturn, 1) := by decide +kernel
theorem dL_tells_625 : decode cL_tells 625 = .ok (.iload 11, 2) := by decide +kernel
theorem dL_tells_627 : decode cL_tells 627 = .ok (.aload_n 3, 1) := by decide +kernel
theorem dL_tells_628 : decode cL_tells 628 = .ok (.iconst 5, 1) := by decide +kernel
theorem dL_tells_629 : decode cL_tells 629 = .ok (.iload 14, 2) := by decide +kernel
theorem dL_tells_631 : decode cL_tells 631 = .ok (.imul, 1) := by decide +kernel
theorem dL_tells_632 : decode cL_tells 632 = .ok (.iconst 1, 1) := by decide +kernel
theorem dL_tells_633 : decode cL_tells 633 = .ok (.iadd, 1) := by decide +kernel
theorem dL_tells_634 : decode cL_tells 634 = .ok (.iaload, 1) := by decide +kernel
theorem dL_tells_635 : decode cL_tells 635 = .ok (.iadd, 1) := by decide +kernel
theorem dL_tells_636 : decode cL_tells 636 = .ok (.istore 11, 2) := by decide +kernel
theorem dL_tells_638 : decode cL_tells 638 = .ok (.iload 13, 2) := by decide +kernel
theorem dL_tells_640 : decode cL_tells 640 = .ok (.aload_n 3, 1) := by decide +kernel
theorem dL_tells_641 : decode cL_tells 641 = .ok (.iconst 5, 1) := by decide +kernel
theorem dL_tells_642 : decode cL_tells 642 = .ok (.iload 14, 2) := by decide +kernel
theorem dL_tells_644 : decode cL_tells 644 = .ok (.imul, 1) := by decide +kernel
theorem dL_tells_645 : decode cL_tells 645 = .ok (.iconst 3, 1) := by decide +kernel
theorem dL_tells_646 : decode cL_tells 646 = .ok (.iadd, 1) := by decide +kernel
theorem dL_tells_647 : decode cL_tells 647 = .ok (.iaload, 1) := by decide +kernel
theorem dL_tells_648 : decode cL_tells 648 = .ok (.iadd, 1) := by decide +kernel
theorem dL_tells_649 : decode cL_tells 649 = .ok (.istore 13, 2) := by decide +kernel
theorem dL_tells_651 : decode cL_tells 651 = .ok (.iload 12, 2) := by decide +kernel
theorem dL_tells_653 : decode cL_tells 653 = .ok (.aload_n 3, 1) := by decide +kernel
theorem dL_tells_654 : decode cL_tells 654 = .ok (.iconst 5, 1) := by decide +kernel
theorem dL_tells_655 : decode cL_tells 655 = .ok (.iload 14, 2) := by decide +kernel
theorem dL_tells_657 : decode cL_tells 657 = .ok (.imul, 1) := by decide +kernel
theorem dL_tells_658 : decode cL_tells 658 = .ok (.iconst 4, 1) := by decide +kernel
theorem dL_tells_659 : decode cL_tells 659 = .ok (.iadd, 1) := by decide +kernel
theorem dL_tells_660 : decode cL_tells 660 = .ok (.iaload, 1) := by decide +kernel
theorem dL_tells_661 : decode cL_tells 661 = .ok (.iadd, 1) := by decide +kernel
theorem dL_tells_662 : decode cL_tells 662 = .ok (.istore 12, 2) := by decide +kernel
theorem dL_tells_664 : decode cL_tells 664 = .ok (.iinc 14 1, 3) := by decide +kernel
theorem dL_tells_667 : decode cL_tells 667 = .ok (.goto (-334), 3) := by decide +kernel
theorem dL_tells_670 : decode cL_tells 670 = .ok (.aload_n 0, 1) := by decide +kernel
theorem dL_tells_671 : decode cL_tells 671 = .ok (.iconst 0, 1) := by decide +kernel
theorem dL_tells_672 : decode cL_tells 672 = .ok (.invokevirtual 42, 3) := by decide +kernel
theorem dL_tells_675 : decode cL_tells 675 = .ok (.aload 5, 2) := by decide +kernel
theorem dL_tells_677 : decode cL_tells 677 = .ok (.iconst 3, 1) := by decide +kernel
theorem dL_tells_678 : decode cL_tells 678 = .ok (.iaload, 1) := by decide +kernel
theorem dL_tells_679 : decode cL_tells 679 = .ok (.if_icmp .ne 123, 3) := by decide +kernel
theorem dL_tells_682 : decode cL_tells 682 = .ok (.aload_n 0, 1) := by decide +kernel
theorem dL_tells_683 : decode cL_tells 683 = .ok (.iconst 1, 1) := by decide +kernel
theorem dL_tells_684 : decode cL_tells 684 = .ok (.invokevirtual 42, 3) := by decide +kernel
theorem dL_tells_687 : decode cL_tells 687 = .ok (.aload 5, 2) := by decide +kernel
theorem dL_tells_689 : decode cL_tells 689 = .ok (.iconst 4, 1) := by decide +kernel
theorem dL_tells_690 : decode cL_tells 690 = .ok (.iaload, 1) := by decide +kernel
theorem dL_tells_691 : decode cL_tells 691 = .ok (.if_icmp .ne 111, 3) := by decide +kernel
theorem dL_tells_694 : decode cL_tells 694 = .ok (.aload_n 0, 1) := by decide +kernel
theorem dL_tells_695 : decode cL_tells 695 = .ok (.iconst 2, 1) := by decide +kernel
theorem dL_tells_696 : decode cL_tells 696 = .ok (.invokevirtual 42, 3) := by decide +kernel
theorem dL_tells_699 : decode cL_tells 699 = .ok (.iload 10, 2) := by decide +kernel
theorem dL_tells_701 : decode cL_tells 701 = .ok (.if_icmp .ne 101, 3) := by decide +kernel
theorem dL_tells_704 : decode cL_tells 704 = .ok (.aload_n 0, 1) := by decide +kernel
theorem dL_tells_705 : decode cL_tells 705 = .ok (.iconst 3, 1) := by decide +kernel
theorem dL_tells_706 : decode cL_tells 706 = .ok (.invokevirtual 42, 3) := by decide +kernel
theorem dL_tells_709 : decode cL_tells 709 = .ok (.iload 6, 2) := by decide +kernel
theorem dL_tells_711 : decode cL_tells 711 = .ok (.if_icmp .ne 91, 3) := by decide +kernel
theorem dL_tells_714 : decode cL_tells 714 = .ok (.aload_n 0, 1) := by decide +kernel
theorem dL_tells_715 : decode cL_tells 715 = .ok (.iconst 4, 1) := by decide +kernel
theorem dL_tells_716 : decode cL_tells 716 = .ok (.invokevirtual 42, 3) := by decide +kernel
theorem dL_tells_719 : decode cL_tells 719 = .ok (.iload 11, 2) := by decide +kernel
theorem dL_tells_721 : decode cL_tells 721 = .ok (.if_icmp .ne 81, 3) := by decide +kernel
theorem dL_tells_724 : decode cL_tells 724 = .ok (.aload_n 0, 1) := by decide +kernel
theorem dL_tells_725 : decode cL_tells 725 = .ok (.iconst 5, 1) := by decide +kernel
theorem dL_tells_726 : decode cL_tells 726 = .ok (.invokevirtual 42, 3) := by decide +kernel
theorem dL_tells_729 : decode cL_tells 729 = .ok (.iload 7, 2) := by decide +kernel
theorem dL_tells_731 : decode cL_tells 731 = .ok (.if_icmp .ne 71, 3) := by decide +kernel
theorem dL_tells_734 : decode cL_tells 734 = .ok (.aload_n 0, 1) := by decide +kernel
theorem dL_tells_735 : decode cL_tells 735 = .ok (.bipush 6, 2) := by decide +kernel
theorem dL_tells_737 : decode cL_tells 737 = .ok (.invokevirtual 42, 3) := by decide +kernel
theorem dL_tells_740 : decode cL_tells 740 = .ok (.iload 12, 2) := by decide +kernel
theorem dL_tells_742 : decode cL_tells 742 = .ok (.if_icmp .ne 60, 3) := by decide +kernel
theorem dL_tells_745 : decode cL_tells 745 = .ok (.iload 7, 2) := by decide +kernel
theorem dL_tells_747 : decode cL_tells 747 = .ok (.iload 12, 2) := by decide +kernel
theorem dL_tells_749 : decode cL_tells 749 = .ok (.if_icmp .ne 53, 3) := by decide +kernel
theorem dL_tells_752 : decode cL_tells 752 = .ok (.aload_n 0, 1) := by decide +kernel
theorem dL_tells_753 : decode cL_tells 753 = .ok (.bipush 7, 2) := by decide +kernel
theorem dL_tells_755 : decode cL_tells 755 = .ok (.invokevirtual 42, 3) := by decide +kernel
theorem dL_tells_758 : decode cL_tells 758 = .ok (.iload 13, 2) := by decide +kernel
theorem dL_tells_760 : decode cL_tells 760 = .ok (.if_icmp .ne 42, 3) := by decide +kernel
theorem dL_tells_763 : decode cL_tells 763 = .ok (.aload_n 0, 1) := by decide +kernel
theorem dL_tells_764 : decode cL_tells 764 = .ok (.bipush 8, 2) := by decide +kernel
theorem dL_tells_766 : decode cL_tells 766 = .ok (.invokevirtual 42, 3) := by decide +kernel
theorem dL_tells_769 : decode cL_tells 769 = .ok (.iload 8, 2) := by decide +kernel
theorem dL_tells_771 : decode cL_tells 771 = .ok (.if_icmp .ne 31, 3) := by decide +kernel
theorem dL_tells_774 : decode cL_tells 774 = .ok (.aload_n 0, 1) := by decide +kernel
theorem dL_tells_775 : decode cL_tells 775 = .ok (.bipush 9, 2) := by decide +kernel
theorem dL_tells_777 : decode cL_tells 777 = .ok (.invokevirtual 42, 3) := by decide +kernel
theorem dL_tells_780 : decode cL_tells 780 = .ok (.iload 9, 2) := by decide +kernel
theorem dL_tells_782 : decode cL_tells 782 = .ok (.if_icmp .ne 20, 3) := by decide +kernel
theorem dL_tells_785 : decode cL_tells 785 = .ok (.aload_n 0, 1) := by decide +kernel
theorem dL_tells_786 : decode cL_tells 786 = .ok (.bipush 10, 2) := by decide +kernel
theorem dL_tells_788 : decode cL_tells 788 = .ok (.invokevirtual 42, 3) := by decide +kernel
theorem dL_tells_791 : decode cL_tells 791 = .ok (.aload 5, 2) := by decide +kernel
theorem dL_tells_793 : decode cL_tells 793 = .ok (.iconst 5, 1) := by decide +kernel
theorem dL_tells_794 : decode cL_tells 794 = .ok (.iaload, 1) := by decide +kernel
theorem dL_tells_795 : decode cL_tells 795 = .ok (.if_icmp .ne 7, 3) := by decide +kernel
theorem dL_tells_798 : decode cL_tells 798 = .ok (.iconst 1, 1) := by decide +kernel
theorem dL_tells_799 : decode cL_tells 799 = .ok (.goto 4, 3) := by decide +kernel
theorem dL_tells_802 : decode cL_tells 802 = .ok (.iconst 0, 1) := by decide +kernel
theorem dL_tells_803 : decode cL_tells 803 = .ok (.istore 14, 2) := by decide +kernel
theorem dL_tells_805 : decode cL_tells 805 = .ok (.iload 14, 2) := by decide +kernel
theorem dL_tells_807 : decode cL_tells 807 = .ok (.ifCond .eq 46, 3) := by decide +kernel
theorem dL_tells_810 : decode cL_tells 810 = .ok (.aload_n 0, 1) := by decide +kernel
theorem dL_tells_811 : decode cL_tells 811 = .ok (.invokevirtual 46, 3) := by decide +kernel
theorem dL_tells_814 : decode cL_tells 814 = .ok (.aload 5, 2) := by decide +kernel
theorem dL_tells_816 : decode cL_tells 816 = .ok (.bipush 6, 2) := by decide +kernel
theorem dL_tells_818 : decode cL_tells 818 = .ok (.iaload, 1) := by decide +kernel
theorem dL_tells_819 : decode cL_tells 819 = .ok (.iload 8, 2) := by decide +kernel
theorem dL_tells_821 : decode cL_tells 821 = .ok (.iadd, 1) := by decide +kernel
theorem dL_tells_822 : decode cL_tells 822 = .ok (.ifCond .ne 7, 3) := by decide +kernel
theorem dL_tells_825 : decode cL_tells 825 = .ok (.dconst 1, 1) := by decide +kernel
theorem dL_tells_826 : decode cL_tells 826 = .ok (.goto 19, 3) := by decide +kernel
theorem dL_tells_829 : decode cL_tells 829 = .ok (.aload 5, 2) := by decide +kernel
theorem dL_tells_831 : decode cL_tells 831 = .ok (.bipush 6, 2) := by decide +kernel
theorem dL_tells_833 : decode cL_tells 833 = .ok (.iaload, 1) := by decide +kernel
theorem dL_tells_834 : decode cL_tells 834 = .ok (.i2d, 1) := by decide +kernel
theorem dL_tells_835 : decode cL_tells 835 = .ok (.aload 5, 2) := by decide +kernel
theorem dL_tells_837 : decode cL_tells 837 = .ok (.bipush 6, 2) := by decide +kernel
theorem dL_tells_839 : decode cL_tells 839 = .ok (.iaload, 1) := by decide +kernel
theorem dL_tells_840 : decode cL_tells 840 = .ok (.iload 8, 2) := by decide +kernel
theorem dL_tells_842 : decode cL_tells 842 = .ok (.iadd, 1) := by decide +kernel
theorem dL_tells_843 : decode cL_tells 843 = .ok (.i2d, 1) := by decide +kernel
theorem dL_tells_844 : decode cL_tells 844 = .ok (.ddiv, 1) := by decide +kernel
theorem dL_tells_845 : decode cL_tells 845 = .ok (.dcmp .l, 1) := by decide +kernel
theorem dL_tells_846 : decode cL_tells 846 = .ok (.ifCond .ne 7, 3) := by decide +kernel
theorem dL_tells_849 : decode cL_tells 849 = .ok (.iconst 1, 1) := by decide +kernel
theorem dL_tells_850 : decode cL_tells 850 = .ok (.goto 4, 3) := by decide +kernel
theorem dL_tells_853 : decode cL_tells 853 = .ok (.iconst 0, 1) := by decide +kernel
theorem dL_tells_854 : decode cL_tells 854 = .ok (.ireturn, 1) := by decide +kernel
theorem dL_copy_0 : decode cL_copy 0 = .ok (.iconst 0, 1) := by decide +kernel
theorem dL_copy_1 : decode cL_copy 1 = .ok (.istore_n 2, 1) := by decide +kernel
theorem dL_copy_2 : decode cL_copy 2 = .ok (.iload_n 2, 1) := by decide +kernel
theorem dL_copy_3 : decode cL_copy 3 = .ok (.aload_n 0, 1) := by decide +kernel
theorem dL_copy_4 : decode cL_copy 4 = .ok (.arraylength, 1) := by decide +kernel
theorem dL_copy_5 : decode cL_copy 5 = .ok (.if_icmp .ge 15, 3) := by decide +kernel
theorem dL_copy_8 : decode cL_copy 8 = .ok (.aload_n 1, 1) := by decide +kernel
theorem dL_copy_9 : decode cL_copy 9 = .ok (.iload_n 2, 1) := by decide +kernel
theorem dL_copy_10 : decode cL_copy 10 = .ok (.aload_n 0, 1) := by decide +kernel
theorem dL_copy_11 : decode cL_copy 11 = .ok (.iload_n 2, 1) := by decide +kernel
theorem dL_copy_12 : decode cL_copy 12 = .ok (.iaload, 1) := by decide +kernel
theorem dL_copy_13 : decode cL_copy 13 = .ok (.iastore, 1) := by decide +kernel
theorem dL_copy_14 : decode cL_copy 14 = .ok (.iinc 2 1, 3) := by decide +kernel
theorem dL_copy_17 : decode cL_copy 17 = .ok (.goto (-15), 3) := by decide +kernel
theorem dL_copy_20 : decode cL_copy 20 = .ok (.return_, 1) := by decide +kernel
theorem dL_goOn_0 : decode cL_goOn 0 = .ok (.bipush 60, 2) := by decide +kernel
theorem dL_goOn_2 : decode cL_goOn 2 = .ok (.newarray .int, 2) := by decide +kernel
theorem dL_goOn_4 : decode cL_goOn 4 = .ok (.astore 8, 2) := by decide +kernel
theorem dL_goOn_6 : decode cL_goOn 6 = .ok (.bipush 20, 2) := by decide +kernel
theorem dL_goOn_8 : decode cL_goOn 8 = .ok (.newarray .int, 2) := by decide +kernel
theorem dL_goOn_10 : decode cL_goOn 10 = .ok (.astore 9, 2) := by decide +kernel
theorem dL_goOn_12 : decode cL_goOn 12 = .ok (.bipush 20, 2) := by decide +kernel
theorem dL_goOn_14 : decode cL_goOn 14 = .ok (.newarray .int, 2) := by decide +kernel
theorem dL_goOn_16 : decode cL_goOn 16 = .ok (.astore 10, 2) := by decide +kernel
theorem dL_goOn_18 : decode cL_goOn 18 = .ok (.bipush 7, 2) := by decide +kernel
theorem dL_goOn_20 : decode cL_goOn 20 = .ok (.newarray .int, 2) := by decide +kernel
theorem dL_goOn_22 : decode cL_goOn 22 = .ok (.astore 11, 2) := by decide +kernel
theorem dL_goOn_24 : decode cL_goOn 24 = .ok (.aload_n 0, 1) := by decide +kernel
theorem dL_goOn_25 : decode cL_goOn 25 = .ok (.aload 8, 2) := by decide +kernel
theorem dL_goOn_27 : decode cL_goOn 27 = .ok (.invokestatic 50, 3) := by decide +kernel
theorem dL_goOn_30 : decode cL_goOn 30 = .ok (.aload_n 1, 1) := by decide +kernel
theorem dL_goOn_31 : decode cL_goOn 31 = .ok (.aload 9, 2) := by decide +kernel
theorem dL_goOn_33 : decode cL_goOn 33 = .ok (.invokestatic 50, 3) := by decide +kernel
theorem dL_goOn_36 : decode cL_goOn 36 = .ok (.aload_n 2, 1) := by decide +kernel
theorem dL_goOn_37 : decode cL_goOn 37 = .ok (.aload 10, 2) := by decide +kernel
theorem dL_goOn_39 : decode cL_goOn 39 = .ok (.invokestatic 50, 3) := by decide +kernel
theorem dL_goOn_42 : decode cL_goOn 42 = .ok (.aload 4, 2) := by decide +kernel
theorem dL_goOn_44 : decode cL_goOn 44 = .ok (.aload 11, 2) := by decide +kernel
theorem dL_goOn_46 : decode cL_goOn 46 = .ok (.invokestatic 50, 3) := by decide +kernel
theorem dL_goOn_49 : decode cL_goOn 49 = .ok (.aload 8, 2) := by decide +kernel
theorem dL_goOn_51 : decode cL_goOn 51 = .ok (.bipush 6, 2) := by decide +kernel
theorem dL_goOn_53 : decode cL_goOn 53 = .ok (.iload 5, 2) := by decide +kernel
theorem dL_goOn_55 : decode cL_goOn 55 = .ok (.imul, 1) := by decide +kernel
theorem dL_goOn_56 : decode cL_goOn 56 = .ok (.iconst 4, 1) := by decide +kernel
theorem dL_goOn_57 : decode cL_goOn 57 = .ok (.iadd, 1) := by decide +kernel
theorem dL_goOn_58 : decode cL_goOn 58 = .ok (.iload 6, 2) := by decide +kernel
theorem dL_goOn_60 : decode cL_goOn 60 = .ok (.iastore, 1) := by decide +kernel
theorem dL_goOn_61 : decode cL_goOn 61 = .ok (.iconst 0, 1) := by decide +kernel
theorem dL_goOn_62 : decode cL_goOn 62 = .ok (.istore 12, 2) := by decide +kernel
theorem dL_goOn_64 : decode cL_goOn 64 = .ok (.iconst 0, 1) := by decide +kernel
theorem dL_goOn_65 : decode cL_goOn 65 = .ok (.istore 13, 2) := by decide +kernel
theorem dL_goOn_67 : decode cL_goOn 67 = .ok (.iload 13, 2) := by decide +kernel
theorem dL_goOn_69 : decode cL_goOn 69 = .ok (.iload 7, 2) := by decide +kernel
theorem dL_goOn_71 : decode cL_goOn 71 = .ok (.if_icmp .ge 26, 3) := by decide +kernel
theorem dL_goOn_74 : decode cL_goOn 74 = .ok (.iload 12, 2) := by decide +kernel
theorem dL_goOn_76 : decode cL_goOn 76 = .ok (.aload 8, 2) := by decide +kernel
theorem dL_goOn_78 : decode cL_goOn 78 = .ok (.aload 9, 2) := by decide +kernel
theorem dL_goOn_80 : decode cL_goOn 80 = .ok (.aload 10, 2) := by decide +kernel
theorem dL_goOn_82 : decode cL_goOn 82 = .ok (.aload_n 3, 1) := by decide +kernel
theorem dL_goOn_83 : decode cL_goOn 83 = .ok (.aload 11, 2) := by decide +kernel
theorem dL_goOn_85 : decode cL_goOn 85 = .ok (.invokestatic 54, 3) := by decide +kernel
theorem dL_goOn_88 : decode cL_goOn 88 = .ok (.iadd, 1) := by decide +kernel
theorem dL_goOn_89 : decode cL_goOn 89 = .ok (.istore 12, 2) := by decide +kernel
theorem dL_goOn_91 : decode cL_goOn 91 = .ok (.iinc 13 1, 3) := by decide +kernel
theorem dL_goOn_94 : decode cL_goOn 94 = .ok (.goto (-27), 3) := by decide +kernel
theorem dL_goOn_97 : decode cL_goOn 97 = .ok (.iconst 0, 1) := by decide +kernel
theorem dL_goOn_98 : decode cL_goOn 98 = .ok (.istore 13, 2) := by decide +kernel
theorem dL_goOn_100 : decode cL_goOn 100 = .ok (.iconst 0, 1) := by decide +kernel
theorem dL_goOn_101 : decode cL_goOn 101 = .ok (.istore 14, 2) := by decide +kernel
theorem dL_goOn_103 : decode cL_goOn 103 = .ok (.iload 14, 2) := by decide +kernel
theorem dL_goOn_105 : decode cL_goOn 105 = .ok (.aload 4, 2) := by decide +kernel
theorem dL_goOn_107 : decode cL_goOn 107 = .ok (.iconst 4, 1) := by decide +kernel
theorem dL_goOn_108 : decode cL_goOn 108 = .ok (.iaload, 1) := by decide +kernel
theorem dL_goOn_109 : decode cL_goOn 109 = .ok (.if_icmp .ge 32, 3) := by decide +kernel
theorem dL_goOn_112 : decode cL_goOn 112 = .ok (.iload 13, 2) := by decide +kernel
theorem dL_goOn_114 : decode cL_goOn 114 = .ok (.aload 9, 2) := by decide +kernel
theorem dL_goOn_116 : decode cL_goOn 116 = .ok (.iconst 2, 1) := by decide +kernel
theorem dL_goOn_117 : decode cL_goOn 117 = .ok (.iload 14, 2) := by decide +kernel
theorem dL_goOn_119 : decode cL_goOn 119 = .ok (.imul, 1) := by decide +kernel
theorem dL_goOn_120 : decode cL_goOn 120 = .ok (.iconst 1, 1) := by decide +kernel
theorem dL_goOn_121 : decode cL_goOn 121 = .ok (.iadd, 1) := by decide +kernel
theorem dL_goOn_122 : decode cL_goOn 122 = .ok (.iaload, 1) := by decide +kernel
theorem dL_goOn_123 : decode cL_goOn 123 = .ok (.aload_n 1, 1) := by decide +kernel
theorem dL_goOn_124 : decode cL_goOn 124 = .ok (.iconst 2, 1) := by decide +kernel
theorem dL_goOn_125 : decode cL_goOn 125 = .ok (.iload 14, 2) := by decide +kernel
theorem dL_goOn_127 : decode cL_goOn 127 = .ok (.imul, 1) := by decide +kernel
theorem dL_goOn_128 : decode cL_goOn 128 = .ok (.iconst 1, 1) := by decide +kernel
theorem dL_goOn_129 : decode cL_goOn 129 = .ok (.iadd, 1) := by decide +kernel
theorem dL_goOn_130 : decode cL_goOn 130 = .ok (.iaload, 1) := by decide +kernel
theorem dL_goOn_131 : decode cL_goOn 131 = .ok (.isub, 1) := by decide +kernel
theorem dL_goOn_132 : decode cL_goOn 132 = .ok (.iadd, 1) := by decide +kernel
theorem dL_goOn_133 : decode cL_goOn 133 = .ok (.istore 13, 2) := by decide +kernel
theorem dL_goOn_135 : decode cL_goOn 135 = .ok (.iinc 14 1, 3) := by decide +kernel
theorem dL_goOn_138 : decode cL_goOn 138 = .ok (.goto (-35), 3) := by decide +kernel
theorem dL_goOn_141 : decode cL_goOn 141 = .ok (.ldc2_w 58, 3) := by decide +kernel
theorem dL_goOn_144 : decode cL_goOn 144 = .ok (.aload 9, 2) := by decide +kernel
theorem dL_goOn_146 : decode cL_goOn 146 = .ok (.iconst 2, 1) := by decide +kernel
theorem dL_goOn_147 : decode cL_goOn 147 = .ok (.iload 5, 2) := by decide +kernel
theorem dL_goOn_149 : decode cL_goOn 149 = .ok (.imul, 1) := by decide +kernel
theorem dL_goOn_150 : decode cL_goOn 150 = .ok (.iaload, 1) := by decide +kernel
theorem dL_goOn_151 : decode cL_goOn 151 = .ok (.aload_n 1, 1) := by decide +kernel
theorem dL_goOn_152 : decode cL_goOn 152 = .ok (.iconst 2, 1) := by decide +kernel
theorem dL_goOn_153 : decode cL_goOn 153 = .ok (.iload 5, 2) := by decide +kernel
theorem dL_goOn_155 : decode cL_goOn 155 = .ok (.imul, 1) := by decide +kernel
theorem dL_goOn_156 : decode cL_goOn 156 = .ok (.iaload, 1) := by decide +kernel
theorem dL_goOn_157 : decode cL_goOn 157 = .ok (.isub, 1) := by decide +kernel
theorem dL_goOn_158 : decode cL_goOn 158 = .ok (.i2l, 1) := by decide +kernel
theorem dL_goOn_159 : decode cL_goOn 159 = .ok (.lmul, 1) := by decide +kernel
theorem dL_goOn_160 : decode cL_goOn 160 = .ok (.ldc2_w 60, 3) := by decide +kernel
theorem dL_goOn_163 : decode cL_goOn 163 = .ok (.iload 13, 2) := by decide +kernel
theorem dL_goOn_165 : decode cL_goOn 165 = .ok (.i2l, 1) := by decide +kernel
theorem dL_goOn_166 : decode cL_goOn 166 = .ok (.lmul, 1) := by decide +kernel
theorem dL_goOn_167 : decode cL_goOn 167 = .ok (.ladd, 1) := by decide +kernel
theorem dL_goOn_168 : decode cL_goOn 168 = .ok (.iload 12, 2) := by decide +kernel
theorem dL_goOn_170 : decode cL_goOn 170 = .ok (.i2l, 1) := by decide +kernel
theorem dL_goOn_171 : decode cL_goOn 171 = .ok (.ladd, 1) := by decide +kernel
theorem dL_goOn_172 : decode cL_goOn 172 = .ok (.lreturn, 1) := by decide +kernel
theorem dL_wouldBe_0 : decode cL_wouldBe 0 = .ok (.iload 6, 2) := by decide +kernel
theorem dL_wouldBe_2 : decode cL_wouldBe 2 = .ok (.aload 5, 2) := by decide +kernel
theorem dL_wouldBe_4 : decode cL_wouldBe 4 = .ok (.iconst 4, 1) := by decide +kernel
theorem dL_wouldBe_5 : decode cL_wouldBe 5 = .ok (.iaload, 1) := by decide +kernel
theorem dL_wouldBe_6 : decode cL_wouldBe 6 = .ok (.invokestatic 62, 3) := by decide +kernel
theorem dL_wouldBe_9 : decode cL_wouldBe 9 = .ok (.istore 7, 2) := by decide +kernel
theorem dL_wouldBe_11 : decode cL_wouldBe 11 = .ok (.iload 6, 2) := by decide +kernel
theorem dL_wouldBe_13 : decode cL_wouldBe 13 = .ok (.iconst 4, 1) := by decide +kernel
theorem dL_wouldBe_14 : decode cL_wouldBe 14 = .ok (.ishr, 1) := by decide +kernel
theorem dL_wouldBe_15 : decode cL_wouldBe 15 = .ok (.bipush 12, 2) := by decide +kernel
theorem dL_wouldBe_17 : decode cL_wouldBe 17 = .ok (.invokestatic 62, 3) := by decide +kernel
theorem dL_wouldBe_20 : decode cL_wouldBe 20 = .ok (.istore 8, 2) := by decide +kernel
theorem dL_wouldBe_22 : decode cL_wouldBe 22 = .ok (.iconst 1, 1) := by decide +kernel
theorem dL_wouldBe_23 : decode cL_wouldBe 23 = .ok (.iload 6, 2) := by decide +kernel
theorem dL_wouldBe_25 : decode cL_wouldBe 25 = .ok (.bipush 8, 2) := by decide +kernel
theorem dL_wouldBe_27 : decode cL_wouldBe 27 = .ok (.ishr, 1) := by decide +kernel
theorem dL_wouldBe_28 : decode cL_wouldBe 28 = .ok (.bipush 48, 2) := by decide +kernel
theorem dL_wouldBe_30 : decode cL_wouldBe 30 = .ok (.invokestatic 62, 3) := by decide +kernel
theorem dL_wouldBe_33 : decode cL_wouldBe 33 = .ok (.iadd, 1) := by decide +kernel
theorem dL_wouldBe_34 : decode cL_wouldBe 34 = .ok (.istore 9, 2) := by decide +kernel
theorem dL_wouldBe_36 : decode cL_wouldBe 36 = .ok (.aload_n 1, 1) := by decide +kernel
theorem dL_wouldBe_37 : decode cL_wouldBe 37 = .ok (.aload 5, 2) := by decide +kernel
theorem dL_wouldBe_39 : decode cL_wouldBe 39 = .ok (.iload 8, 2) := by decide +kernel
theorem dL_wouldBe_41 : decode cL_wouldBe 41 = .ok (.invokestatic 38, 3) := by decide +kernel
theorem dL_wouldBe_44 : decode cL_wouldBe 44 = .ok (.ifCond .lt 20, 3) := by decide +kernel
theorem dL_wouldBe_47 : decode cL_wouldBe 47 = .ok (.aload_n 1, 1) := by decide +kernel
theorem dL_wouldBe_48 : decode cL_wouldBe 48 = .ok (.aload 5, 2) := by decide +kernel
theorem dL_wouldBe_50 : decode cL_wouldBe 50 = .ok (.iload 8, 2) := by decide +kernel
theorem dL_wouldBe_52 : decode cL_wouldBe 52 = .ok (.invokestatic 38, 3) := by decide +kernel
theorem dL_wouldBe_55 : decode cL_wouldBe 55 = .ok (.iload 7, 2) := by decide +kernel
theorem dL_wouldBe_57 : decode cL_wouldBe 57 = .ok (.if_icmp .eq 7, 3) := by decide +kernel
theorem dL_wouldBe_60 : decode cL_wouldBe 60 = .ok (.iconst 1, 1) := by decide +kernel
theorem dL_wouldBe_61 : decode cL_wouldBe 61 = .ok (.goto 4, 3) := by decide +kernel
theorem dL_wouldBe_64 : decode cL_wouldBe 64 = .ok (.iconst 0, 1) := by decide +kernel
theorem dL_wouldBe_65 : decode cL_wouldBe 65 = .ok (.istore 10, 2) := by decide +kernel
theorem dL_wouldBe_67 : decode cL_wouldBe 67 = .ok (.iload 10, 2) := by decide +kernel
theorem dL_wouldBe_69 : decode cL_wouldBe 69 = .ok (.ifCond .eq 7, 3) := by decide +kernel
theorem dL_wouldBe_72 : decode cL_wouldBe 72 = .ok (.lconst 0, 1) := by decide +kernel
theorem dL_wouldBe_73 : decode cL_wouldBe 73 = .ok (.goto 19, 3) := by decide +kernel
theorem dL_wouldBe_76 : decode cL_wouldBe 76 = .ok (.aload_n 1, 1) := by decide +kernel
theorem dL_wouldBe_77 : decode cL_wouldBe 77 = .ok (.aload_n 2, 1) := by decide +kernel
theorem dL_wouldBe_78 : decode cL_wouldBe 78 = .ok (.aload_n 3, 1) := by decide +kernel
theorem dL_wouldBe_79 : decode cL_wouldBe 79 = .ok (.aload 4, 2) := by decide +kernel
theorem dL_wouldBe_81 : decode cL_wouldBe 81 = .ok (.aload 5, 2) := by decide +kernel
theorem dL_wouldBe_83 : decode cL_wouldBe 83 = .ok (.iload 7, 2) := by decide +kernel
theorem dL_wouldBe_85 : decode cL_wouldBe 85 = .ok (.iload 8, 2) := by decide +kernel
theorem dL_wouldBe_87 : decode cL_wouldBe 87 = .ok (.iload 9, 2) := by decide +kernel
theorem dL_wouldBe_89 : decode cL_wouldBe 89 = .ok (.invokestatic 65, 3) := by decide +kernel
theorem dL_wouldBe_92 : decode cL_wouldBe 92 = .ok (.lstore 11, 2) := by decide +kernel
theorem dL_wouldBe_94 : decode cL_wouldBe 94 = .ok (.aload_n 0, 1) := by decide +kernel
theorem dL_wouldBe_95 : decode cL_wouldBe 95 = .ok (.iload 7, 2) := by decide +kernel
theorem dL_wouldBe_97 : decode cL_wouldBe 97 = .ok (.iload 8, 2) := by decide +kernel
theorem dL_wouldBe_99 : decode cL_wouldBe 99 = .ok (.iload 9, 2) := by decide +kernel
theorem dL_wouldBe_101 : decode cL_wouldBe 101 = .ok (.iconst 0, 1) := by decide +kernel
theorem dL_wouldBe_102 : decode cL_wouldBe 102 = .ok (.invokevirtual 69, 3) := by decide +kernel
theorem dL_wouldBe_105 : decode cL_wouldBe 105 = .ok (.i2l, 1) := by decide +kernel
theorem dL_wouldBe_106 : decode cL_wouldBe 106 = .ok (.iload 10, 2) := by decide +kernel
theorem dL_wouldBe_108 : decode cL_wouldBe 108 = .ok (.ifCond .eq 9, 3) := by decide +kernel
theorem dL_wouldBe_111 : decode cL_wouldBe 111 = .ok (.ldc2_w 73, 3) := by decide +kernel
theorem dL_wouldBe_114 : decode cL_wouldBe 114 = .ok (.goto 9, 3) := by decide +kernel
theorem dL_wouldBe_117 : decode cL_wouldBe 117 = .ok (.lload 11, 2) := by decide +kernel
theorem dL_wouldBe_119 : decode cL_wouldBe 119 = .ok (.ldc2_w 60, 3) := by decide +kernel
theorem dL_wouldBe_122 : decode cL_wouldBe 122 = .ok (.lrem, 1) := by decide +kernel
theorem dL_wouldBe_123 : decode cL_wouldBe 123 = .ok (.lcmp, 1) := by decide +kernel
theorem dL_wouldBe_124 : decode cL_wouldBe 124 = .ok (.ifCond .ne 77, 3) := by decide +kernel
theorem dL_wouldBe_127 : decode cL_wouldBe 127 = .ok (.aload_n 0, 1) := by decide +kernel
theorem dL_wouldBe_128 : decode cL_wouldBe 128 = .ok (.iload 7, 2) := by decide +kernel
theorem dL_wouldBe_130 : decode cL_wouldBe 130 = .ok (.iload 8, 2) := by decide +kernel
theorem dL_wouldBe_132 : decode cL_wouldBe 132 = .ok (.iload 9, 2) := by decide +kernel
theorem dL_wouldBe_134 : decode cL_wouldBe 134 = .ok (.iconst 1, 1) := by decide +kernel
theorem dL_wouldBe_135 : decode cL_wouldBe 135 = .ok (.invokevirtual 69, 3) := by decide +kernel
theorem dL_wouldBe_138 : decode cL_wouldBe 138 = .ok (.i2l, 1) := by decide +kernel
theorem dL_wouldBe_139 : decode cL_wouldBe 139 = .ok (.iload 10, 2) := by decide +kernel
theorem dL_wouldBe_141 : decode cL_wouldBe 141 = .ok (.ifCond .eq 9, 3) := by decide +kernel
theorem dL_wouldBe_144 : decode cL_wouldBe 144 = .ok (.ldc2_w 73, 3) := by decide +kernel
theorem dL_wouldBe_147 : decode cL_wouldBe 147 = .ok (.goto 13, 3) := by decide +kernel
theorem dL_wouldBe_150 : decode cL_wouldBe 150 = .ok (.lload 11, 2) := by decide +kernel
theorem dL_wouldBe_152 : decode cL_wouldBe 152 = .ok (.ldc2_w 60, 3) := by decide +kernel
theorem dL_wouldBe_155 : decode cL_wouldBe 155 = .ok (.ldiv, 1) := by decide +kernel
theorem dL_wouldBe_156 : decode cL_wouldBe 156 = .ok (.ldc2_w 60, 3) := by decide +kernel
theorem dL_wouldBe_159 : decode cL_wouldBe 159 = .ok (.lrem, 1) := by decide +kernel
theorem dL_wouldBe_160 : decode cL_wouldBe 160 = .ok (.lcmp, 1) := by decide +kernel
theorem dL_wouldBe_161 : decode cL_wouldBe 161 = .ok (.ifCond .ne 40, 3) := by decide +kernel
theorem dL_wouldBe_164 : decode cL_wouldBe 164 = .ok (.aload_n 0, 1) := by decide +kernel
theorem dL_wouldBe_165 : decode cL_wouldBe 165 = .ok (.iload 7, 2) := by decide +kernel
theorem dL_wouldBe_167 : decode cL_wouldBe 167 = .ok (.iload 8, 2) := by decide +kernel
theorem dL_wouldBe_169 : decode cL_wouldBe 169 = .ok (.iload 9, 2) := by decide +kernel
theorem dL_wouldBe_171 : decode cL_wouldBe 171 = .ok (.iconst 2, 1) := by decide +kernel
theorem dL_wouldBe_172 : decode cL_wouldBe 172 = .ok (.invokevirtual 69, 3) := by decide +kernel
theorem dL_wouldBe_175 : decode cL_wouldBe 175 = .ok (.i2l, 1) := by decide +kernel
theorem dL_wouldBe_176 : decode cL_wouldBe 176 = .ok (.iload 10, 2) := by decide +kernel
theorem dL_wouldBe_178 : decode cL_wouldBe 178 = .ok (.ifCond .eq 9, 3) := by decide +kernel
theorem dL_wouldBe_181 : decode cL_wouldBe 181 = .ok (.ldc2_w 73, 3) := by decide +kernel
theorem dL_wouldBe_184 : decode cL_wouldBe 184 = .ok (.goto 9, 3) := by decide +kernel
theorem dL_wouldBe_187 : decode cL_wouldBe 187 = .ok (.lload 11, 2) := by decide +kernel
theorem dL_wouldBe_189 : decode cL_wouldBe 189 = .ok (.ldc2_w 58, 3) := by decide +kernel
theorem dL_wouldBe_192 : decode cL_wouldBe 192 = .ok (.ldiv, 1) := by decide +kernel
theorem dL_wouldBe_193 : decode cL_wouldBe 193 = .ok (.lcmp, 1) := by decide +kernel
theorem dL_wouldBe_194 : decode cL_wouldBe 194 = .ok (.ifCond .ne 7, 3) := by decide +kernel
theorem dL_wouldBe_197 : decode cL_wouldBe 197 = .ok (.iconst 1, 1) := by decide +kernel
theorem dL_wouldBe_198 : decode cL_wouldBe 198 = .ok (.goto 4, 3) := by decide +kernel
theorem dL_wouldBe_201 : decode cL_wouldBe 201 = .ok (.iconst 0, 1) := by decide +kernel
theorem dL_wouldBe_202 : decode cL_wouldBe 202 = .ok (.istore 13, 2) := by decide +kernel
theorem dL_wouldBe_204 : decode cL_wouldBe 204 = .ok (.iconst (-1), 1) := by decide +kernel
theorem dL_wouldBe_205 : decode cL_wouldBe 205 = .ok (.istore 14, 2) := by decide +kernel
theorem dL_wouldBe_207 : decode cL_wouldBe 207 = .ok (.lconst 0, 1) := by decide +kernel
theorem dL_wouldBe_208 : decode cL_wouldBe 208 = .ok (.lstore 15, 2) := by decide +kernel
theorem dL_wouldBe_210 : decode cL_wouldBe 210 = .ok (.bipush 11, 2) := by decide +kernel
theorem dL_wouldBe_212 : decode cL_wouldBe 212 = .ok (.istore 17, 2) := by decide +kernel
theorem dL_wouldBe_214 : decode cL_wouldBe 214 = .ok (.iload 17, 2) := by decide +kernel
theorem dL_wouldBe_216 : decode cL_wouldBe 216 = .ok (.ifCond .lt 103, 3) := by decide +kernel
theorem dL_wouldBe_219 : decode cL_wouldBe 219 = .ok (.aload_n 1, 1) := by decide +kernel
theorem dL_wouldBe_220 : decode cL_wouldBe 220 = .ok (.aload 5, 2) := by decide +kernel
theorem dL_wouldBe_222 : decode cL_wouldBe 222 = .ok (.iload 17, 2) := by decide +kernel
theorem dL_wouldBe_224 : decode cL_wouldBe 224 = .ok (.invokestatic 38, 3) := by decide +kernel
theorem dL_wouldBe_227 : decode cL_wouldBe 227 = .ok (.ifCond .lt 16, 3) := by decide +kernel
theorem dL_wouldBe_230 : decode cL_wouldBe 230 = .ok (.aload_n 1, 1) := by decide +kernel
theorem dL_wouldBe_231 : decode cL_wouldBe 231 = .ok (.aload 5, 2) := by decide +kernel
theorem dL_wouldBe_233 : decode cL_wouldBe 233 = .ok (.iload 17, 2) := by decide +kernel
theorem dL_wouldBe_235 : decode cL_wouldBe 235 = .ok (.invokestatic 38, 3) := by decide +kernel
theorem dL_wouldBe_238 : decode cL_wouldBe 238 = .ok (.iload 7, 2) := by decide +kernel
theorem dL_wouldBe_240 : decode cL_wouldBe 240 = .ok (.if_icmp .ne 73, 3) := by decide +kernel
theorem dL_wouldBe_243 : decode cL_wouldBe 243 = .ok (.aload_n 1, 1) := by decide +kernel
theorem dL_wouldBe_244 : decode cL_wouldBe 244 = .ok (.aload_n 2, 1) := by decide +kernel
theorem dL_wouldBe_245 : decode cL_wouldBe 245 = .ok (.aload_n 3, 1) := by decide +kernel
theorem dL_wouldBe_246 : decode cL_wouldBe 246 = .ok (.aload 4, 2) := by decide +kernel
theorem dL_wouldBe_248 : decode cL_wouldBe 248 = .ok (.aload 5, 2) := by decide +kernel
theorem dL_wouldBe_250 : decode cL_wouldBe 250 = .ok (.iload 7, 2) := by decide +kernel
theorem dL_wouldBe_252 : decode cL_wouldBe 252 = .ok (.iload 17, 2) := by decide +kernel
theorem dL_wouldBe_254 : decode cL_wouldBe 254 = .ok (.bipush 24, 2) := by decide +kernel
theorem dL_wouldBe_256 : decode cL_wouldBe 256 = .ok (.invokestatic 65, 3) := by decide +kernel
theorem dL_wouldBe_259 : decode cL_wouldBe 259 = .ok (.ldc2_w 58, 3) := by decide +kernel
theorem dL_wouldBe_262 : decode cL_wouldBe 262 = .ok (.lrem, 1) := by decide +kernel
theorem dL_wouldBe_263 : decode cL_wouldBe 263 = .ok (.lstore 18, 2) := by decide +kernel
theorem dL_wouldBe_265 : decode cL_wouldBe 265 = .ok (.iload 14, 2) := by decide +kernel
theorem dL_wouldBe_267 : decode cL_wouldBe 267 = .ok (.ifCond .lt 11, 3) := by decide +kernel
theorem dL_wouldBe_270 : decode cL_wouldBe 270 = .ok (.lload 18, 2) := by decide +kernel
theorem dL_wouldBe_272 : decode cL_wouldBe 272 = .ok (.lload 15, 2) := by decide +kernel
theorem dL_wouldBe_274 : decode cL_wouldBe 274 = .ok (.lcmp, 1) := by decide +kernel
theorem dL_wouldBe_275 : decode cL_wouldBe 275 = .ok (.ifCond .gt 7, 3) := by decide +kernel
theorem dL_wouldBe_278 : decode cL_wouldBe 278 = .ok (.iconst 1, 1) := by decide +kernel
theorem dL_wouldBe_279 : decode cL_wouldBe 279 = .ok (.goto 4, 3) := by decide +kernel
theorem dL_wouldBe_282 : decode cL_wouldBe 282 = .ok (.iconst 0, 1) := by decide +kernel
theorem dL_wouldBe_283 : decode cL_wouldBe 283 = .ok (.istore 20, 2) := by decide +kernel
theorem dL_wouldBe_285 : decode cL_wouldBe 285 = .ok (.iload 20, 2) := by decide +kernel
theorem dL_wouldBe_287 : decode cL_wouldBe 287 = .ok (.ifCond .eq 8, 3) := by decide +kernel
theorem dL_wouldBe_290 : decode cL_wouldBe 290 = .ok (.iload 17, 2) := by decide +kernel
theorem dL_wouldBe_292 : decode cL_wouldBe 292 = .ok (.goto 5, 3) := by decide +kernel
theorem dL_wouldBe_295 : decode cL_wouldBe 295 = .ok (.iload 14, 2) := by decide +kernel
theorem dL_wouldBe_297 : decode cL_wouldBe 297 = .ok (.istore 14, 2) := by decide +kernel
theorem dL_wouldBe_299 : decode cL_wouldBe 299 = .ok (.iload 20, 2) := by decide +kernel
theorem dL_wouldBe_301 : decode cL_wouldBe 301 = .ok (.ifCond .eq 8, 3) := by decide +kernel
theorem dL_wouldBe_304 : decode cL_wouldBe 304 = .ok (.lload 18, 2) := by decide +kernel
theorem dL_wouldBe_306 : decode cL_wouldBe 306 = .ok (.goto 5, 3) := by decide +kernel
theorem dL_wouldBe_309 : decode cL_wouldBe 309 = .ok (.lload 15, 2) := by decide +kernel
theorem dL_wouldBe_311 : decode cL_wouldBe 311 = .ok (.lstore 15, 2) := by decide +kernel
theorem dL_wouldBe_313 : decode cL_wouldBe 313 = .ok (.iinc 17 (-1), 3) := by decide +kernel
theorem dL_wouldBe_316 : decode cL_wouldBe 316 = .ok (.goto (-102), 3) := by decide +kernel
theorem dL_wouldBe_319 : decode cL_wouldBe 319 = .ok (.iload 13, 2) := by decide +kernel
theorem dL_wouldBe_321 : decode cL_wouldBe 321 = .ok (.ifCond .eq 18, 3) := by decide +kernel
theorem dL_wouldBe_324 : decode cL_wouldBe 324 = .ok (.aload_n 0, 1) := by decide +kernel
theorem dL_wouldBe_325 : decode cL_wouldBe 325 = .ok (.iload 7, 2) := by decide +kernel
theorem dL_wouldBe_327 : decode cL_wouldBe 327 = .ok (.invokevirtual 75, 3) := by decide +kernel
theorem dL_wouldBe_330 : decode cL_wouldBe 330 = .ok (.iload 14, 2) := by decide +kernel
theorem dL_wouldBe_332 : decode cL_wouldBe 332 = .ok (.if_icmp .ne 7, 3) := by decide +kernel
theorem dL_wouldBe_335 : decode cL_wouldBe 335 = .ok (.iconst 1, 1) := by decide +kernel
theorem dL_wouldBe_336 : decode cL_wouldBe 336 = .ok (.goto 4, 3) := by decide +kernel
theorem dL_wouldBe_339 : decode cL_wouldBe 339 = .ok (.iconst 0, 1) := by decide +kernel
theorem dL_wouldBe_340 : decode cL_wouldBe 340 = .ok (.ireturn, 1) := by decide +kernel
theorem dL_trips_0 : decode cL_trips 0 = .ok (.bipush 60, 2) := by decide +kernel
theorem dL_trips_2 : decode cL_trips 2 = .ok (.newarray .int, 2) := by decide +kernel
theorem dL_trips_4 : decode cL_trips 4 = .ok (.astore 8, 2) := by decide +kernel
theorem dL_trips_6 : decode cL_trips 6 = .ok (.bipush 20, 2) := by decide +kernel
theorem dL_trips_8 : decode cL_trips 8 = .ok (.newarray .int, 2) := by decide +kernel
theorem dL_trips_10 : decode cL_trips 10 = .ok (.astore 9, 2) := by decide +kernel
theorem dL_trips_12 : decode cL_trips 12 = .ok (.bipush 20, 2) := by decide +kernel
theorem dL_trips_14 : decode cL_trips 14 = .ok (.newarray .int, 2) := by decide +kernel
theorem dL_trips_16 : decode cL_trips 16 = .ok (.astore 10, 2) := by decide +kernel
theorem dL_trips_18 : decode cL_trips 18 = .ok (.bipush 7, 2) := by decide +kernel
theorem dL_trips_20 : decode cL_trips 20 = .ok (.newarray .int, 2) := by decide +kernel
theorem dL_trips_22 : decode cL_trips 22 = .ok (.astore 11, 2) := by decide +kernel
theorem dL_trips_24 : decode cL_trips 24 = .ok (.aload_n 1, 1) := by decide +kernel
theorem dL_trips_25 : decode cL_trips 25 = .ok (.aload 8, 2) := by decide +kernel
theorem dL_trips_27 : decode cL_trips 27 = .ok (.invokestatic 50, 3) := by decide +kernel
theorem dL_trips_30 : decode cL_trips 30 = .ok (.aload_n 2, 1) := by decide +kernel
theorem dL_trips_31 : decode cL_trips 31 = .ok (.aload 9, 2) := by decide +kernel
theorem dL_trips_33 : decode cL_trips 33 = .ok (.invokestatic 50, 3) := by decide +kernel
theorem dL_trips_36 : decode cL_trips 36 = .ok (.aload_n 3, 1) := by decide +kernel
theorem dL_trips_37 : decode cL_trips 37 = .ok (.aload 10, 2) := by decide +kernel
theorem dL_trips_39 : decode cL_trips 39 = .ok (.invokestatic 50, 3) := by decide +kernel
theorem dL_trips_42 : decode cL_trips 42 = .ok (.aload 5, 2) := by decide +kernel
theorem dL_trips_44 : decode cL_trips 44 = .ok (.aload 11, 2) := by decide +kernel
theorem dL_trips_46 : decode cL_trips 46 = .ok (.invokestatic 50, 3) := by decide +kernel
theorem dL_trips_49 : decode cL_trips 49 = .ok (.iconst 0, 1) := by decide +kernel
theorem dL_trips_50 : decode cL_trips 50 = .ok (.istore 12, 2) := by decide +kernel
theorem dL_trips_52 : decode cL_trips 52 = .ok (.iload 12, 2) := by decide +kernel
theorem dL_trips_54 : decode cL_trips 54 = .ok (.bipush 97, 2) := by decide +kernel
theorem dL_trips_56 : decode cL_trips 56 = .ok (.if_icmp .ge 36, 3) := by decide +kernel
theorem dL_trips_59 : decode cL_trips 59 = .ok (.aload 10, 2) := by decide +kernel
theorem dL_trips_61 : decode cL_trips 61 = .ok (.iconst 5, 1) := by decide +kernel
theorem dL_trips_62 : decode cL_trips 62 = .ok (.iload 6, 2) := by decide +kernel
theorem dL_trips_64 : decode cL_trips 64 = .ok (.imul, 1) := by decide +kernel
theorem dL_trips_65 : decode cL_trips 65 = .ok (.iconst 1, 1) := by decide +kernel
theorem dL_trips_66 : decode cL_trips 66 = .ok (.iadd, 1) := by decide +kernel
theorem dL_trips_67 : decode cL_trips 67 = .ok (.iaload, 1) := by decide +kernel
theorem dL_trips_68 : decode cL_trips 68 = .ok (.iconst 1, 1) := by decide +kernel
theorem dL_trips_69 : decode cL_trips 69 = .ok (.if_icmp .ne 23, 3) := by decide +kernel
theorem dL_trips_72 : decode cL_trips 72 = .ok (.aload 8, 2) := by decide +kernel
theorem dL_trips_74 : decode cL_trips 74 = .ok (.aload 9, 2) := by decide +kernel
theorem dL_trips_76 : decode cL_trips 76 = .ok (.aload 10, 2) := by decide +kernel
theorem dL_trips_78 : decode cL_trips 78 = .ok (.aload 4, 2) := by decide +kernel
theorem dL_trips_80 : decode cL_trips 80 = .ok (.aload 11, 2) := by decide +kernel
theorem dL_trips_82 : decode cL_trips 82 = .ok (.invokestatic 54, 3) := by decide +kernel
theorem dL_trips_85 : decode cL_trips 85 = .ok (.pop, 1) := by decide +kernel
theorem dL_trips_86 : decode cL_trips 86 = .ok (.iinc 12 1, 3) := by decide +kernel
theorem dL_trips_89 : decode cL_trips 89 = .ok (.goto (-37), 3) := by decide +kernel
theorem dL_trips_92 : decode cL_trips 92 = .ok (.aload_n 0, 1) := by decide +kernel
theorem dL_trips_93 : decode cL_trips 93 = .ok (.iload 6, 2) := by decide +kernel
theorem dL_trips_95 : decode cL_trips 95 = .ok (.invokevirtual 78, 3) := by decide +kernel
theorem dL_trips_98 : decode cL_trips 98 = .ok (.iload 12, 2) := by decide +kernel
theorem dL_trips_100 : decode cL_trips 100 = .ok (.bipush 97, 2) := by decide +kernel
theorem dL_trips_102 : decode cL_trips 102 = .ok (.if_icmp .ne 7, 3) := by decide +kernel
theorem dL_trips_105 : decode cL_trips 105 = .ok (.iconst (-1), 1) := by decide +kernel
theorem dL_trips_106 : decode cL_trips 106 = .ok (.goto 5, 3) := by decide +kernel
theorem dL_trips_109 : decode cL_trips 109 = .ok (.iload 12, 2) := by decide +kernel
theorem dL_trips_111 : decode cL_trips 111 = .ok (.if_icmp .eq 5, 3) := by decide +kernel
theorem dL_trips_114 : decode cL_trips 114 = .ok (.iconst 0, 1) := by decide +kernel
theorem dL_trips_115 : decode cL_trips 115 = .ok (.ireturn, 1) := by decide +kernel
theorem dL_trips_116 : decode cL_trips 116 = .ok (.aload_n 0, 1) := by decide +kernel
theorem dL_trips_117 : decode cL_trips 117 = .ok (.iload 6, 2) := by decide +kernel
theorem dL_trips_119 : decode cL_trips 119 = .ok (.invokevirtual 81, 3) := by decide +kernel
theorem dL_trips_122 : decode cL_trips 122 = .ok (.istore 13, 2) := by decide +kernel
theorem dL_trips_124 : decode cL_trips 124 = .ok (.iconst 0, 1) := by decide +kernel
theorem dL_trips_125 : decode cL_trips 125 = .ok (.istore 14, 2) := by decide +kernel
theorem dL_trips_127 : decode cL_trips 127 = .ok (.iload 14, 2) := by decide +kernel
theorem dL_trips_129 : decode cL_trips 129 = .ok (.bipush 6, 2) := by decide +kernel
theorem dL_trips_131 : decode cL_trips 131 = .ok (.if_icmp .ge 201, 3) := by decide +kernel
theorem dL_trips_134 : decode cL_trips 134 = .ok (.iload 13, 2) := by decide +kernel
theorem dL_trips_136 : decode cL_trips 136 = .ok (.ifCond .ge 20, 3) := by decide +kernel
theorem dL_trips_139 : decode cL_trips 139 = .ok (.sipush 999, 3) := by decide +kernel
theorem dL_trips_142 : decode cL_trips 142 = .ok (.iload 14, 2) := by decide +kernel
theorem dL_trips_144 : decode cL_trips 144 = .ok (.iload 7, 2) := by decide +kernel
theorem dL_trips_146 : decode cL_trips 146 = .ok (.bipush 90, 2) := by decide +kernel
theorem dL_trips_148 : decode cL_trips 148 = .ok (.invokestatic 62, 3) := by decide +kernel
theorem dL_trips_151 : decode cL_trips 151 = .ok (.imul, 1) := by decide +kernel
theorem dL_trips_152 : decode cL_trips 152 = .ok (.isub, 1) := by decide +kernel
theorem dL_trips_153 : decode cL_trips 153 = .ok (.goto 29, 3) := by decide +kernel
theorem dL_trips_156 : decode cL_trips 156 = .ok (.iload 14, 2) := by decide +kernel
theorem dL_trips_158 : decode cL_trips 158 = .ok (.iconst 2, 1) := by decide +kernel
theorem dL_trips_159 : decode cL_trips 159 = .ok (.if_icmp .ge 11, 3) := by decide +kernel
theorem dL_trips_162 : decode cL_trips 162 = .ok (.iload 13, 2) := by decide +kernel
theorem dL_trips_164 : decode cL_trips 164 = .ok (.iload 14, 2) := by decide +kernel
theorem dL_trips_166 : decode cL_trips 166 = .ok (.isub, 1) := by decide +kernel
theorem dL_trips_167 : decode cL_trips 167 = .ok (.goto 15, 3) := by decide +kernel
theorem dL_trips_170 : decode cL_trips 170 = .ok (.iload 7, 2) := by decide +kernel
theorem dL_trips_172 : decode cL_trips 172 = .ok (.iconst 3, 1) := by decide +kernel
theorem dL_trips_173 : decode cL_trips 173 = .ok (.iload 14, 2) := by decide +kernel
theorem dL_trips_175 : decode cL_trips 175 = .ok (.imul, 1) := by decide +kernel
theorem dL_trips_176 : decode cL_trips 176 = .ok (.ishr, 1) := by decide +kernel
theorem dL_trips_177 : decode cL_trips 177 = .ok (.iload 13, 2) := by decide +kernel
theorem dL_trips_179 : decode cL_trips 179 = .ok (.invokestatic 62, 3) := by decide +kernel
theorem dL_trips_182 : decode cL_trips 182 = .ok (.istore 15, 2) := by decide +kernel
theorem dL_trips_184 : decode cL_trips 184 = .ok (.iload 15, 2) := by decide +kernel
theorem dL_trips_186 : decode cL_trips 186 = .ok (.bipush 10, 2) := by decide +kernel
theorem dL_trips_188 : decode cL_trips 188 = .ok (.if_icmp .lt 138, 3) := by decide +kernel
theorem dL_trips_191 : decode cL_trips 191 = .ok (.aload_n 1, 1) := by decide +kernel
theorem dL_trips_192 : decode cL_trips 192 = .ok (.aload 8, 2) := by decide +kernel
theorem dL_trips_194 : decode cL_trips 194 = .ok (.invokestatic 50, 3) := by decide +kernel
theorem dL_trips_197 : decode cL_trips 197 = .ok (.aload_n 2, 1) := by decide +kernel
theorem dL_trips_198 : decode cL_trips 198 = .ok (.aload 9, 2) := by decide +kernel
theorem dL_trips_200 : decode cL_trips 200 = .ok (.invokestatic 50, 3) := by decide +kernel
theorem dL_trips_203 : decode cL_trips 203 = .ok (.aload_n 3, 1) := by decide +kernel
theorem dL_trips_204 : decode cL_trips 204 = .ok (.aload 10, 2) := by decide +kernel
theorem dL_trips_206 : decode cL_trips 206 = .ok (.invokestatic 50, 3) := by decide +kernel
theorem dL_trips_209 : decode cL_trips 209 = .ok (.aload 5, 2) := by decide +kernel
theorem dL_trips_211 : decode cL_trips 211 = .ok (.aload 11, 2) := by decide +kernel
theorem dL_trips_213 : decode cL_trips 213 = .ok (.invokestatic 50, 3) := by decide +kernel
theorem dL_trips_216 : decode cL_trips 216 = .ok (.aload 10, 2) := by decide +kernel
theorem dL_trips_218 : decode cL_trips 218 = .ok (.iconst 5, 1) := by decide +kernel
theorem dL_trips_219 : decode cL_trips 219 = .ok (.iload 6, 2) := by decide +kernel
theorem dL_trips_221 : decode cL_trips 221 = .ok (.imul, 1) := by decide +kernel
theorem dL_trips_222 : decode cL_trips 222 = .ok (.iload 15, 2) := by decide +kernel
theorem dL_trips_224 : decode cL_trips 224 = .ok (.iastore, 1) := by decide +kernel
theorem dL_trips_225 : decode cL_trips 225 = .ok (.aload 10, 2) := by decide +kernel
theorem dL_trips_227 : decode cL_trips 227 = .ok (.iconst 5, 1) := by decide +kernel
theorem dL_trips_228 : decode cL_trips 228 = .ok (.iload 6, 2) := by decide +kernel
theorem dL_trips_230 : decode cL_trips 230 = .ok (.imul, 1) := by decide +kernel
theorem dL_trips_231 : decode cL_trips 231 = .ok (.iconst 1, 1) := by decide +kernel
theorem dL_trips_232 : decode cL_trips 232 = .ok (.iadd, 1) := by decide +kernel
theorem dL_trips_233 : decode cL_trips 233 = .ok (.iconst 1, 1) := by decide +kernel
theorem dL_trips_234 : decode cL_trips 234 = .ok (.iastore, 1) := by decide +kernel
theorem dL_trips_235 : decode cL_trips 235 = .ok (.aload 10, 2) := by decide +kernel
theorem dL_trips_237 : decode cL_trips 237 = .ok (.iconst 5, 1) := by decide +kernel
theorem dL_trips_238 : decode cL_trips 238 = .ok (.iload 6, 2) := by decide +kernel
theorem dL_trips_240 : decode cL_trips 240 = .ok (.imul, 1) := by decide +kernel
theorem dL_trips_241 : decode cL_trips 241 = .ok (.iconst 2, 1) := by decide +kernel
theorem dL_trips_242 : decode cL_trips 242 = .ok (.iadd, 1) := by decide +kernel
theorem dL_trips_243 : decode cL_trips 243 = .ok (.iconst 0, 1) := by decide +kernel
theorem dL_trips_244 : decode cL_trips 244 = .ok (.iastore, 1) := by decide +kernel
theorem dL_trips_245 : decode cL_trips 245 = .ok (.iconst 0, 1) := by decide +kernel
theorem dL_trips_246 : decode cL_trips 246 = .ok (.istore 16, 2) := by decide +kernel
theorem dL_trips_248 : decode cL_trips 248 = .ok (.iload 16, 2) := by decide +kernel
theorem dL_trips_250 : decode cL_trips 250 = .ok (.bipush 48, 2) := by decide +kernel
theorem dL_trips_252 : decode cL_trips 252 = .ok (.if_icmp .ge 23, 3) := by decide +kernel
theorem dL_trips_255 : decode cL_trips 255 = .ok (.aload 8, 2) := by decide +kernel
theorem dL_trips_257 : decode cL_trips 257 = .ok (.aload 9, 2) := by decide +kernel
theorem dL_trips_259 : decode cL_trips 259 = .ok (.aload 10, 2) := by decide +kernel
theorem dL_trips_261 : decode cL_trips 261 = .ok (.aload 4, 2) := by decide +kernel
theorem dL_trips_263 : decode cL_trips 263 = .ok (.aload 11, 2) := by decide +kernel
theorem dL_trips_265 : decode cL_trips 265 = .ok (.invokestatic 54, 3) := by decide +kernel
theorem dL_trips_268 : decode cL_trips 268 = .ok (.pop, 1) := by decide +kernel
theorem dL_trips_269 : decode cL_trips 269 = .ok (.iinc 16 1, 3) := by decide +kernel
theorem dL_trips_272 : decode cL_trips 272 = .ok (.goto (-24), 3) := by decide +kernel
theorem dL_trips_275 : decode cL_trips 275 = .ok (.aload 10, 2) := by decide +kernel
theorem dL_trips_277 : decode cL_trips 277 = .ok (.iconst 5, 1) := by decide +kernel
theorem dL_trips_278 : decode cL_trips 278 = .ok (.iload 6, 2) := by decide +kernel
theorem dL_trips_280 : decode cL_trips 280 = .ok (.imul, 1) := by decide +kernel
theorem dL_trips_281 : decode cL_trips 281 = .ok (.iconst 3, 1) := by decide +kernel
theorem dL_trips_282 : decode cL_trips 282 = .ok (.iadd, 1) := by decide +kernel
theorem dL_trips_283 : decode cL_trips 283 = .ok (.iaload, 1) := by decide +kernel
theorem dL_trips_284 : decode cL_trips 284 = .ok (.aload_n 3, 1) := by decide +kernel
theorem dL_trips_285 : decode cL_trips 285 = .ok (.iconst 5, 1) := by decide +kernel
theorem dL_trips_286 : decode cL_trips 286 = .ok (.iload 6, 2) := by decide +kernel
theorem dL_trips_288 : decode cL_trips 288 = .ok (.imul, 1) := by decide +kernel
theorem dL_trips_289 : decode cL_trips 289 = .ok (.iconst 3, 1) := by decide +kernel
theorem dL_trips_290 : decode cL_trips 290 = .ok (.iadd, 1) := by decide +kernel
theorem dL_trips_291 : decode cL_trips 291 = .ok (.iaload, 1) := by decide +kernel
theorem dL_trips_292 : decode cL_trips 292 = .ok (.if_icmp .le 7, 3) := by decide +kernel
theorem dL_trips_295 : decode cL_trips 295 = .ok (.iconst 1, 1) := by decide +kernel
theorem dL_trips_296 : decode cL_trips 296 = .ok (.goto 4, 3) := by decide +kernel
theorem dL_trips_299 : decode cL_trips 299 = .ok (.iconst 0, 1) := by decide +kernel
theorem dL_trips_300 : decode cL_trips 300 = .ok (.istore 16, 2) := by decide +kernel
theorem dL_trips_302 : decode cL_trips 302 = .ok (.iload 16, 2) := by decide +kernel
theorem dL_trips_304 : decode cL_trips 304 = .ok (.iload 13, 2) := by decide +kernel
theorem dL_trips_306 : decode cL_trips 306 = .ok (.ifCond .lt 10, 3) := by decide +kernel
theorem dL_trips_309 : decode cL_trips 309 = .ok (.iload 15, 2) := by decide +kernel
theorem dL_trips_311 : decode cL_trips 311 = .ok (.iload 13, 2) := by decide +kernel
theorem dL_trips_313 : decode cL_trips 313 = .ok (.if_icmp .ge 7, 3) := by decide +kernel
theorem dL_trips_316 : decode cL_trips 316 = .ok (.iconst 1, 1) := by decide +kernel
theorem dL_trips_317 : decode cL_trips 317 = .ok (.goto 4, 3) := by decide +kernel
theorem dL_trips_320 : decode cL_trips 320 = .ok (.iconst 0, 1) := by decide +kernel
theorem dL_trips_321 : decode cL_trips 321 = .ok (.if_icmp .eq 5, 3) := by decide +kernel
theorem dL_trips_324 : decode cL_trips 324 = .ok (.iconst 0, 1) := by decide +kernel
theorem dL_trips_325 : decode cL_trips 325 = .ok (.ireturn, 1) := by decide +kernel
theorem dL_trips_326 : decode cL_trips 326 = .ok (.iinc 14 1, 3) := by decide +kernel
theorem dL_trips_329 : decode cL_trips 329 = .ok (.goto (-202), 3) := by decide +kernel
theorem dL_trips_332 : decode cL_trips 332 = .ok (.iconst 1, 1) := by decide +kernel
theorem dL_trips_333 : decode cL_trips 333 = .ok (.ireturn, 1) := by decide +kernel
