/-! decode rows of the law, as printed -/
theorem dL_law_357 : decode cL_law 357 = .ok (.if_icmp .eq 7, 3) := by decide +kernel
theorem dL_law_360 : decode cL_law 360 = .ok (.iconst 1, 1) := by decide +kernel
theorem dL_law_361 : decode cL_law 361 = .ok (.goto 4, 3) := by decide +kernel
theorem dL_law_364 : decode cL_law 364 = .ok (.iconst 0, 1) := by decide +kernel
theorem dL_law_365 : decode cL_law 365 = .ok (.istore 22, 2) := by decide +kernel
theorem dL_law_367 : decode cL_law 367 = .ok (.aload_n 1, 1) := by decide +kernel
theorem dL_law_368 : decode cL_law 368 = .ok (.iconst 0, 1) := by decide +kernel
theorem dL_law_369 : decode cL_law 369 = .ok (.iload 18, 2) := by decide +kernel
theorem dL_law_371 : decode cL_law 371 = .ok (.iload 19, 2) := by decide +kernel
theorem dL_law_373 : decode cL_law 373 = .ok (.iconst 0, 1) := by decide +kernel
theorem dL_law_374 : decode cL_law 374 = .ok (.invokestatic 148, 3) := by decide +kernel
theorem dL_law_377 : decode cL_law 377 = .ok (.iload 22, 2) := by decide +kernel
theorem dL_law_379 : decode cL_law 379 = .ok (.ifCond .eq 13, 3) := by decide +kernel
theorem dL_law_382 : decode cL_law 382 = .ok (.aload 7, 2) := by decide +kernel
theorem dL_law_384 : decode cL_law 384 = .ok (.iload 18, 2) := by decide +kernel
theorem dL_law_386 : decode cL_law 386 = .ok (.iaload, 1) := by decide +kernel
theorem dL_law_387 : decode cL_law 387 = .ok (.iconst 1, 1) := by decide +kernel
theorem dL_law_388 : decode cL_law 388 = .ok (.iadd, 1) := by decide +kernel
theorem dL_law_389 : decode cL_law 389 = .ok (.goto 5, 3) := by decide +kernel
theorem dL_law_392 : decode cL_law 392 = .ok (.bipush (-13), 2) := by decide +kernel
theorem dL_law_394 : decode cL_law 394 = .ok (.if_icmp .ne 7, 3) := by decide +kernel
theorem dL_law_397 : decode cL_law 397 = .ok (.iconst 1, 1) := by decide +kernel
theorem dL_law_398 : decode cL_law 398 = .ok (.goto 4, 3) := by decide +kernel
theorem dL_law_401 : decode cL_law 401 = .ok (.iconst 0, 1) := by decide +kernel
theorem dL_law_402 : decode cL_law 402 = .ok (.istore 13, 2) := by decide +kernel
theorem dL_law_404 : decode cL_law 404 = .ok (.iload 22, 2) := by decide +kernel
theorem dL_law_406 : decode cL_law 406 = .ok (.ifCond .eq 22, 3) := by decide +kernel
theorem dL_law_409 : decode cL_law 409 = .ok (.aload_n 2, 1) := by decide +kernel
theorem dL_law_410 : decode cL_law 410 = .ok (.aload_n 3, 1) := by decide +kernel
theorem dL_law_411 : decode cL_law 411 = .ok (.aload 4, 2) := by decide +kernel
theorem dL_law_413 : decode cL_law 413 = .ok (.aload 5, 2) := by decide +kernel
theorem dL_law_415 : decode cL_law 415 = .ok (.aload 6, 2) := by decide +kernel
theorem dL_law_417 : decode cL_law 417 = .ok (.aload 7, 2) := by decide +kernel
theorem dL_law_419 : decode cL_law 419 = .ok (.iload 18, 2) := by decide +kernel
theorem dL_law_421 : decode cL_law 421 = .ok (.iconst 0, 1) := by decide +kernel
theorem dL_law_422 : decode cL_law 422 = .ok (.iload 19, 2) := by decide +kernel
theorem dL_law_424 : decode cL_law 424 = .ok (.iconst 0, 1) := by decide +kernel
theorem dL_law_425 : decode cL_law 425 = .ok (.invokestatic 152, 3) := by decide +kernel
theorem dL_law_428 : decode cL_law 428 = .ok (.goto 1002, 3) := by decide +kernel
theorem dL_law_431 : decode cL_law 431 = .ok (.iload 16, 2) := by decide +kernel
theorem dL_law_433 : decode cL_law 433 = .ok (.bipush 7, 2) := by decide +kernel
theorem dL_law_435 : decode cL_law 435 = .ok (.if_icmp .ne 79, 3) := by decide +kernel
theorem dL_law_438 : decode cL_law 438 = .ok (.iload 21, 2) := by decide +kernel
theorem dL_law_440 : decode cL_law 440 = .ok (.ifCond .eq 74, 3) := by decide +kernel
theorem dL_law_443 : decode cL_law 443 = .ok (.aload 10, 2) := by decide +kernel
theorem dL_law_445 : decode cL_law 445 = .ok (.iload 19, 2) := by decide +kernel
theorem dL_law_447 : decode cL_law 447 = .ok (.iaload, 1) := by decide +kernel
theorem dL_law_448 : decode cL_law 448 = .ok (.ifCond .ne 8, 3) := by decide +kernel
theorem dL_law_451 : decode cL_law 451 = .ok (.bipush (-13), 2) := by decide +kernel
theorem dL_law_453 : decode cL_law 453 = .ok (.goto 10, 3) := by decide +kernel
theorem dL_law_456 : decode cL_law 456 = .ok (.aload 10, 2) := by decide +kernel
theorem dL_law_458 : decode cL_law 458 = .ok (.iload 19, 2) := by decide +kernel
theorem dL_law_460 : decode cL_law 460 = .ok (.iaload, 1) := by decide +kernel
theorem dL_law_461 : decode cL_law 461 = .ok (.iconst 1, 1) := by decide +kernel
theorem dL_law_462 : decode cL_law 462 = .ok (.isub, 1) := by decide +kernel
theorem dL_law_463 : decode cL_law 463 = .ok (.istore 22, 2) := by decide +kernel
theorem dL_law_465 : decode cL_law 465 = .ok (.aload_n 1, 1) := by decide +kernel
theorem dL_law_466 : decode cL_law 466 = .ok (.iconst 1, 1) := by decide +kernel
theorem dL_law_467 : decode cL_law 467 = .ok (.iload 18, 2) := by decide +kernel
theorem dL_law_469 : decode cL_law 469 = .ok (.iload 19, 2) := by decide +kernel
theorem dL_law_471 : decode cL_law 471 = .ok (.iconst 0, 1) := by decide +kernel
theorem dL_law_472 : decode cL_law 472 = .ok (.invokestatic 148, 3) := by decide +kernel
theorem dL_law_475 : decode cL_law 475 = .ok (.iload 22, 2) := by decide +kernel
theorem dL_law_477 : decode cL_law 477 = .ok (.if_icmp .ne 7, 3) := by decide +kernel
theorem dL_law_480 : decode cL_law 480 = .ok (.iconst 1, 1) := by decide +kernel
theorem dL_law_481 : decode cL_law 481 = .ok (.goto 4, 3) := by decide +kernel
theorem dL_law_484 : decode cL_law 484 = .ok (.iconst 0, 1) := by decide +kernel
theorem dL_law_485 : decode cL_law 485 = .ok (.istore 13, 2) := by decide +kernel
theorem dL_law_487 : decode cL_law 487 = .ok (.iload 22, 2) := by decide +kernel
theorem dL_law_489 : decode cL_law 489 = .ok (.ifCond .lt 22, 3) := by decide +kernel
theorem dL_law_492 : decode cL_law 492 = .ok (.aload_n 2, 1) := by decide +kernel
theorem dL_law_493 : decode cL_law 493 = .ok (.aload_n 3, 1) := by decide +kernel
theorem dL_law_494 : decode cL_law 494 = .ok (.aload 4, 2) := by decide +kernel
theorem dL_law_496 : decode cL_law 496 = .ok (.aload 5, 2) := by decide +kernel
theorem dL_law_498 : decode cL_law 498 = .ok (.aload 6, 2) := by decide +kernel
theorem dL_law_500 : decode cL_law 500 = .ok (.aload 7, 2) := by decide +kernel
theorem dL_law_502 : decode cL_law 502 = .ok (.iload 18, 2) := by decide +kernel
theorem dL_law_504 : decode cL_law 504 = .ok (.iconst 1, 1) := by decide +kernel
theorem dL_law_505 : decode cL_law 505 = .ok (.iload 19, 2) := by decide +kernel
theorem dL_law_507 : decode cL_law 507 = .ok (.iconst 0, 1) := by decide +kernel
theorem dL_law_508 : decode cL_law 508 = .ok (.invokestatic 152, 3) := by decide +kernel
theorem dL_law_511 : decode cL_law 511 = .ok (.goto 919, 3) := by decide +kernel
theorem dL_law_514 : decode cL_law 514 = .ok (.iload 16, 2) := by decide +kernel
theorem dL_law_516 : decode cL_law 516 = .ok (.bipush 10, 2) := by decide +kernel
theorem dL_law_518 : decode cL_law 518 = .ok (.if_icmp .ge 131, 3) := by decide +kernel
theorem dL_law_521 : decode cL_law 521 = .ok (.iload 21, 2) := by decide +kernel
theorem dL_law_523 : decode cL_law 523 = .ok (.ifCond .eq 126, 3) := by decide +kernel
theorem dL_law_526 : decode cL_law 526 = .ok (.iload 17, 2) := by decide +kernel
theorem dL_law_528 : decode cL_law 528 = .ok (.iconst 5, 1) := by decide +kernel
theorem dL_law_529 : decode cL_law 529 = .ok (.idiv, 1) := by decide +kernel
theorem dL_law_530 : decode cL_law 530 = .ok (.iconst 4, 1) := by decide +kernel
theorem dL_law_531 : decode cL_law 531 = .ok (.irem, 1) := by decide +kernel
theorem dL_law_532 : decode cL_law 532 = .ok (.istore 22, 2) := by decide +kernel
theorem dL_law_534 : decode cL_law 534 = .ok (.iload 17, 2) := by decide +kernel
theorem dL_law_536 : decode cL_law 536 = .ok (.bipush 20, 2) := by decide +kernel
theorem dL_law_538 : decode cL_law 538 = .ok (.idiv, 1) := by decide +kernel
theorem dL_law_539 : decode cL_law 539 = .ok (.bipush 10, 2) := by decide +kernel
theorem dL_law_541 : decode cL_law 541 = .ok (.irem, 1) := by decide +kernel
theorem dL_law_542 : decode cL_law 542 = .ok (.istore 23, 2) := by decide +kernel
theorem dL_law_544 : decode cL_law 544 = .ok (.iload 23, 2) := by decide +kernel
theorem dL_law_546 : decode cL_law 546 = .ok (.iload 17, 2) := by decide +kernel
theorem dL_law_548 : decode cL_law 548 = .ok (.sipush 200, 3) := by decide +kernel
theorem dL_law_551 : decode cL_law 551 = .ok (.idiv, 1) := by decide +kernel
theorem dL_law_552 : decode cL_law 552 = .ok (.iconst 5, 1) := by decide +kernel
theorem dL_law_553 : decode cL_law 553 = .ok (.irem, 1) := by decide +kernel
theorem dL_law_554 : decode cL_law 554 = .ok (.iadd, 1) := by decide +kernel
theorem dL_law_555 : decode cL_law 555 = .ok (.istore 24, 2) := by decide +kernel
theorem dL_law_557 : decode cL_law 557 = .ok (.iload 17, 2) := by decide +kernel
theorem dL_law_559 : decode cL_law 559 = .ok (.bipush 7, 2) := by decide +kernel
theorem dL_law_561 : decode cL_law 561 = .ok (.idiv, 1) := by decide +kernel
theorem dL_law_562 : decode cL_law 562 = .ok (.iconst 4, 1) := by decide +kernel
theorem dL_law_563 : decode cL_law 563 = .ok (.irem, 1) := by decide +kernel
theorem dL_law_564 : decode cL_law 564 = .ok (.ifCond .le 7, 3) := by decide +kernel
theorem dL_law_567 : decode cL_law 567 = .ok (.iconst 0, 1) := by decide +kernel
theorem dL_law_568 : decode cL_law 568 = .ok (.goto 12, 3) := by decide +kernel
theorem dL_law_571 : decode cL_law 571 = .ok (.iload 17, 2) := by decide +kernel
theorem dL_law_573 : decode cL_law 573 = .ok (.bipush 28, 2) := by decide +kernel
theorem dL_law_575 : decode cL_law 575 = .ok (.idiv, 1) := by decide +kernel
theorem dL_law_576 : decode cL_law 576 = .ok (.sipush 256, 3) := by decide +kernel
theorem dL_law_579 : decode cL_law 579 = .ok (.irem, 1) := by decide +kernel
theorem dL_law_580 : decode cL_law 580 = .ok (.istore 25, 2) := by decide +kernel
theorem dL_law_582 : decode cL_law 582 = .ok (.aload_n 1, 1) := by decide +kernel
theorem dL_law_583 : decode cL_law 583 = .ok (.iload 18, 2) := by decide +kernel
theorem dL_law_585 : decode cL_law 585 = .ok (.iload 22, 2) := by decide +kernel
theorem dL_law_587 : decode cL_law 587 = .ok (.iload 23, 2) := by decide +kernel
theorem dL_law_589 : decode cL_law 589 = .ok (.iload 24, 2) := by decide +kernel
theorem dL_law_591 : decode cL_law 591 = .ok (.iload 25, 2) := by decide +kernel
theorem dL_law_593 : decode cL_law 593 = .ok (.invokevirtual 156, 3) := by decide +kernel
theorem dL_law_596 : decode cL_law 596 = .ok (.aload 7, 2) := by decide +kernel
theorem dL_law_598 : decode cL_law 598 = .ok (.iload 18, 2) := by decide +kernel
theorem dL_law_600 : decode cL_law 600 = .ok (.iaload, 1) := by decide +kernel
theorem dL_law_601 : decode cL_law 601 = .ok (.iconst 1, 1) := by decide +kernel
theorem dL_law_602 : decode cL_law 602 = .ok (.iadd, 1) := by decide +kernel
theorem dL_law_603 : decode cL_law 603 = .ok (.if_icmp .ne 7, 3) := by decide +kernel
theorem dL_law_606 : decode cL_law 606 = .ok (.iconst 1, 1) := by decide +kernel
theorem dL_law_607 : decode cL_law 607 = .ok (.goto 4, 3) := by decide +kernel
theorem dL_law_610 : decode cL_law 610 = .ok (.iconst 0, 1) := by decide +kernel
theorem dL_law_611 : decode cL_law 611 = .ok (.istore 13, 2) := by decide +kernel
theorem dL_law_613 : decode cL_law 613 = .ok (.aload_n 2, 1) := by decide +kernel
theorem dL_law_614 : decode cL_law 614 = .ok (.aload_n 3, 1) := by decide +kernel
theorem dL_law_615 : decode cL_law 615 = .ok (.aload 4, 2) := by decide +kernel
theorem dL_law_617 : decode cL_law 617 = .ok (.aload 5, 2) := by decide +kernel
theorem dL_law_619 : decode cL_law 619 = .ok (.aload 6, 2) := by decide +kernel
theorem dL_law_621 : decode cL_law 621 = .ok (.aload 7, 2) := by decide +kernel
theorem dL_law_623 : decode cL_law 623 = .ok (.iload 18, 2) := by decide +kernel
theorem dL_law_625 : decode cL_law 625 = .ok (.iconst 2, 1) := by decide +kernel
theorem dL_law_626 : decode cL_law 626 = .ok (.iload 22, 2) := by decide +kernel
theorem dL_law_628 : decode cL_law 628 = .ok (.iload 23, 2) := by decide +kernel
theorem dL_law_630 : decode cL_law 630 = .ok (.bipush 100, 2) := by decide +kernel
theorem dL_law_632 : decode cL_law 632 = .ok (.iload 24, 2) := by decide +kernel
theorem dL_law_634 : decode cL_law 634 = .ok (.imul, 1) := by decide +kernel
theorem dL_law_635 : decode cL_law 635 = .ok (.iadd, 1) := by decide +kernel
theorem dL_law_636 : decode cL_law 636 = .ok (.sipush 10000, 3) := by decide +kernel
theorem dL_law_639 : decode cL_law 639 = .ok (.iload 25, 2) := by decide +kernel
theorem dL_law_641 : decode cL_law 641 = .ok (.imul, 1) := by decide +kernel
theorem dL_law_642 : decode cL_law 642 = .ok (.iadd, 1) := by decide +kernel
theorem dL_law_643 : decode cL_law 643 = .ok (.invokestatic 152, 3) := by decide +kernel
theorem dL_law_646 : decode cL_law 646 = .ok (.goto 784, 3) := by decide +kernel
theorem dL_law_649 : decode cL_law 649 = .ok (.iload 16, 2) := by decide +kernel
theorem dL_law_651 : decode cL_law 651 = .ok (.bipush 12, 2) := by decide +kernel
theorem dL_law_653 : decode cL_law 653 = .ok (.if_icmp .ge 148, 3) := by decide +kernel
theorem dL_law_656 : decode cL_law 656 = .ok (.iload 21, 2) := by decide +kernel
theorem dL_law_658 : decode cL_law 658 = .ok (.ifCond .eq 143, 3) := by decide +kernel
theorem dL_law_661 : decode cL_law 661 = .ok (.aload_n 2, 1) := by decide +kernel
theorem dL_law_662 : decode cL_law 662 = .ok (.iconst 1, 1) := by decide +kernel
theorem dL_law_663 : decode cL_law 663 = .ok (.iaload, 1) := by decide +kernel
theorem dL_law_664 : decode cL_law 664 = .ok (.bipush 10, 2) := by decide +kernel
theorem dL_law_666 : decode cL_law 666 = .ok (.if_icmp .ge 135, 3) := by decide +kernel
theorem dL_law_669 : decode cL_law 669 = .ok (.iload 17, 2) := by decide +kernel
theorem dL_law_671 : decode cL_law 671 = .ok (.iconst 5, 1) := by decide +kernel
theorem dL_law_672 : decode cL_law 672 = .ok (.idiv, 1) := by decide +kernel
theorem dL_law_673 : decode cL_law 673 = .ok (.iconst 3, 1) := by decide +kernel
theorem dL_law_674 : decode cL_law 674 = .ok (.irem, 1) := by decide +kernel
theorem dL_law_675 : decode cL_law 675 = .ok (.istore 22, 2) := by decide +kernel
theorem dL_law_677 : decode cL_law 677 = .ok (.iload 17, 2) := by decide +kernel
theorem dL_law_679 : decode cL_law 679 = .ok (.bipush 15, 2) := by decide +kernel
theorem dL_law_681 : decode cL_law 681 = .ok (.idiv, 1) := by decide +kernel
theorem dL_law_682 : decode cL_law 682 = .ok (.bipush 12, 2) := by decide +kernel
theorem dL_law_684 : decode cL_law 684 = .ok (.irem, 1) := by decide +kernel
theorem dL_law_685 : decode cL_law 685 = .ok (.istore 23, 2) := by decide +kernel
theorem dL_law_687 : decode cL_law 687 = .ok (.aload 6, 2) := by decide +kernel
theorem dL_law_689 : decode cL_law 689 = .ok (.aload 8, 2) := by decide +kernel
theorem dL_law_691 : decode cL_law 691 = .ok (.aload 12, 2) := by decide +kernel
theorem dL_law_693 : decode cL_law 693 = .ok (.iload 22, 2) := by decide +kernel
theorem dL_law_695 : decode cL_law 695 = .ok (.iload 23, 2) := by decide +kernel
theorem dL_law_697 : decode cL_law 697 = .ok (.invokestatic 122, 3) := by decide +kernel
theorem dL_law_700 : decode cL_law 700 = .ok (.ifCond .ne 7, 3) := by decide +kernel
theorem dL_law_703 : decode cL_law 703 = .ok (.iconst 1, 1) := by decide +kernel
theorem dL_law_704 : decode cL_law 704 = .ok (.goto 4, 3) := by decide +kernel
theorem dL_law_707 : decode cL_law 707 = .ok (.iconst 0, 1) := by decide +kernel
theorem dL_law_708 : decode cL_law 708 = .ok (.istore 24, 2) := by decide +kernel
theorem dL_law_710 : decode cL_law 710 = .ok (.aload_n 1, 1) := by decide +kernel
theorem dL_law_711 : decode cL_law 711 = .ok (.iconst 3, 1) := by decide +kernel
theorem dL_law_712 : decode cL_law 712 = .ok (.iload 18, 2) := by decide +kernel
theorem dL_law_714 : decode cL_law 714 = .ok (.iload 22, 2) := by decide +kernel
theorem dL_law_716 : decode cL_law 716 = .ok (.iload 23, 2) := by decide +kernel
theorem dL_law_718 : decode cL_law 718 = .ok (.invokestatic 148, 3) := by decide +kernel
theorem dL_law_721 : decode cL_law 721 = .ok (.iload 24, 2) := by decide +kernel
theorem dL_law_723 : decode cL_law 723 = .ok (.ifCond .eq 9, 3) := by decide +kernel
theorem dL_law_726 : decode cL_law 726 = .ok (.aload_n 2, 1) := by decide +kernel
theorem dL_law_727 : decode cL_law 727 = .ok (.iconst 1, 1) := by decide +kernel
theorem dL_law_728 : decode cL_law 728 = .ok (.iaload, 1) := by decide +kernel
theorem dL_law_729 : decode cL_law 729 = .ok (.goto 5, 3) := by decide +kernel
theorem dL_law_732 : decode cL_law 732 = .ok (.bipush (-13), 2) := by decide +kernel
theorem dL_law_734 : decode cL_law 734 = .ok (.if_icmp .ne 7, 3) := by decide +kernel
