theorem dL_law_372 : decode cL_law 372 = .ok (.invokestatic 186, 3) := by decide +kernel
theorem dL_law_375 : decode cL_law 375 = .ok (.ifCond .eq 52, 3) := by decide +kernel
theorem dL_law_378 : decode cL_law 378 = .ok (.aload_n 1, 1) := by decide +kernel
theorem dL_law_379 : decode cL_law 379 = .ok (.ldc 198, 2) := by decide +kernel
theorem dL_law_381 : decode cL_law 381 = .ok (.iconst 2, 1) := by decide +kernel
theorem dL_law_382 : decode cL_law 382 = .ok (.invokestatic 186, 3) := by decide +kernel
theorem dL_law_385 : decode cL_law 385 = .ok (.ifCond .eq 42, 3) := by decide +kernel
theorem dL_law_388 : decode cL_law 388 = .ok (.aload_n 1, 1) := by decide +kernel
theorem dL_law_389 : decode cL_law 389 = .ok (.ldc 200, 2) := by decide +kernel
theorem dL_law_391 : decode cL_law 391 = .ok (.iconst 2, 1) := by decide +kernel
theorem dL_law_392 : decode cL_law 392 = .ok (.invokestatic 186, 3) := by decide +kernel
theorem dL_law_395 : decode cL_law 395 = .ok (.ifCond .eq 32, 3) := by decide +kernel
theorem dL_law_398 : decode cL_law 398 = .ok (.aload_n 1, 1) := by decide +kernel
theorem dL_law_399 : decode cL_law 399 = .ok (.ldc 202, 2) := by decide +kernel
theorem dL_law_401 : decode cL_law 401 = .ok (.iconst 3, 1) := by decide +kernel
theorem dL_law_402 : decode cL_law 402 = .ok (.invokestatic 186, 3) := by decide +kernel
theorem dL_law_405 : decode cL_law 405 = .ok (.ifCond .eq 22, 3) := by decide +kernel
theorem dL_law_408 : decode cL_law 408 = .ok (.aload_n 1, 1) := by decide +kernel
theorem dL_law_409 : decode cL_law 409 = .ok (.ldc 204, 2) := by decide +kernel
theorem dL_law_411 : decode cL_law 411 = .ok (.iconst 0, 1) := by decide +kernel
theorem dL_law_412 : decode cL_law 412 = .ok (.invokestatic 186, 3) := by decide +kernel
theorem dL_law_415 : decode cL_law 415 = .ok (.ifCond .eq 12, 3) := by decide +kernel
theorem dL_law_418 : decode cL_law 418 = .ok (.aload_n 1, 1) := by decide +kernel
theorem dL_law_419 : decode cL_law 419 = .ok (.invokestatic 148, 3) := by decide +kernel
theorem dL_law_422 : decode cL_law 422 = .ok (.iload 4, 2) := by decide +kernel
theorem dL_law_424 : decode cL_law 424 = .ok (.if_icmp .eq 5, 3) := by decide +kernel
theorem dL_law_427 : decode cL_law 427 = .ok (.iconst 0, 1) := by decide +kernel
theorem dL_law_428 : decode cL_law 428 = .ok (.ireturn, 1) := by decide +kernel
theorem dL_law_429 : decode cL_law 429 = .ok (.iload 5, 2) := by decide +kernel
theorem dL_law_431 : decode cL_law 431 = .ok (.bipush 9, 2) := by decide +kernel
theorem dL_law_433 : decode cL_law 433 = .ok (.ishr, 1) := by decide +kernel
theorem dL_law_434 : decode cL_law 434 = .ok (.bipush 63, 2) := by decide +kernel
theorem dL_law_436 : decode cL_law 436 = .ok (.iand, 1) := by decide +kernel
theorem dL_law_437 : decode cL_law 437 = .ok (.istore 9, 2) := by decide +kernel
theorem dL_law_439 : decode cL_law 439 = .ok (.new 18, 3) := by decide +kernel
theorem dL_law_442 : decode cL_law 442 = .ok (.dup, 1) := by decide +kernel
theorem dL_law_443 : decode cL_law 443 = .ok (.invokespecial 23, 3) := by decide +kernel
theorem dL_law_446 : decode cL_law 446 = .ok (.astore 10, 2) := by decide +kernel
theorem dL_law_448 : decode cL_law 448 = .ok (.aload 10, 2) := by decide +kernel
theorem dL_law_450 : decode cL_law 450 = .ok (.iconst 0, 1) := by decide +kernel
theorem dL_law_451 : decode cL_law 451 = .ok (.invokevirtual 206, 3) := by decide +kernel
theorem dL_law_454 : decode cL_law 454 = .ok (.ifCond .ne 86, 3) := by decide +kernel
theorem dL_law_457 : decode cL_law 457 = .ok (.aload 10, 2) := by decide +kernel
theorem dL_law_459 : decode cL_law 459 = .ok (.iconst 1, 1) := by decide +kernel
theorem dL_law_460 : decode cL_law 460 = .ok (.invokevirtual 206, 3) := by decide +kernel
theorem dL_law_463 : decode cL_law 463 = .ok (.ifCond .ne 77, 3) := by decide +kernel
theorem dL_law_466 : decode cL_law 466 = .ok (.aload 10, 2) := by decide +kernel
theorem dL_law_468 : decode cL_law 468 = .ok (.invokevirtual 208, 3) := by decide +kernel
theorem dL_law_471 : decode cL_law 471 = .ok (.ifCond .ne 69, 3) := by decide +kernel
theorem dL_law_474 : decode cL_law 474 = .ok (.aload 10, 2) := by decide +kernel
theorem dL_law_476 : decode cL_law 476 = .ok (.iconst 0, 1) := by decide +kernel
theorem dL_law_477 : decode cL_law 477 = .ok (.invokevirtual 212, 3) := by decide +kernel
theorem dL_law_480 : decode cL_law 480 = .ok (.ifCond .ne 60, 3) := by decide +kernel
theorem dL_law_483 : decode cL_law 483 = .ok (.aload 10, 2) := by decide +kernel
theorem dL_law_485 : decode cL_law 485 = .ok (.invokevirtual 215, 3) := by decide +kernel
theorem dL_law_488 : decode cL_law 488 = .ok (.bipush 9, 2) := by decide +kernel
theorem dL_law_490 : decode cL_law 490 = .ok (.if_icmp .ne 50, 3) := by decide +kernel
theorem dL_law_493 : decode cL_law 493 = .ok (.aload 10, 2) := by decide +kernel
theorem dL_law_495 : decode cL_law 495 = .ok (.bipush 7, 2) := by decide +kernel
theorem dL_law_497 : decode cL_law 497 = .ok (.iconst 0, 1) := by decide +kernel
theorem dL_law_498 : decode cL_law 498 = .ok (.iconst 0, 1) := by decide +kernel
theorem dL_law_499 : decode cL_law 499 = .ok (.bipush 32, 2) := by decide +kernel
theorem dL_law_501 : decode cL_law 501 = .ok (.invokestatic 30, 3) := by decide +kernel
theorem dL_law_504 : decode cL_law 504 = .ok (.bipush (-2), 2) := by decide +kernel
theorem dL_law_506 : decode cL_law 506 = .ok (.if_icmp .ne 34, 3) := by decide +kernel
theorem dL_law_509 : decode cL_law 509 = .ok (.aload 10, 2) := by decide +kernel
theorem dL_law_511 : decode cL_law 511 = .ok (.iconst 0, 1) := by decide +kernel
theorem dL_law_512 : decode cL_law 512 = .ok (.invokevirtual 176, 3) := by decide +kernel
theorem dL_law_515 : decode cL_law 515 = .ok (.iconst 5, 1) := by decide +kernel
theorem dL_law_516 : decode cL_law 516 = .ok (.if_icmp .ne 24, 3) := by decide +kernel
theorem dL_law_519 : decode cL_law 519 = .ok (.aload 10, 2) := by decide +kernel
theorem dL_law_521 : decode cL_law 521 = .ok (.iconst 1, 1) := by decide +kernel
theorem dL_law_522 : decode cL_law 522 = .ok (.invokevirtual 176, 3) := by decide +kernel
theorem dL_law_525 : decode cL_law 525 = .ok (.bipush 9, 2) := by decide +kernel
theorem dL_law_527 : decode cL_law 527 = .ok (.if_icmp .ne 13, 3) := by decide +kernel
theorem dL_law_530 : decode cL_law 530 = .ok (.aload 10, 2) := by decide +kernel
theorem dL_law_532 : decode cL_law 532 = .ok (.bipush 6, 2) := by decide +kernel
theorem dL_law_534 : decode cL_law 534 = .ok (.invokevirtual 34, 3) := by decide +kernel
theorem dL_law_537 : decode cL_law 537 = .ok (.ifCond .eq 5, 3) := by decide +kernel
theorem dL_law_540 : decode cL_law 540 = .ok (.iconst 0, 1) := by decide +kernel
theorem dL_law_541 : decode cL_law 541 = .ok (.ireturn, 1) := by decide +kernel
theorem dL_law_542 : decode cL_law 542 = .ok (.aload 10, 2) := by decide +kernel
theorem dL_law_544 : decode cL_law 544 = .ok (.iconst 0, 1) := by decide +kernel
theorem dL_law_545 : decode cL_law 545 = .ok (.invokevirtual 55, 3) := by decide +kernel
theorem dL_law_548 : decode cL_law 548 = .ok (.bipush 6, 2) := by decide +kernel
theorem dL_law_550 : decode cL_law 550 = .ok (.if_icmp .ne 175, 3) := by decide +kernel
theorem dL_law_553 : decode cL_law 553 = .ok (.aload 10, 2) := by decide +kernel
theorem dL_law_555 : decode cL_law 555 = .ok (.aload 10, 2) := by decide +kernel
theorem dL_law_557 : decode cL_law 557 = .ok (.invokevirtual 217, 3) := by decide +kernel
theorem dL_law_560 : decode cL_law 560 = .ok (.ldc 220, 2) := by decide +kernel
theorem dL_law_562 : decode cL_law 562 = .ok (.invokestatic 222, 3) := by decide +kernel
theorem dL_law_565 : decode cL_law 565 = .ok (.ifCond .eq 160, 3) := by decide +kernel
theorem dL_law_568 : decode cL_law 568 = .ok (.aload 10, 2) := by decide +kernel
theorem dL_law_570 : decode cL_law 570 = .ok (.iconst 0, 1) := by decide +kernel
theorem dL_law_571 : decode cL_law 571 = .ok (.invokevirtual 206, 3) := by decide +kernel
theorem dL_law_574 : decode cL_law 574 = .ok (.iconst 1, 1) := by decide +kernel
theorem dL_law_575 : decode cL_law 575 = .ok (.if_icmp .ne 150, 3) := by decide +kernel
theorem dL_law_578 : decode cL_law 578 = .ok (.aload 10, 2) := by decide +kernel
theorem dL_law_580 : decode cL_law 580 = .ok (.invokevirtual 226, 3) := by decide +kernel
theorem dL_law_583 : decode cL_law 583 = .ok (.iconst 1, 1) := by decide +kernel
theorem dL_law_584 : decode cL_law 584 = .ok (.if_icmp .ne 141, 3) := by decide +kernel
theorem dL_law_587 : decode cL_law 587 = .ok (.aload 10, 2) := by decide +kernel
theorem dL_law_589 : decode cL_law 589 = .ok (.invokevirtual 229, 3) := by decide +kernel
theorem dL_law_592 : decode cL_law 592 = .ok (.iconst 1, 1) := by decide +kernel
theorem dL_law_593 : decode cL_law 593 = .ok (.if_icmp .ne 132, 3) := by decide +kernel
theorem dL_law_596 : decode cL_law 596 = .ok (.aload 10, 2) := by decide +kernel
theorem dL_law_598 : decode cL_law 598 = .ok (.iconst 1, 1) := by decide +kernel
theorem dL_law_599 : decode cL_law 599 = .ok (.invokevirtual 232, 3) := by decide +kernel
theorem dL_law_602 : decode cL_law 602 = .ok (.bipush 9, 2) := by decide +kernel
theorem dL_law_604 : decode cL_law 604 = .ok (.if_icmp .ne 121, 3) := by decide +kernel
theorem dL_law_607 : decode cL_law 607 = .ok (.aload 10, 2) := by decide +kernel
theorem dL_law_609 : decode cL_law 609 = .ok (.iconst 0, 1) := by decide +kernel
theorem dL_law_610 : decode cL_law 610 = .ok (.invokevirtual 61, 3) := by decide +kernel
theorem dL_law_613 : decode cL_law 613 = .ok (.ifCond .eq 112, 3) := by decide +kernel
theorem dL_law_616 : decode cL_law 616 = .ok (.aload 10, 2) := by decide +kernel
theorem dL_law_618 : decode cL_law 618 = .ok (.bipush 7, 2) := by decide +kernel
theorem dL_law_620 : decode cL_law 620 = .ok (.iconst 0, 1) := by decide +kernel
theorem dL_law_621 : decode cL_law 621 = .ok (.iconst 0, 1) := by decide +kernel
theorem dL_law_622 : decode cL_law 622 = .ok (.bipush 32, 2) := by decide +kernel
theorem dL_law_624 : decode cL_law 624 = .ok (.invokestatic 30, 3) := by decide +kernel
theorem dL_law_627 : decode cL_law 627 = .ok (.bipush (-3), 2) := by decide +kernel
theorem dL_law_629 : decode cL_law 629 = .ok (.if_icmp .ne 96, 3) := by decide +kernel
theorem dL_law_632 : decode cL_law 632 = .ok (.aload 10, 2) := by decide +kernel
theorem dL_law_634 : decode cL_law 634 = .ok (.iconst 3, 1) := by decide +kernel
theorem dL_law_635 : decode cL_law 635 = .ok (.iconst 0, 1) := by decide +kernel
theorem dL_law_636 : decode cL_law 636 = .ok (.iconst 0, 1) := by decide +kernel
theorem dL_law_637 : decode cL_law 637 = .ok (.bipush 32, 2) := by decide +kernel
theorem dL_law_639 : decode cL_law 639 = .ok (.invokestatic 30, 3) := by decide +kernel
theorem dL_law_642 : decode cL_law 642 = .ok (.bipush (-2), 2) := by decide +kernel
theorem dL_law_644 : decode cL_law 644 = .ok (.if_icmp .ne 81, 3) := by decide +kernel
theorem dL_law_647 : decode cL_law 647 = .ok (.aload 10, 2) := by decide +kernel
theorem dL_law_649 : decode cL_law 649 = .ok (.iconst 0, 1) := by decide +kernel
theorem dL_law_650 : decode cL_law 650 = .ok (.invokevirtual 176, 3) := by decide +kernel
theorem dL_law_653 : decode cL_law 653 = .ok (.iconst 1, 1) := by decide +kernel
theorem dL_law_654 : decode cL_law 654 = .ok (.if_icmp .ne 71, 3) := by decide +kernel
theorem dL_law_657 : decode cL_law 657 = .ok (.aload 10, 2) := by decide +kernel
theorem dL_law_659 : decode cL_law 659 = .ok (.iconst 1, 1) := by decide +kernel
theorem dL_law_660 : decode cL_law 660 = .ok (.invokevirtual 176, 3) := by decide +kernel
theorem dL_law_663 : decode cL_law 663 = .ok (.ifCond .ne 62, 3) := by decide +kernel
theorem dL_law_666 : decode cL_law 666 = .ok (.aload 10, 2) := by decide +kernel
theorem dL_law_668 : decode cL_law 668 = .ok (.iconst 0, 1) := by decide +kernel
theorem dL_law_669 : decode cL_law 669 = .ok (.invokevirtual 61, 3) := by decide +kernel
theorem dL_law_672 : decode cL_law 672 = .ok (.ifCond .ne 53, 3) := by decide +kernel
theorem dL_law_675 : decode cL_law 675 = .ok (.aload 10, 2) := by decide +kernel
theorem dL_law_677 : decode cL_law 677 = .ok (.invokevirtual 68, 3) := by decide +kernel
theorem dL_law_680 : decode cL_law 680 = .ok (.iconst 1, 1) := by decide +kernel
theorem dL_law_681 : decode cL_law 681 = .ok (.if_icmp .ne 44, 3) := by decide +kernel
theorem dL_law_684 : decode cL_law 684 = .ok (.aload 10, 2) := by decide +kernel
theorem dL_law_686 : decode cL_law 686 = .ok (.invokevirtual 215, 3) := by decide +kernel
theorem dL_law_689 : decode cL_law 689 = .ok (.bipush 9, 2) := by decide +kernel
theorem dL_law_691 : decode cL_law 691 = .ok (.if_icmp .ne 34, 3) := by decide +kernel
theorem dL_law_694 : decode cL_law 694 = .ok (.aload 10, 2) := by decide +kernel
theorem dL_law_696 : decode cL_law 696 = .ok (.iconst 5, 1) := by decide +kernel
theorem dL_law_697 : decode cL_law 697 = .ok (.invokevirtual 34, 3) := by decide +kernel
theorem dL_law_700 : decode cL_law 700 = .ok (.iconst 1, 1) := by decide +kernel
theorem dL_law_701 : decode cL_law 701 = .ok (.if_icmp .ne 24, 3) := by decide +kernel
theorem dL_law_704 : decode cL_law 704 = .ok (.aload 10, 2) := by decide +kernel
theorem dL_law_706 : decode cL_law 706 = .ok (.iconst 2, 1) := by decide +kernel
theorem dL_law_707 : decode cL_law 707 = .ok (.invokevirtual 34, 3) := by decide +kernel
theorem dL_law_710 : decode cL_law 710 = .ok (.iconst 2, 1) := by decide +kernel
theorem dL_law_711 : decode cL_law 711 = .ok (.if_icmp .ne 14, 3) := by decide +kernel
theorem dL_law_714 : decode cL_law 714 = .ok (.aload 10, 2) := by decide +kernel
theorem dL_law_716 : decode cL_law 716 = .ok (.bipush 7, 2) := by decide +kernel
theorem dL_law_718 : decode cL_law 718 = .ok (.invokevirtual 34, 3) := by decide +kernel
theorem dL_law_721 : decode cL_law 721 = .ok (.iconst 1, 1) := by decide +kernel
theorem dL_law_722 : decode cL_law 722 = .ok (.if_icmp .eq 5, 3) := by decide +kernel
theorem dL_law_725 : decode cL_law 725 = .ok (.iconst 0, 1) := by decide +kernel
theorem dL_law_726 : decode cL_law 726 = .ok (.ireturn, 1) := by decide +kernel
theorem dL_law_727 : decode cL_law 727 = .ok (.aload 10, 2) := by decide +kernel
theorem dL_law_729 : decode cL_law 729 = .ok (.iconst 0, 1) := by decide +kernel
theorem dL_law_730 : decode cL_law 730 = .ok (.iconst 1, 1) := by decide +kernel
theorem dL_law_731 : decode cL_law 731 = .ok (.invokevirtual 58, 3) := by decide +kernel
theorem dL_law_734 : decode cL_law 734 = .ok (.bipush 7, 2) := by decide +kernel
theorem dL_law_736 : decode cL_law 736 = .ok (.if_icmp .ne 152, 3) := by decide +kernel
theorem dL_law_739 : decode cL_law 739 = .ok (.aload 10, 2) := by decide +kernel
theorem dL_law_741 : decode cL_law 741 = .ok (.iconst 1, 1) := by decide +kernel
theorem dL_law_742 : decode cL_law 742 = .ok (.invokevirtual 212, 3) := by decide +kernel
theorem dL_law_745 : decode cL_law 745 = .ok (.ifCond .eq 143, 3) := by decide +kernel
theorem dL_law_748 : decode cL_law 748 = .ok (.aload 10, 2) := by decide +kernel
theorem dL_law_750 : decode cL_law 750 = .ok (.iconst 0, 1) := by decide +kernel
theorem dL_law_751 : decode cL_law 751 = .ok (.invokevirtual 212, 3) := by decide +kernel
theorem dL_law_754 : decode cL_law 754 = .ok (.ifCond .eq 134, 3) := by decide +kernel
theorem dL_law_757 : decode cL_law 757 = .ok (.aload 10, 2) := by decide +kernel
theorem dL_law_759 : decode cL_law 759 = .ok (.invokevirtual 208, 3) := by decide +kernel
theorem dL_law_762 : decode cL_law 762 = .ok (.ifCond .eq 126, 3) := by decide +kernel
theorem dL_law_765 : decode cL_law 765 = .ok (.aload 10, 2) := by decide +kernel
theorem dL_law_767 : decode cL_law 767 = .ok (.bipush 7, 2) := by decide +kernel
theorem dL_law_769 : decode cL_law 769 = .ok (.iconst 0, 1) := by decide +kernel
