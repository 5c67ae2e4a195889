/-! Printed by wip/whole/print_names.py: decode rows -/
theorem gd_L_law_445 : decode F_L_law.2.1 445 = .ok (.aload_n 2, 1) := by decide +kernel
theorem gd_L_law_446 : decode F_L_law.2.1 446 = .ok (.aload_n 0, 1) := by decide +kernel
theorem gd_L_law_447 : decode F_L_law.2.1 447 = .ok (.iload 4, 2) := by decide +kernel
theorem gd_L_law_449 : decode F_L_law.2.1 449 = .ok (.iconst 1, 1) := by decide +kernel
theorem gd_L_law_450 : decode F_L_law.2.1 450 = .ok (.iadd, 1) := by decide +kernel
theorem gd_L_law_451 : decode F_L_law.2.1 451 = .ok (.iaload, 1) := by decide +kernel
theorem gd_L_law_452 : decode F_L_law.2.1 452 = .ok (.invokevirtual 113, 3) := by decide +kernel
theorem gd_L_law_455 : decode F_L_law.2.1 455 = .ok (.istore 6, 2) := by decide +kernel
theorem gd_L_law_457 : decode F_L_law.2.1 457 = .ok (.aload_n 2, 1) := by decide +kernel
theorem gd_L_law_458 : decode F_L_law.2.1 458 = .ok (.invokevirtual 95, 3) := by decide +kernel
theorem gd_L_law_461 : decode F_L_law.2.1 461 = .ok (.iload 5, 2) := by decide +kernel
theorem gd_L_law_463 : decode F_L_law.2.1 463 = .ok (.if_icmp .eq 5, 3) := by decide +kernel
theorem gd_L_law_466 : decode F_L_law.2.1 466 = .ok (.iconst 0, 1) := by decide +kernel
theorem gd_L_law_467 : decode F_L_law.2.1 467 = .ok (.ireturn, 1) := by decide +kernel
theorem gd_L_law_468 : decode F_L_law.2.1 468 = .ok (.iload 5, 2) := by decide +kernel
theorem gd_L_law_470 : decode F_L_law.2.1 470 = .ok (.ifCond .ne 15, 3) := by decide +kernel
theorem gd_L_law_473 : decode F_L_law.2.1 473 = .ok (.aload_n 3, 1) := by decide +kernel
theorem gd_L_law_474 : decode F_L_law.2.1 474 = .ok (.iconst 0, 1) := by decide +kernel
theorem gd_L_law_475 : decode F_L_law.2.1 475 = .ok (.laload, 1) := by decide +kernel
theorem gd_L_law_476 : decode F_L_law.2.1 476 = .ok (.iload 6, 2) := by decide +kernel
theorem gd_L_law_478 : decode F_L_law.2.1 478 = .ok (.i2l, 1) := by decide +kernel
theorem gd_L_law_479 : decode F_L_law.2.1 479 = .ok (.lcmp, 1) := by decide +kernel
theorem gd_L_law_480 : decode F_L_law.2.1 480 = .ok (.ifCond .eq 5, 3) := by decide +kernel
theorem gd_L_law_483 : decode F_L_law.2.1 483 = .ok (.iconst 0, 1) := by decide +kernel
theorem gd_L_law_484 : decode F_L_law.2.1 484 = .ok (.ireturn, 1) := by decide +kernel
theorem gd_L_law_485 : decode F_L_law.2.1 485 = .ok (.goto 1026, 3) := by decide +kernel
theorem gd_L_law_488 : decode F_L_law.2.1 488 = .ok (.aload_n 1, 1) := by decide +kernel
theorem gd_L_law_489 : decode F_L_law.2.1 489 = .ok (.aload_n 0, 1) := by decide +kernel
theorem gd_L_law_490 : decode F_L_law.2.1 490 = .ok (.iload 4, 2) := by decide +kernel
theorem gd_L_law_492 : decode F_L_law.2.1 492 = .ok (.iconst 1, 1) := by decide +kernel
theorem gd_L_law_493 : decode F_L_law.2.1 493 = .ok (.iadd, 1) := by decide +kernel
theorem gd_L_law_494 : decode F_L_law.2.1 494 = .ok (.iaload, 1) := by decide +kernel
theorem gd_L_law_495 : decode F_L_law.2.1 495 = .ok (.aload_n 3, 1) := by decide +kernel
theorem gd_L_law_496 : decode F_L_law.2.1 496 = .ok (.invokestatic 114, 3) := by decide +kernel
theorem gd_L_law_499 : decode F_L_law.2.1 499 = .ok (.istore 5, 2) := by decide +kernel
theorem gd_L_law_501 : decode F_L_law.2.1 501 = .ok (.aload_n 2, 1) := by decide +kernel
theorem gd_L_law_502 : decode F_L_law.2.1 502 = .ok (.aload_n 0, 1) := by decide +kernel
theorem gd_L_law_503 : decode F_L_law.2.1 503 = .ok (.iload 4, 2) := by decide +kernel
theorem gd_L_law_505 : decode F_L_law.2.1 505 = .ok (.iconst 1, 1) := by decide +kernel
theorem gd_L_law_506 : decode F_L_law.2.1 506 = .ok (.iadd, 1) := by decide +kernel
theorem gd_L_law_507 : decode F_L_law.2.1 507 = .ok (.iaload, 1) := by decide +kernel
theorem gd_L_law_508 : decode F_L_law.2.1 508 = .ok (.invokevirtual 116, 3) := by decide +kernel
theorem gd_L_law_511 : decode F_L_law.2.1 511 = .ok (.istore 6, 2) := by decide +kernel
theorem gd_L_law_513 : decode F_L_law.2.1 513 = .ok (.aload_n 2, 1) := by decide +kernel
theorem gd_L_law_514 : decode F_L_law.2.1 514 = .ok (.invokevirtual 95, 3) := by decide +kernel
theorem gd_L_law_517 : decode F_L_law.2.1 517 = .ok (.iload 5, 2) := by decide +kernel
theorem gd_L_law_519 : decode F_L_law.2.1 519 = .ok (.if_icmp .eq 5, 3) := by decide +kernel
theorem gd_L_law_522 : decode F_L_law.2.1 522 = .ok (.iconst 0, 1) := by decide +kernel
theorem gd_L_law_523 : decode F_L_law.2.1 523 = .ok (.ireturn, 1) := by decide +kernel
theorem gd_L_law_524 : decode F_L_law.2.1 524 = .ok (.iload 5, 2) := by decide +kernel
theorem gd_L_law_526 : decode F_L_law.2.1 526 = .ok (.ifCond .ne 15, 3) := by decide +kernel
theorem gd_L_law_529 : decode F_L_law.2.1 529 = .ok (.aload_n 3, 1) := by decide +kernel
theorem gd_L_law_530 : decode F_L_law.2.1 530 = .ok (.iconst 0, 1) := by decide +kernel
theorem gd_L_law_531 : decode F_L_law.2.1 531 = .ok (.laload, 1) := by decide +kernel
theorem gd_L_law_532 : decode F_L_law.2.1 532 = .ok (.iload 6, 2) := by decide +kernel
theorem gd_L_law_534 : decode F_L_law.2.1 534 = .ok (.i2l, 1) := by decide +kernel
theorem gd_L_law_535 : decode F_L_law.2.1 535 = .ok (.lcmp, 1) := by decide +kernel
theorem gd_L_law_536 : decode F_L_law.2.1 536 = .ok (.ifCond .eq 5, 3) := by decide +kernel
theorem gd_L_law_539 : decode F_L_law.2.1 539 = .ok (.iconst 0, 1) := by decide +kernel
theorem gd_L_law_540 : decode F_L_law.2.1 540 = .ok (.ireturn, 1) := by decide +kernel
theorem gd_L_law_541 : decode F_L_law.2.1 541 = .ok (.goto 970, 3) := by decide +kernel
theorem gd_L_law_544 : decode F_L_law.2.1 544 = .ok (.aload_n 1, 1) := by decide +kernel
theorem gd_L_law_545 : decode F_L_law.2.1 545 = .ok (.aload_n 0, 1) := by decide +kernel
theorem gd_L_law_546 : decode F_L_law.2.1 546 = .ok (.iload 4, 2) := by decide +kernel
theorem gd_L_law_548 : decode F_L_law.2.1 548 = .ok (.iconst 1, 1) := by decide +kernel
theorem gd_L_law_549 : decode F_L_law.2.1 549 = .ok (.iadd, 1) := by decide +kernel
theorem gd_L_law_550 : decode F_L_law.2.1 550 = .ok (.iaload, 1) := by decide +kernel
theorem gd_L_law_551 : decode F_L_law.2.1 551 = .ok (.aload_n 0, 1) := by decide +kernel
theorem gd_L_law_552 : decode F_L_law.2.1 552 = .ok (.iload 4, 2) := by decide +kernel
theorem gd_L_law_554 : decode F_L_law.2.1 554 = .ok (.iconst 2, 1) := by decide +kernel
theorem gd_L_law_555 : decode F_L_law.2.1 555 = .ok (.iadd, 1) := by decide +kernel
theorem gd_L_law_556 : decode F_L_law.2.1 556 = .ok (.iaload, 1) := by decide +kernel
theorem gd_L_law_557 : decode F_L_law.2.1 557 = .ok (.aload_n 3, 1) := by decide +kernel
theorem gd_L_law_558 : decode F_L_law.2.1 558 = .ok (.invokestatic 117, 3) := by decide +kernel
theorem gd_L_law_561 : decode F_L_law.2.1 561 = .ok (.istore 5, 2) := by decide +kernel
theorem gd_L_law_563 : decode F_L_law.2.1 563 = .ok (.aload_n 2, 1) := by decide +kernel
theorem gd_L_law_564 : decode F_L_law.2.1 564 = .ok (.aload_n 0, 1) := by decide +kernel
theorem gd_L_law_565 : decode F_L_law.2.1 565 = .ok (.iload 4, 2) := by decide +kernel
theorem gd_L_law_567 : decode F_L_law.2.1 567 = .ok (.iconst 1, 1) := by decide +kernel
theorem gd_L_law_568 : decode F_L_law.2.1 568 = .ok (.iadd, 1) := by decide +kernel
theorem gd_L_law_569 : decode F_L_law.2.1 569 = .ok (.iaload, 1) := by decide +kernel
theorem gd_L_law_570 : decode F_L_law.2.1 570 = .ok (.aload_n 0, 1) := by decide +kernel
theorem gd_L_law_571 : decode F_L_law.2.1 571 = .ok (.iload 4, 2) := by decide +kernel
theorem gd_L_law_573 : decode F_L_law.2.1 573 = .ok (.iconst 2, 1) := by decide +kernel
theorem gd_L_law_574 : decode F_L_law.2.1 574 = .ok (.iadd, 1) := by decide +kernel
theorem gd_L_law_575 : decode F_L_law.2.1 575 = .ok (.iaload, 1) := by decide +kernel
theorem gd_L_law_576 : decode F_L_law.2.1 576 = .ok (.invokevirtual 119, 3) := by decide +kernel
theorem gd_L_law_579 : decode F_L_law.2.1 579 = .ok (.istore 6, 2) := by decide +kernel
theorem gd_L_law_581 : decode F_L_law.2.1 581 = .ok (.aload_n 2, 1) := by decide +kernel
theorem gd_L_law_582 : decode F_L_law.2.1 582 = .ok (.invokevirtual 95, 3) := by decide +kernel
theorem gd_L_law_585 : decode F_L_law.2.1 585 = .ok (.iload 5, 2) := by decide +kernel
theorem gd_L_law_587 : decode F_L_law.2.1 587 = .ok (.if_icmp .eq 5, 3) := by decide +kernel
theorem gd_L_law_590 : decode F_L_law.2.1 590 = .ok (.iconst 0, 1) := by decide +kernel
theorem gd_L_law_591 : decode F_L_law.2.1 591 = .ok (.ireturn, 1) := by decide +kernel
theorem gd_L_law_592 : decode F_L_law.2.1 592 = .ok (.iload 5, 2) := by decide +kernel
theorem gd_L_law_594 : decode F_L_law.2.1 594 = .ok (.ifCond .ne 22, 3) := by decide +kernel
theorem gd_L_law_597 : decode F_L_law.2.1 597 = .ok (.aload_n 3, 1) := by decide +kernel
theorem gd_L_law_598 : decode F_L_law.2.1 598 = .ok (.iconst 0, 1) := by decide +kernel
theorem gd_L_law_599 : decode F_L_law.2.1 599 = .ok (.laload, 1) := by decide +kernel
theorem gd_L_law_600 : decode F_L_law.2.1 600 = .ok (.iload 6, 2) := by decide +kernel
theorem gd_L_law_602 : decode F_L_law.2.1 602 = .ok (.ifCond .eq 7, 3) := by decide +kernel
theorem gd_L_law_605 : decode F_L_law.2.1 605 = .ok (.lconst 1, 1) := by decide +kernel
theorem gd_L_law_606 : decode F_L_law.2.1 606 = .ok (.goto 4, 3) := by decide +kernel
theorem gd_L_law_609 : decode F_L_law.2.1 609 = .ok (.lconst 0, 1) := by decide +kernel
theorem gd_L_law_610 : decode F_L_law.2.1 610 = .ok (.lcmp, 1) := by decide +kernel
theorem gd_L_law_611 : decode F_L_law.2.1 611 = .ok (.ifCond .eq 5, 3) := by decide +kernel
theorem gd_L_law_614 : decode F_L_law.2.1 614 = .ok (.iconst 0, 1) := by decide +kernel
theorem gd_L_law_615 : decode F_L_law.2.1 615 = .ok (.ireturn, 1) := by decide +kernel
theorem gd_L_law_616 : decode F_L_law.2.1 616 = .ok (.goto 895, 3) := by decide +kernel
theorem gd_L_law_619 : decode F_L_law.2.1 619 = .ok (.aload_n 1, 1) := by decide +kernel
theorem gd_L_law_620 : decode F_L_law.2.1 620 = .ok (.aload_n 0, 1) := by decide +kernel
theorem gd_L_law_621 : decode F_L_law.2.1 621 = .ok (.iload 4, 2) := by decide +kernel
theorem gd_L_law_623 : decode F_L_law.2.1 623 = .ok (.iconst 1, 1) := by decide +kernel
theorem gd_L_law_624 : decode F_L_law.2.1 624 = .ok (.iadd, 1) := by decide +kernel
theorem gd_L_law_625 : decode F_L_law.2.1 625 = .ok (.iaload, 1) := by decide +kernel
theorem gd_L_law_626 : decode F_L_law.2.1 626 = .ok (.aload_n 3, 1) := by decide +kernel
theorem gd_L_law_627 : decode F_L_law.2.1 627 = .ok (.invokestatic 120, 3) := by decide +kernel
theorem gd_L_law_630 : decode F_L_law.2.1 630 = .ok (.istore 5, 2) := by decide +kernel
theorem gd_L_law_632 : decode F_L_law.2.1 632 = .ok (.aload_n 2, 1) := by decide +kernel
theorem gd_L_law_633 : decode F_L_law.2.1 633 = .ok (.aload_n 0, 1) := by decide +kernel
theorem gd_L_law_634 : decode F_L_law.2.1 634 = .ok (.iload 4, 2) := by decide +kernel
theorem gd_L_law_636 : decode F_L_law.2.1 636 = .ok (.iconst 1, 1) := by decide +kernel
theorem gd_L_law_637 : decode F_L_law.2.1 637 = .ok (.iadd, 1) := by decide +kernel
theorem gd_L_law_638 : decode F_L_law.2.1 638 = .ok (.iaload, 1) := by decide +kernel
theorem gd_L_law_639 : decode F_L_law.2.1 639 = .ok (.invokevirtual 122, 3) := by decide +kernel
theorem gd_L_law_642 : decode F_L_law.2.1 642 = .ok (.istore 6, 2) := by decide +kernel
theorem gd_L_law_644 : decode F_L_law.2.1 644 = .ok (.aload_n 2, 1) := by decide +kernel
theorem gd_L_law_645 : decode F_L_law.2.1 645 = .ok (.invokevirtual 95, 3) := by decide +kernel
theorem gd_L_law_648 : decode F_L_law.2.1 648 = .ok (.iload 5, 2) := by decide +kernel
theorem gd_L_law_650 : decode F_L_law.2.1 650 = .ok (.if_icmp .eq 5, 3) := by decide +kernel
theorem gd_L_law_653 : decode F_L_law.2.1 653 = .ok (.iconst 0, 1) := by decide +kernel
theorem gd_L_law_654 : decode F_L_law.2.1 654 = .ok (.ireturn, 1) := by decide +kernel
theorem gd_L_law_655 : decode F_L_law.2.1 655 = .ok (.iload 5, 2) := by decide +kernel
theorem gd_L_law_657 : decode F_L_law.2.1 657 = .ok (.ifCond .ne 22, 3) := by decide +kernel
theorem gd_L_law_660 : decode F_L_law.2.1 660 = .ok (.aload_n 3, 1) := by decide +kernel
theorem gd_L_law_661 : decode F_L_law.2.1 661 = .ok (.iconst 0, 1) := by decide +kernel
theorem gd_L_law_662 : decode F_L_law.2.1 662 = .ok (.laload, 1) := by decide +kernel
theorem gd_L_law_663 : decode F_L_law.2.1 663 = .ok (.iload 6, 2) := by decide +kernel
theorem gd_L_law_665 : decode F_L_law.2.1 665 = .ok (.ifCond .eq 7, 3) := by decide +kernel
theorem gd_L_law_668 : decode F_L_law.2.1 668 = .ok (.lconst 1, 1) := by decide +kernel
theorem gd_L_law_669 : decode F_L_law.2.1 669 = .ok (.goto 4, 3) := by decide +kernel
theorem gd_L_law_672 : decode F_L_law.2.1 672 = .ok (.lconst 0, 1) := by decide +kernel
theorem gd_L_law_673 : decode F_L_law.2.1 673 = .ok (.lcmp, 1) := by decide +kernel
theorem gd_L_law_674 : decode F_L_law.2.1 674 = .ok (.ifCond .eq 5, 3) := by decide +kernel
theorem gd_L_law_677 : decode F_L_law.2.1 677 = .ok (.iconst 0, 1) := by decide +kernel
theorem gd_L_law_678 : decode F_L_law.2.1 678 = .ok (.ireturn, 1) := by decide +kernel
theorem gd_L_law_679 : decode F_L_law.2.1 679 = .ok (.goto 832, 3) := by decide +kernel
theorem gd_L_law_682 : decode F_L_law.2.1 682 = .ok (.aload_n 1, 1) := by decide +kernel
theorem gd_L_law_683 : decode F_L_law.2.1 683 = .ok (.aload_n 0, 1) := by decide +kernel
theorem gd_L_law_684 : decode F_L_law.2.1 684 = .ok (.iload 4, 2) := by decide +kernel
theorem gd_L_law_686 : decode F_L_law.2.1 686 = .ok (.iconst 1, 1) := by decide +kernel
theorem gd_L_law_687 : decode F_L_law.2.1 687 = .ok (.iadd, 1) := by decide +kernel
theorem gd_L_law_688 : decode F_L_law.2.1 688 = .ok (.iaload, 1) := by decide +kernel
theorem gd_L_law_689 : decode F_L_law.2.1 689 = .ok (.aload_n 3, 1) := by decide +kernel
theorem gd_L_law_690 : decode F_L_law.2.1 690 = .ok (.invokestatic 123, 3) := by decide +kernel
theorem gd_L_law_693 : decode F_L_law.2.1 693 = .ok (.istore 5, 2) := by decide +kernel
theorem gd_L_law_695 : decode F_L_law.2.1 695 = .ok (.aload_n 2, 1) := by decide +kernel
theorem gd_L_law_696 : decode F_L_law.2.1 696 = .ok (.aload_n 0, 1) := by decide +kernel
theorem gd_L_law_697 : decode F_L_law.2.1 697 = .ok (.iload 4, 2) := by decide +kernel
theorem gd_L_law_699 : decode F_L_law.2.1 699 = .ok (.iconst 1, 1) := by decide +kernel
theorem gd_L_law_700 : decode F_L_law.2.1 700 = .ok (.iadd, 1) := by decide +kernel
theorem gd_L_law_701 : decode F_L_law.2.1 701 = .ok (.iaload, 1) := by decide +kernel
theorem gd_L_law_702 : decode F_L_law.2.1 702 = .ok (.invokevirtual 125, 3) := by decide +kernel
theorem gd_L_law_705 : decode F_L_law.2.1 705 = .ok (.istore 6, 2) := by decide +kernel
theorem gd_L_law_707 : decode F_L_law.2.1 707 = .ok (.aload_n 2, 1) := by decide +kernel
theorem gd_L_law_708 : decode F_L_law.2.1 708 = .ok (.invokevirtual 95, 3) := by decide +kernel
theorem gd_L_law_711 : decode F_L_law.2.1 711 = .ok (.iload 5, 2) := by decide +kernel
theorem gd_L_law_713 : decode F_L_law.2.1 713 = .ok (.if_icmp .eq 5, 3) := by decide +kernel
theorem gd_L_law_716 : decode F_L_law.2.1 716 = .ok (.iconst 0, 1) := by decide +kernel
theorem gd_L_law_717 : decode F_L_law.2.1 717 = .ok (.ireturn, 1) := by decide +kernel
theorem gd_L_law_718 : decode F_L_law.2.1 718 = .ok (.iload 5, 2) := by decide +kernel
theorem gd_L_law_720 : decode F_L_law.2.1 720 = .ok (.ifCond .ne 15, 3) := by decide +kernel
theorem gd_L_law_723 : decode F_L_law.2.1 723 = .ok (.aload_n 3, 1) := by decide +kernel
theorem gd_L_law_724 : decode F_L_law.2.1 724 = .ok (.iconst 0, 1) := by decide +kernel
theorem gd_L_law_725 : decode F_L_law.2.1 725 = .ok (.laload, 1) := by decide +kernel
theorem gd_L_law_726 : decode F_L_law.2.1 726 = .ok (.iload 6, 2) := by decide +kernel
theorem gd_L_law_728 : decode F_L_law.2.1 728 = .ok (.i2l, 1) := by decide +kernel
theorem gd_L_law_729 : decode F_L_law.2.1 729 = .ok (.lcmp, 1) := by decide +kernel
theorem gd_L_law_730 : decode F_L_law.2.1 730 = .ok (.ifCond .eq 5, 3) := by decide +kernel
theorem gd_L_law_733 : decode F_L_law.2.1 733 = .ok (.iconst 0, 1) := by decide +kernel
theorem gd_L_law_734 : decode F_L_law.2.1 734 = .ok (.ireturn, 1) := by decide +kernel
theorem gd_L_law_735 : decode F_L_law.2.1 735 = .ok (.goto 776, 3) := by decide +kernel
theorem gd_L_law_738 : decode F_L_law.2.1 738 = .ok (.aload_n 1, 1) := by decide +kernel
theorem gd_L_law_739 : decode F_L_law.2.1 739 = .ok (.aload_n 0, 1) := by decide +kernel
theorem gd_L_law_740 : decode F_L_law.2.1 740 = .ok (.iload 4, 2) := by decide +kernel
theorem gd_L_law_742 : decode F_L_law.2.1 742 = .ok (.iconst 1, 1) := by decide +kernel
theorem gd_L_law_743 : decode F_L_law.2.1 743 = .ok (.iadd, 1) := by decide +kernel
theorem gd_L_law_744 : decode F_L_law.2.1 744 = .ok (.iaload, 1) := by decide +kernel
theorem gd_L_law_745 : decode F_L_law.2.1 745 = .ok (.aload_n 3, 1) := by decide +kernel
theorem gd_L_law_746 : decode F_L_law.2.1 746 = .ok (.invokestatic 126, 3) := by decide +kernel
theorem gd_L_law_749 : decode F_L_law.2.1 749 = .ok (.istore 5, 2) := by decide +kernel
theorem gd_L_law_751 : decode F_L_law.2.1 751 = .ok (.aload_n 2, 1) := by decide +kernel
theorem gd_L_law_752 : decode F_L_law.2.1 752 = .ok (.aload_n 0, 1) := by decide +kernel
theorem gd_L_law_753 : decode F_L_law.2.1 753 = .ok (.iload 4, 2) := by decide +kernel
theorem gd_L_law_755 : decode F_L_law.2.1 755 = .ok (.iconst 1, 1) := by decide +kernel
theorem gd_L_law_756 : decode F_L_law.2.1 756 = .ok (.iadd, 1) := by decide +kernel
theorem gd_L_law_757 : decode F_L_law.2.1 757 = .ok (.iaload, 1) := by decide +kernel
theorem gd_L_law_758 : decode F_L_law.2.1 758 = .ok (.invokevirtual 128, 3) := by decide +kernel
theorem gd_L_law_761 : decode F_L_law.2.1 761 = .ok (.istore 6, 2) := by decide +kernel
theorem gd_L_law_763 : decode F_L_law.2.1 763 = .ok (.aload_n 2, 1) := by decide +kernel
theorem gd_L_law_764 : decode F_L_law.2.1 764 = .ok (.invokevirtual 95, 3) := by decide +kernel
theorem gd_L_law_767 : decode F_L_law.2.1 767 = .ok (.iload 5, 2) := by decide +kernel
theorem gd_L_law_769 : decode F_L_law.2.1 769 = .ok (.if_icmp .eq 5, 3) := by decide +kernel
theorem gd_L_law_772 : decode F_L_law.2.1 772 = .ok (.iconst 0, 1) := by decide +kernel
theorem gd_L_law_773 : decode F_L_law.2.1 773 = .ok (.ireturn, 1) := by decide +kernel
theorem gd_L_law_774 : decode F_L_law.2.1 774 = .ok (.iload 5, 2) := by decide +kernel
theorem gd_L_law_776 : decode F_L_law.2.1 776 = .ok (.ifCond .ne 15, 3) := by decide +kernel
theorem gd_L_law_779 : decode F_L_law.2.1 779 = .ok (.aload_n 3, 1) := by decide +kernel
theorem gd_L_law_780 : decode F_L_law.2.1 780 = .ok (.iconst 0, 1) := by decide +kernel
theorem gd_L_law_781 : decode F_L_law.2.1 781 = .ok (.laload, 1) := by decide +kernel
theorem gd_L_law_782 : decode F_L_law.2.1 782 = .ok (.iload 6, 2) := by decide +kernel
theorem gd_L_law_784 : decode F_L_law.2.1 784 = .ok (.i2l, 1) := by decide +kernel
theorem gd_L_law_785 : decode F_L_law.2.1 785 = .ok (.lcmp, 1) := by decide +kernel
theorem gd_L_law_786 : decode F_L_law.2.1 786 = .ok (.ifCond .eq 5, 3) := by decide +kernel
theorem gd_L_law_789 : decode F_L_law.2.1 789 = .ok (.iconst 0, 1) := by decide +kernel
theorem gd_L_law_790 : decode F_L_law.2.1 790 = .ok (.ireturn, 1) := by decide +kernel
theorem gd_L_law_791 : decode F_L_law.2.1 791 = .ok (.goto 720, 3) := by decide +kernel
theorem gd_L_law_794 : decode F_L_law.2.1 794 = .ok (.aload_n 1, 1) := by decide +kernel
theorem gd_L_law_795 : decode F_L_law.2.1 795 = .ok (.aload_n 0, 1) := by decide +kernel
theorem gd_L_law_796 : decode F_L_law.2.1 796 = .ok (.iload 4, 2) := by decide +kernel
theorem gd_L_law_798 : decode F_L_law.2.1 798 = .ok (.iconst 1, 1) := by decide +kernel
theorem gd_L_law_799 : decode F_L_law.2.1 799 = .ok (.iadd, 1) := by decide +kernel
theorem gd_L_law_800 : decode F_L_law.2.1 800 = .ok (.iaload, 1) := by decide +kernel
theorem gd_L_law_801 : decode F_L_law.2.1 801 = .ok (.aload_n 3, 1) := by decide +kernel
theorem gd_L_law_802 : decode F_L_law.2.1 802 = .ok (.invokestatic 129, 3) := by decide +kernel
theorem gd_L_law_805 : decode F_L_law.2.1 805 = .ok (.istore 5, 2) := by decide +kernel
theorem gd_L_law_807 : decode F_L_law.2.1 807 = .ok (.aload_n 2, 1) := by decide +kernel
theorem gd_L_law_808 : decode F_L_law.2.1 808 = .ok (.aload_n 0, 1) := by decide +kernel
theorem gd_L_law_809 : decode F_L_law.2.1 809 = .ok (.iload 4, 2) := by decide +kernel
theorem gd_L_law_811 : decode F_L_law.2.1 811 = .ok (.iconst 1, 1) := by decide +kernel
theorem gd_L_law_812 : decode F_L_law.2.1 812 = .ok (.iadd, 1) := by decide +kernel
