/-! 61.case1.lean.txt -/
theorem dL_law_471 : decode cL_law 471 = .ok (.aload_n 1, 1) := dk_o43 (by decide +kernel)
theorem dL_law_472 : decode cL_law 472 = .ok (.aload_n 0, 1) := dk_o42 (by decide +kernel)
theorem dL_law_473 : decode cL_law 473 = .ok (.iload_n 3, 1) := dk_o29 (by decide +kernel)
theorem dL_law_474 : decode cL_law 474 = .ok (.iconst 1, 1) := dk_o4 (by decide +kernel)
theorem dL_law_475 : decode cL_law 475 = .ok (.iadd, 1) := dk_o96 (by decide +kernel)
theorem dL_law_476 : decode cL_law 476 = .ok (.iaload, 1) := dk_o46 (by decide +kernel)
theorem dL_law_477 : decode cL_law 477 = .ok (.aload_n 0, 1) := dk_o42 (by decide +kernel)
theorem dL_law_478 : decode cL_law 478 = .ok (.iload_n 3, 1) := dk_o29 (by decide +kernel)
theorem dL_law_479 : decode cL_law 479 = .ok (.iconst 2, 1) := dk_o5 (by decide +kernel)
theorem dL_law_480 : decode cL_law 480 = .ok (.iadd, 1) := dk_o96 (by decide +kernel)
theorem dL_law_481 : decode cL_law 481 = .ok (.iaload, 1) := dk_o46 (by decide +kernel)
theorem dL_law_482 : decode cL_law 482 = .ok (.invokevirtual 55, 3) := dk_o182 (by decide +kernel)
theorem dL_law_485 : decode cL_law 485 = .ok (.aload_n 2, 1) := dk_o44 (by decide +kernel)
theorem dL_law_486 : decode cL_law 486 = .ok (.aload_n 0, 1) := dk_o42 (by decide +kernel)
theorem dL_law_487 : decode cL_law 487 = .ok (.iload_n 3, 1) := dk_o29 (by decide +kernel)
theorem dL_law_488 : decode cL_law 488 = .ok (.iconst 1, 1) := dk_o4 (by decide +kernel)
theorem dL_law_489 : decode cL_law 489 = .ok (.iadd, 1) := dk_o96 (by decide +kernel)
theorem dL_law_490 : decode cL_law 490 = .ok (.iaload, 1) := dk_o46 (by decide +kernel)
theorem dL_law_491 : decode cL_law 491 = .ok (.aload_n 0, 1) := dk_o42 (by decide +kernel)
theorem dL_law_492 : decode cL_law 492 = .ok (.iload_n 3, 1) := dk_o29 (by decide +kernel)
theorem dL_law_493 : decode cL_law 493 = .ok (.iconst 2, 1) := dk_o5 (by decide +kernel)
theorem dL_law_494 : decode cL_law 494 = .ok (.iadd, 1) := dk_o96 (by decide +kernel)
theorem dL_law_495 : decode cL_law 495 = .ok (.iaload, 1) := dk_o46 (by decide +kernel)
theorem dL_law_496 : decode cL_law 496 = .ok (.invokevirtual 58, 3) := dk_o182 (by decide +kernel)
theorem dL_law_499 : decode cL_law 499 = .ok (.if_icmp .eq 627, 3) := dk_o159 (by decide +kernel)
theorem dL_law_504 : decode cL_law 504 = .ok (.aload_n 1, 1) := dk_o43 (by decide +kernel)
theorem dL_law_505 : decode cL_law 505 = .ok (.aload_n 0, 1) := dk_o42 (by decide +kernel)
theorem dL_law_506 : decode cL_law 506 = .ok (.iload_n 3, 1) := dk_o29 (by decide +kernel)
theorem dL_law_507 : decode cL_law 507 = .ok (.iconst 1, 1) := dk_o4 (by decide +kernel)
theorem dL_law_508 : decode cL_law 508 = .ok (.iadd, 1) := dk_o96 (by decide +kernel)
theorem dL_law_509 : decode cL_law 509 = .ok (.iaload, 1) := dk_o46 (by decide +kernel)
theorem dL_law_510 : decode cL_law 510 = .ok (.invokevirtual 59, 3) := dk_o182 (by decide +kernel)
theorem dL_law_513 : decode cL_law 513 = .ok (.pop, 1) := dk_o87 (by decide +kernel)
theorem dL_law_514 : decode cL_law 514 = .ok (.aload_n 2, 1) := dk_o44 (by decide +kernel)
theorem dL_law_515 : decode cL_law 515 = .ok (.aload_n 0, 1) := dk_o42 (by decide +kernel)
theorem dL_law_516 : decode cL_law 516 = .ok (.iload_n 3, 1) := dk_o29 (by decide +kernel)
theorem dL_law_517 : decode cL_law 517 = .ok (.iconst 1, 1) := dk_o4 (by decide +kernel)
theorem dL_law_518 : decode cL_law 518 = .ok (.iadd, 1) := dk_o96 (by decide +kernel)
theorem dL_law_519 : decode cL_law 519 = .ok (.iaload, 1) := dk_o46 (by decide +kernel)
theorem dL_law_520 : decode cL_law 520 = .ok (.invokevirtual 62, 3) := dk_o182 (by decide +kernel)
theorem dL_law_523 : decode cL_law 523 = .ok (.pop, 1) := dk_o87 (by decide +kernel)
theorem dL_law_524 : decode cL_law 524 = .ok (.goto 602, 3) := dk_o167 (by decide +kernel)
theorem dL_law_527 : decode cL_law 527 = .ok (.aload_n 1, 1) := dk_o43 (by decide +kernel)
theorem dL_law_528 : decode cL_law 528 = .ok (.aload_n 0, 1) := dk_o42 (by decide +kernel)
theorem dL_law_529 : decode cL_law 529 = .ok (.iload_n 3, 1) := dk_o29 (by decide +kernel)
theorem dL_law_530 : decode cL_law 530 = .ok (.iconst 1, 1) := dk_o4 (by decide +kernel)
theorem dL_law_531 : decode cL_law 531 = .ok (.iadd, 1) := dk_o96 (by decide +kernel)
theorem dL_law_532 : decode cL_law 532 = .ok (.iaload, 1) := dk_o46 (by decide +kernel)
theorem dL_law_533 : decode cL_law 533 = .ok (.aload_n 0, 1) := dk_o42 (by decide +kernel)
theorem dL_law_534 : decode cL_law 534 = .ok (.iload_n 3, 1) := dk_o29 (by decide +kernel)
theorem dL_law_535 : decode cL_law 535 = .ok (.iconst 2, 1) := dk_o5 (by decide +kernel)
theorem dL_law_536 : decode cL_law 536 = .ok (.iadd, 1) := dk_o96 (by decide +kernel)
theorem dL_law_537 : decode cL_law 537 = .ok (.iaload, 1) := dk_o46 (by decide +kernel)
theorem dL_law_538 : decode cL_law 538 = .ok (.aload_n 0, 1) := dk_o42 (by decide +kernel)
theorem dL_law_539 : decode cL_law 539 = .ok (.iload_n 3, 1) := dk_o29 (by decide +kernel)
theorem dL_law_540 : decode cL_law 540 = .ok (.iconst 3, 1) := dk_o6 (by decide +kernel)
theorem dL_law_541 : decode cL_law 541 = .ok (.iadd, 1) := dk_o96 (by decide +kernel)
theorem dL_law_542 : decode cL_law 542 = .ok (.iaload, 1) := dk_o46 (by decide +kernel)
theorem dL_law_543 : decode cL_law 543 = .ok (.invokevirtual 63, 3) := dk_o182 (by decide +kernel)
theorem dL_law_546 : decode cL_law 546 = .ok (.pop, 1) := dk_o87 (by decide +kernel)
theorem dL_law_547 : decode cL_law 547 = .ok (.aload_n 2, 1) := dk_o44 (by decide +kernel)
theorem dL_law_548 : decode cL_law 548 = .ok (.aload_n 0, 1) := dk_o42 (by decide +kernel)
theorem dL_law_549 : decode cL_law 549 = .ok (.iload_n 3, 1) := dk_o29 (by decide +kernel)
theorem dL_law_550 : decode cL_law 550 = .ok (.iconst 1, 1) := dk_o4 (by decide +kernel)
theorem dL_law_551 : decode cL_law 551 = .ok (.iadd, 1) := dk_o96 (by decide +kernel)
theorem dL_law_552 : decode cL_law 552 = .ok (.iaload, 1) := dk_o46 (by decide +kernel)
theorem dL_law_553 : decode cL_law 553 = .ok (.aload_n 0, 1) := dk_o42 (by decide +kernel)
theorem dL_law_554 : decode cL_law 554 = .ok (.iload_n 3, 1) := dk_o29 (by decide +kernel)
theorem dL_law_555 : decode cL_law 555 = .ok (.iconst 2, 1) := dk_o5 (by decide +kernel)
theorem dL_law_556 : decode cL_law 556 = .ok (.iadd, 1) := dk_o96 (by decide +kernel)
theorem dL_law_557 : decode cL_law 557 = .ok (.iaload, 1) := dk_o46 (by decide +kernel)
theorem dL_law_558 : decode cL_law 558 = .ok (.aload_n 0, 1) := dk_o42 (by decide +kernel)
theorem dL_law_559 : decode cL_law 559 = .ok (.iload_n 3, 1) := dk_o29 (by decide +kernel)
theorem dL_law_560 : decode cL_law 560 = .ok (.iconst 3, 1) := dk_o6 (by decide +kernel)
theorem dL_law_561 : decode cL_law 561 = .ok (.iadd, 1) := dk_o96 (by decide +kernel)
theorem dL_law_562 : decode cL_law 562 = .ok (.iaload, 1) := dk_o46 (by decide +kernel)
theorem dL_law_563 : decode cL_law 563 = .ok (.invokevirtual 66, 3) := dk_o182 (by decide +kernel)
theorem dL_law_566 : decode cL_law 566 = .ok (.pop, 1) := dk_o87 (by decide +kernel)
theorem dL_law_567 : decode cL_law 567 = .ok (.goto 559, 3) := dk_o167 (by decide +kernel)
theorem dL_law_570 : decode cL_law 570 = .ok (.aload_n 1, 1) := dk_o43 (by decide +kernel)
theorem dL_law_571 : decode cL_law 571 = .ok (.aload_n 0, 1) := dk_o42 (by decide +kernel)
theorem dL_law_572 : decode cL_law 572 = .ok (.iload_n 3, 1) := dk_o29 (by decide +kernel)
theorem dL_law_573 : decode cL_law 573 = .ok (.iconst 1, 1) := dk_o4 (by decide +kernel)
theorem dL_law_574 : decode cL_law 574 = .ok (.iadd, 1) := dk_o96 (by decide +kernel)
theorem dL_law_575 : decode cL_law 575 = .ok (.iaload, 1) := dk_o46 (by decide +kernel)
theorem dL_law_576 : decode cL_law 576 = .ok (.aload_n 0, 1) := dk_o42 (by decide +kernel)
theorem dL_law_577 : decode cL_law 577 = .ok (.iload_n 3, 1) := dk_o29 (by decide +kernel)
theorem dL_law_578 : decode cL_law 578 = .ok (.iconst 2, 1) := dk_o5 (by decide +kernel)
theorem dL_law_579 : decode cL_law 579 = .ok (.iadd, 1) := dk_o96 (by decide +kernel)
theorem dL_law_580 : decode cL_law 580 = .ok (.iaload, 1) := dk_o46 (by decide +kernel)
theorem dL_law_581 : decode cL_law 581 = .ok (.invokevirtual 67, 3) := dk_o182 (by decide +kernel)
theorem dL_law_584 : decode cL_law 584 = .ok (.pop, 1) := dk_o87 (by decide +kernel)
theorem dL_law_585 : decode cL_law 585 = .ok (.aload_n 2, 1) := dk_o44 (by decide +kernel)
theorem dL_law_586 : decode cL_law 586 = .ok (.aload_n 0, 1) := dk_o42 (by decide +kernel)
theorem dL_law_587 : decode cL_law 587 = .ok (.iload_n 3, 1) := dk_o29 (by decide +kernel)
theorem dL_law_588 : decode cL_law 588 = .ok (.iconst 1, 1) := dk_o4 (by decide +kernel)
theorem dL_law_589 : decode cL_law 589 = .ok (.iadd, 1) := dk_o96 (by decide +kernel)
theorem dL_law_590 : decode cL_law 590 = .ok (.iaload, 1) := dk_o46 (by decide +kernel)
theorem dL_law_591 : decode cL_law 591 = .ok (.aload_n 0, 1) := dk_o42 (by decide +kernel)
theorem dL_law_592 : decode cL_law 592 = .ok (.iload_n 3, 1) := dk_o29 (by decide +kernel)
theorem dL_law_593 : decode cL_law 593 = .ok (.iconst 2, 1) := dk_o5 (by decide +kernel)
theorem dL_law_594 : decode cL_law 594 = .ok (.iadd, 1) := dk_o96 (by decide +kernel)
theorem dL_law_595 : decode cL_law 595 = .ok (.iaload, 1) := dk_o46 (by decide +kernel)
theorem dL_law_596 : decode cL_law 596 = .ok (.invokevirtual 70, 3) := dk_o182 (by decide +kernel)
theorem dL_law_599 : decode cL_law 599 = .ok (.pop, 1) := dk_o87 (by decide +kernel)
theorem dL_law_600 : decode cL_law 600 = .ok (.goto 526, 3) := dk_o167 (by decide +kernel)
theorem dL_law_603 : decode cL_law 603 = .ok (.aload_n 1, 1) := dk_o43 (by decide +kernel)
theorem dL_law_604 : decode cL_law 604 = .ok (.aload_n 0, 1) := dk_o42 (by decide +kernel)
theorem dL_law_605 : decode cL_law 605 = .ok (.iload_n 3, 1) := dk_o29 (by decide +kernel)
theorem dL_law_606 : decode cL_law 606 = .ok (.iconst 1, 1) := dk_o4 (by decide +kernel)
theorem dL_law_607 : decode cL_law 607 = .ok (.iadd, 1) := dk_o96 (by decide +kernel)
theorem dL_law_608 : decode cL_law 608 = .ok (.iaload, 1) := dk_o46 (by decide +kernel)
theorem dL_law_609 : decode cL_law 609 = .ok (.invokevirtual 71, 3) := dk_o182 (by decide +kernel)
theorem dL_law_612 : decode cL_law 612 = .ok (.pop, 1) := dk_o87 (by decide +kernel)
theorem dL_law_613 : decode cL_law 613 = .ok (.aload_n 2, 1) := dk_o44 (by decide +kernel)
theorem dL_law_614 : decode cL_law 614 = .ok (.aload_n 0, 1) := dk_o42 (by decide +kernel)
theorem dL_law_615 : decode cL_law 615 = .ok (.iload_n 3, 1) := dk_o29 (by decide +kernel)
theorem dL_law_616 : decode cL_law 616 = .ok (.iconst 1, 1) := dk_o4 (by decide +kernel)
theorem dL_law_617 : decode cL_law 617 = .ok (.iadd, 1) := dk_o96 (by decide +kernel)
theorem dL_law_618 : decode cL_law 618 = .ok (.iaload, 1) := dk_o46 (by decide +kernel)
theorem dL_law_619 : decode cL_law 619 = .ok (.invokevirtual 74, 3) := dk_o182 (by decide +kernel)
theorem dL_law_622 : decode cL_law 622 = .ok (.pop, 1) := dk_o87 (by decide +kernel)
theorem dL_law_623 : decode cL_law 623 = .ok (.goto 503, 3) := dk_o167 (by decide +kernel)
theorem dL_law_626 : decode cL_law 626 = .ok (.aload_n 1, 1) := dk_o43 (by decide +kernel)
theorem dL_law_627 : decode cL_law 627 = .ok (.aload_n 0, 1) := dk_o42 (by decide +kernel)
theorem dL_law_628 : decode cL_law 628 = .ok (.iload_n 3, 1) := dk_o29 (by decide +kernel)
theorem dL_law_629 : decode cL_law 629 = .ok (.iconst 1, 1) := dk_o4 (by decide +kernel)
theorem dL_law_630 : decode cL_law 630 = .ok (.iadd, 1) := dk_o96 (by decide +kernel)
theorem dL_law_631 : decode cL_law 631 = .ok (.iaload, 1) := dk_o46 (by decide +kernel)
theorem dL_law_632 : decode cL_law 632 = .ok (.aload_n 0, 1) := dk_o42 (by decide +kernel)
theorem dL_law_633 : decode cL_law 633 = .ok (.iload_n 3, 1) := dk_o29 (by decide +kernel)
theorem dL_law_634 : decode cL_law 634 = .ok (.iconst 2, 1) := dk_o5 (by decide +kernel)
theorem dL_law_635 : decode cL_law 635 = .ok (.iadd, 1) := dk_o96 (by decide +kernel)
theorem dL_law_636 : decode cL_law 636 = .ok (.iaload, 1) := dk_o46 (by decide +kernel)
theorem dL_law_637 : decode cL_law 637 = .ok (.invokevirtual 75, 3) := dk_o182 (by decide +kernel)
theorem dL_law_640 : decode cL_law 640 = .ok (.pop, 1) := dk_o87 (by decide +kernel)
theorem dL_law_641 : decode cL_law 641 = .ok (.aload_n 2, 1) := dk_o44 (by decide +kernel)
theorem dL_law_642 : decode cL_law 642 = .ok (.aload_n 0, 1) := dk_o42 (by decide +kernel)
theorem dL_law_643 : decode cL_law 643 = .ok (.iload_n 3, 1) := dk_o29 (by decide +kernel)
theorem dL_law_644 : decode cL_law 644 = .ok (.iconst 1, 1) := dk_o4 (by decide +kernel)
theorem dL_law_645 : decode cL_law 645 = .ok (.iadd, 1) := dk_o96 (by decide +kernel)
theorem dL_law_646 : decode cL_law 646 = .ok (.iaload, 1) := dk_o46 (by decide +kernel)
theorem dL_law_647 : decode cL_law 647 = .ok (.aload_n 0, 1) := dk_o42 (by decide +kernel)
theorem dL_law_648 : decode cL_law 648 = .ok (.iload_n 3, 1) := dk_o29 (by decide +kernel)
theorem dL_law_649 : decode cL_law 649 = .ok (.iconst 2, 1) := dk_o5 (by decide +kernel)
theorem dL_law_650 : decode cL_law 650 = .ok (.iadd, 1) := dk_o96 (by decide +kernel)
theorem dL_law_651 : decode cL_law 651 = .ok (.iaload, 1) := dk_o46 (by decide +kernel)
theorem dL_law_652 : decode cL_law 652 = .ok (.invokevirtual 78, 3) := dk_o182 (by decide +kernel)
theorem dL_law_655 : decode cL_law 655 = .ok (.pop, 1) := dk_o87 (by decide +kernel)
theorem dL_law_656 : decode cL_law 656 = .ok (.goto 470, 3) := dk_o167 (by decide +kernel)
theorem dL_law_659 : decode cL_law 659 = .ok (.aload_n 1, 1) := dk_o43 (by decide +kernel)
theorem dL_law_660 : decode cL_law 660 = .ok (.aload_n 0, 1) := dk_o42 (by decide +kernel)
theorem dL_law_661 : decode cL_law 661 = .ok (.iload_n 3, 1) := dk_o29 (by decide +kernel)
theorem dL_law_662 : decode cL_law 662 = .ok (.iconst 1, 1) := dk_o4 (by decide +kernel)
theorem dL_law_663 : decode cL_law 663 = .ok (.iadd, 1) := dk_o96 (by decide +kernel)
theorem dL_law_664 : decode cL_law 664 = .ok (.iaload, 1) := dk_o46 (by decide +kernel)
theorem dL_law_665 : decode cL_law 665 = .ok (.aload_n 0, 1) := dk_o42 (by decide +kernel)
theorem dL_law_666 : decode cL_law 666 = .ok (.iload_n 3, 1) := dk_o29 (by decide +kernel)
theorem dL_law_667 : decode cL_law 667 = .ok (.iconst 2, 1) := dk_o5 (by decide +kernel)
theorem dL_law_668 : decode cL_law 668 = .ok (.iadd, 1) := dk_o96 (by decide +kernel)
theorem dL_law_669 : decode cL_law 669 = .ok (.iaload, 1) := dk_o46 (by decide +kernel)
theorem dL_law_670 : decode cL_law 670 = .ok (.invokevirtual 79, 3) := dk_o182 (by decide +kernel)
theorem dL_law_673 : decode cL_law 673 = .ok (.pop, 1) := dk_o87 (by decide +kernel)
theorem dL_law_674 : decode cL_law 674 = .ok (.aload_n 2, 1) := dk_o44 (by decide +kernel)
theorem dL_law_675 : decode cL_law 675 = .ok (.aload_n 0, 1) := dk_o42 (by decide +kernel)
theorem dL_law_676 : decode cL_law 676 = .ok (.iload_n 3, 1) := dk_o29 (by decide +kernel)
theorem dL_law_677 : decode cL_law 677 = .ok (.iconst 1, 1) := dk_o4 (by decide +kernel)
theorem dL_law_678 : decode cL_law 678 = .ok (.iadd, 1) := dk_o96 (by decide +kernel)
theorem dL_law_679 : decode cL_law 679 = .ok (.iaload, 1) := dk_o46 (by decide +kernel)
theorem dL_law_680 : decode cL_law 680 = .ok (.aload_n 0, 1) := dk_o42 (by decide +kernel)
theorem dL_law_681 : decode cL_law 681 = .ok (.iload_n 3, 1) := dk_o29 (by decide +kernel)
theorem dL_law_682 : decode cL_law 682 = .ok (.iconst 2, 1) := dk_o5 (by decide +kernel)
theorem dL_law_683 : decode cL_law 683 = .ok (.iadd, 1) := dk_o96 (by decide +kernel)
theorem dL_law_684 : decode cL_law 684 = .ok (.iaload, 1) := dk_o46 (by decide +kernel)
theorem dL_law_685 : decode cL_law 685 = .ok (.invokevirtual 82, 3) := dk_o182 (by decide +kernel)
theorem dL_law_688 : decode cL_law 688 = .ok (.pop, 1) := dk_o87 (by decide +kernel)
theorem dL_law_689 : decode cL_law 689 = .ok (.goto 437, 3) := dk_o167 (by decide +kernel)
theorem dL_law_692 : decode cL_law 692 = .ok (.aload_n 1, 1) := dk_o43 (by decide +kernel)
theorem dL_law_693 : decode cL_law 693 = .ok (.aload_n 0, 1) := dk_o42 (by decide +kernel)
theorem dL_law_694 : decode cL_law 694 = .ok (.iload_n 3, 1) := dk_o29 (by decide +kernel)
theorem dL_law_695 : decode cL_law 695 = .ok (.iconst 1, 1) := dk_o4 (by decide +kernel)
theorem dL_law_696 : decode cL_law 696 = .ok (.iadd, 1) := dk_o96 (by decide +kernel)
theorem dL_law_697 : decode cL_law 697 = .ok (.iaload, 1) := dk_o46 (by decide +kernel)
theorem dL_law_698 : decode cL_law 698 = .ok (.invokevirtual 83, 3) := dk_o182 (by decide +kernel)
theorem dL_law_701 : decode cL_law 701 = .ok (.pop, 1) := dk_o87 (by decide +kernel)
theorem dL_law_702 : decode cL_law 702 = .ok (.aload_n 2, 1) := dk_o44 (by decide +kernel)
theorem dL_law_703 : decode cL_law 703 = .ok (.aload_n 0, 1) := dk_o42 (by decide +kernel)
theorem dL_law_704 : decode cL_law 704 = .ok (.iload_n 3, 1) := dk_o29 (by decide +kernel)
theorem dL_law_705 : decode cL_law 705 = .ok (.iconst 1, 1) := dk_o4 (by decide +kernel)
theorem dL_law_706 : decode cL_law 706 = .ok (.iadd, 1) := dk_o96 (by decide +kernel)
theorem dL_law_707 : decode cL_law 707 = .ok (.iaload, 1) := dk_o46 (by decide +kernel)
theorem dL_law_708 : decode cL_law 708 = .ok (.invokevirtual 86, 3) := dk_o182 (by decide +kernel)
theorem dL_law_711 : decode cL_law 711 = .ok (.pop, 1) := dk_o87 (by decide +kernel)
theorem dL_law_712 : decode cL_law 712 = .ok (.goto 414, 3) := dk_o167 (by decide +kernel)
theorem dL_law_715 : decode cL_law 715 = .ok (.aload_n 1, 1) := dk_o43 (by decide +kernel)
theorem dL_law_716 : decode cL_law 716 = .ok (.aload_n 0, 1) := dk_o42 (by decide +kernel)
theorem dL_law_717 : decode cL_law 717 = .ok (.iload_n 3, 1) := dk_o29 (by decide +kernel)
theorem dL_law_718 : decode cL_law 718 = .ok (.iconst 1, 1) := dk_o4 (by decide +kernel)
theorem dL_law_719 : decode cL_law 719 = .ok (.iadd, 1) := dk_o96 (by decide +kernel)
theorem dL_law_720 : decode cL_law 720 = .ok (.iaload, 1) := dk_o46 (by decide +kernel)
theorem dL_law_721 : decode cL_law 721 = .ok (.aload_n 0, 1) := dk_o42 (by decide +kernel)
theorem dL_law_722 : decode cL_law 722 = .ok (.iload_n 3, 1) := dk_o29 (by decide +kernel)
theorem dL_law_723 : decode cL_law 723 = .ok (.iconst 2, 1) := dk_o5 (by decide +kernel)
theorem dL_law_724 : decode cL_law 724 = .ok (.iadd, 1) := dk_o96 (by decide +kernel)
theorem dL_law_725 : decode cL_law 725 = .ok (.iaload, 1) := dk_o46 (by decide +kernel)
theorem dL_law_726 : decode cL_law 726 = .ok (.invokevirtual 87, 3) := dk_o182 (by decide +kernel)
theorem dL_law_729 : decode cL_law 729 = .ok (.pop, 1) := dk_o87 (by decide +kernel)
theorem dL_law_730 : decode cL_law 730 = .ok (.aload_n 2, 1) := dk_o44 (by decide +kernel)
theorem dL_law_731 : decode cL_law 731 = .ok (.aload_n 0, 1) := dk_o42 (by decide +kernel)
theorem dL_law_732 : decode cL_law 732 = .ok (.iload_n 3, 1) := dk_o29 (by decide +kernel)
theorem dL_law_733 : decode cL_law 733 = .ok (.iconst 1, 1) := dk_o4 (by decide +kernel)
theorem dL_law_734 : decode cL_law 734 = .ok (.iadd, 1) := dk_o96 (by decide +kernel)
theorem dL_law_735 : decode cL_law 735 = .ok (.iaload, 1) := dk_o46 (by decide +kernel)
theorem dL_law_736 : decode cL_law 736 = .ok (.aload_n 0, 1) := dk_o42 (by decide +kernel)
theorem dL_law_737 : decode cL_law 737 = .ok (.iload_n 3, 1) := dk_o29 (by decide +kernel)
theorem dL_law_738 : decode cL_law 738 = .ok (.iconst 2, 1) := dk_o5 (by decide +kernel)
theorem dL_law_739 : decode cL_law 739 = .ok (.iadd, 1) := dk_o96 (by decide +kernel)
theorem dL_law_740 : decode cL_law 740 = .ok (.iaload, 1) := dk_o46 (by decide +kernel)
theorem dL_law_741 : decode cL_law 741 = .ok (.invokevirtual 90, 3) := dk_o182 (by decide +kernel)
theorem dL_law_744 : decode cL_law 744 = .ok (.pop, 1) := dk_o87 (by decide +kernel)
theorem dL_law_745 : decode cL_law 745 = .ok (.goto 381, 3) := dk_o167 (by decide +kernel)
theorem wB_1474 : Cond.code yX11_order cX11_order 3 (some .int) ∈ dgB := List.mem_filter.mpr ⟨tbl_5 _ (List.mem_of_getElem? (i := 67) rfl), rfl⟩
theorem wB_1475 : Cond.methodLink RL 55 yX11_order ∈ dgB := List.mem_filter.mpr ⟨tbl_5 _ (List.mem_of_getElem? (i := 64) (by decide +kernel)), by decide +kernel⟩
theorem wB_1476 : Cond.instanceMethod yX11_order ∈ dgB := List.mem_filter.mpr ⟨tbl_5 _ (List.mem_of_getElem? (i := 65) (by decide +kernel)), by decide +kernel⟩
theorem wB_1477 : Cond.selects RX11 yX11_order yX11_order ∈ dgB := List.mem_filter.mpr ⟨tbl_5 _ (List.mem_of_getElem? (i := 66) (by decide +kernel)), by decide +kernel⟩
theorem wB_1478 : Cond.code yX12_order cX12_order 3 (some .int) ∈ dgB := List.mem_filter.mpr ⟨tbl_9 _ (List.mem_of_getElem? (i := 0) rfl), rfl⟩
theorem wB_1479 : Cond.methodLink RL 58 yX12_order ∈ dgB := List.mem_filter.mpr ⟨tbl_8 _ (List.mem_of_getElem? (i := 237) (by decide +kernel)), by decide +kernel⟩
theorem wB_1480 : Cond.instanceMethod yX12_order ∈ dgB := List.mem_filter.mpr ⟨tbl_8 _ (List.mem_of_getElem? (i := 238) (by decide +kernel)), by decide +kernel⟩
theorem wB_1481 : Cond.selects RX12 yX12_order yX12_order ∈ dgB := List.mem_filter.mpr ⟨tbl_8 _ (List.mem_of_getElem? (i := 239) (by decide +kernel)), by decide +kernel⟩
theorem wB_1482 : Cond.code yX11_tubs cX11_tubs 2 (some .int) ∈ dgB := List.mem_filter.mpr ⟨tbl_5 _ (List.mem_of_getElem? (i := 79) rfl), rfl⟩
theorem wB_1483 : Cond.methodLink RL 59 yX11_tubs ∈ dgB := List.mem_filter.mpr ⟨tbl_5 _ (List.mem_of_getElem? (i := 76) (by decide +kernel)), by decide +kernel⟩
theorem wB_1484 : Cond.instanceMethod yX11_tubs ∈ dgB := List.mem_filter.mpr ⟨tbl_5 _ (List.mem_of_getElem? (i := 77) (by decide +kernel)), by decide +kernel⟩
theorem wB_1485 : Cond.selects RX11 yX11_tubs yX11_tubs ∈ dgB := List.mem_filter.mpr ⟨tbl_5 _ (List.mem_of_getElem? (i := 78) (by decide +kernel)), by decide +kernel⟩
theorem wB_1486 : Cond.code yX12_tubs cX12_tubs 2 (some .int) ∈ dgB := List.mem_filter.mpr ⟨tbl_9 _ (List.mem_of_getElem? (i := 12) rfl), rfl⟩
theorem wB_1487 : Cond.methodLink RL 62 yX12_tubs ∈ dgB := List.mem_filter.mpr ⟨tbl_9 _ (List.mem_of_getElem? (i := 9) (by decide +kernel)), by decide +kernel⟩
theorem wB_1488 : Cond.instanceMethod yX12_tubs ∈ dgB := List.mem_filter.mpr ⟨tbl_9 _ (List.mem_of_getElem? (i := 10) (by decide +kernel)), by decide +kernel⟩
theorem wB_1489 : Cond.selects RX12 yX12_tubs yX12_tubs ∈ dgB := List.mem_filter.mpr ⟨tbl_9 _ (List.mem_of_getElem? (i := 11) (by decide +kernel)), by decide +kernel⟩
theorem wB_1490 : Cond.code yX11_later cX11_later 5 (some .int) ∈ dgB := List.mem_filter.mpr ⟨tbl_5 _ (List.mem_of_getElem? (i := 83) rfl), rfl⟩
theorem wB_1491 : Cond.methodLink RL 63 yX11_later ∈ dgB := List.mem_filter.mpr ⟨tbl_5 _ (List.mem_of_getElem? (i := 80) (by decide +kernel)), by decide +kernel⟩
theorem wB_1492 : Cond.instanceMethod yX11_later ∈ dgB := List.mem_filter.mpr ⟨tbl_5 _ (List.mem_of_getElem? (i := 81) (by decide +kernel)), by decide +kernel⟩
theorem wB_1493 : Cond.selects RX11 yX11_later yX11_later ∈ dgB := List.mem_filter.mpr ⟨tbl_5 _ (List.mem_of_getElem? (i := 82) (by decide +kernel)), by decide +kernel⟩
theorem wB_1494 : Cond.code yX12_later cX12_later 4 (some .int) ∈ dgB := List.mem_filter.mpr ⟨tbl_9 _ (List.mem_of_getElem? (i := 16) rfl), rfl⟩
theorem wB_1495 : Cond.methodLink RL 66 yX12_later ∈ dgB := List.mem_filter.mpr ⟨tbl_9 _ (List.mem_of_getElem? (i := 13) (by decide +kernel)), by decide +kernel⟩
theorem wB_1496 : Cond.instanceMethod yX12_later ∈ dgB := List.mem_filter.mpr ⟨tbl_9 _ (List.mem_of_getElem? (i := 14) (by decide +kernel)), by decide +kernel⟩
theorem wB_1497 : Cond.selects RX12 yX12_later yX12_later ∈ dgB := List.mem_filter.mpr ⟨tbl_9 _ (List.mem_of_getElem? (i := 15) (by decide +kernel)), by decide +kernel⟩
theorem wB_1498 : Cond.code yX11_opens cX11_opens 6 (some .int) ∈ dgB := List.mem_filter.mpr ⟨tbl_5 _ (List.mem_of_getElem? (i := 122) rfl), rfl⟩
theorem wB_1499 : Cond.methodLink RL 67 yX11_opens ∈ dgB := List.mem_filter.mpr ⟨tbl_5 _ (List.mem_of_getElem? (i := 119) (by decide +kernel)), by decide +kernel⟩
theorem wB_1500 : Cond.instanceMethod yX11_opens ∈ dgB := List.mem_filter.mpr ⟨tbl_5 _ (List.mem_of_getElem? (i := 120) (by decide +kernel)), by decide +kernel⟩
theorem wB_1501 : Cond.selects RX11 yX11_opens yX11_opens ∈ dgB := List.mem_filter.mpr ⟨tbl_5 _ (List.mem_of_getElem? (i := 121) (by decide +kernel)), by decide +kernel⟩
theorem wB_1502 : Cond.code yX12_opens cX12_opens 4 (some .int) ∈ dgB := List.mem_filter.mpr ⟨tbl_9 _ (List.mem_of_getElem? (i := 49) rfl), rfl⟩
theorem wB_1503 : Cond.methodLink RL 70 yX12_opens ∈ dgB := List.mem_filter.mpr ⟨tbl_9 _ (List.mem_of_getElem? (i := 46) (by decide +kernel)), by decide +kernel⟩
theorem wB_1504 : Cond.instanceMethod yX12_opens ∈ dgB := List.mem_filter.mpr ⟨tbl_9 _ (List.mem_of_getElem? (i := 47) (by decide +kernel)), by decide +kernel⟩
theorem wB_1505 : Cond.selects RX12 yX12_opens yX12_opens ∈ dgB := List.mem_filter.mpr ⟨tbl_9 _ (List.mem_of_getElem? (i := 48) (by decide +kernel)), by decide +kernel⟩
theorem wB_1506 : Cond.code yX11_worth cX11_worth 2 (some .int) ∈ dgB := List.mem_filter.mpr ⟨tbl_5 _ (List.mem_of_getElem? (i := 127) rfl), rfl⟩
theorem wB_1507 : Cond.methodLink RL 71 yX11_worth ∈ dgB := List.mem_filter.mpr ⟨tbl_5 _ (List.mem_of_getElem? (i := 124) (by decide +kernel)), by decide +kernel⟩
theorem wB_1508 : Cond.instanceMethod yX11_worth ∈ dgB := List.mem_filter.mpr ⟨tbl_5 _ (List.mem_of_getElem? (i := 125) (by decide +kernel)), by decide +kernel⟩
theorem wB_1509 : Cond.selects RX11 yX11_worth yX11_worth ∈ dgB := List.mem_filter.mpr ⟨tbl_5 _ (List.mem_of_getElem? (i := 126) (by decide +kernel)), by decide +kernel⟩
theorem wB_1510 : Cond.code yX12_worth cX12_worth 2 (some .int) ∈ dgB := List.mem_filter.mpr ⟨tbl_9 _ (List.mem_of_getElem? (i := 53) rfl), rfl⟩
theorem wB_1511 : Cond.methodLink RL 74 yX12_worth ∈ dgB := List.mem_filter.mpr ⟨tbl_9 _ (List.mem_of_getElem? (i := 50) (by decide +kernel)), by decide +kernel⟩
theorem wB_1512 : Cond.instanceMethod yX12_worth ∈ dgB := List.mem_filter.mpr ⟨tbl_9 _ (List.mem_of_getElem? (i := 51) (by decide +kernel)), by decide +kernel⟩
theorem wB_1513 : Cond.selects RX12 yX12_worth yX12_worth ∈ dgB := List.mem_filter.mpr ⟨tbl_9 _ (List.mem_of_getElem? (i := 52) (by decide +kernel)), by decide +kernel⟩
theorem wB_1514 : Cond.code yX11_shade cX11_shade 3 (some .int) ∈ dgB := List.mem_filter.mpr ⟨tbl_5 _ (List.mem_of_getElem? (i := 131) rfl), rfl⟩
theorem wB_1515 : Cond.methodLink RL 75 yX11_shade ∈ dgB := List.mem_filter.mpr ⟨tbl_5 _ (List.mem_of_getElem? (i := 128) (by decide +kernel)), by decide +kernel⟩
theorem wB_1516 : Cond.instanceMethod yX11_shade ∈ dgB := List.mem_filter.mpr ⟨tbl_5 _ (List.mem_of_getElem? (i := 129) (by decide +kernel)), by decide +kernel⟩
theorem wB_1517 : Cond.selects RX11 yX11_shade yX11_shade ∈ dgB := List.mem_filter.mpr ⟨tbl_5 _ (List.mem_of_getElem? (i := 130) (by decide +kernel)), by decide +kernel⟩
theorem wB_1518 : Cond.code yX12_shade cX12_shade 6 (some .int) ∈ dgB := List.mem_filter.mpr ⟨tbl_9 _ (List.mem_of_getElem? (i := 57) rfl), rfl⟩
theorem wB_1519 : Cond.methodLink RL 78 yX12_shade ∈ dgB := List.mem_filter.mpr ⟨tbl_9 _ (List.mem_of_getElem? (i := 54) (by decide +kernel)), by decide +kernel⟩
theorem wB_1520 : Cond.instanceMethod yX12_shade ∈ dgB := List.mem_filter.mpr ⟨tbl_9 _ (List.mem_of_getElem? (i := 55) (by decide +kernel)), by decide +kernel⟩
theorem wB_1521 : Cond.selects RX12 yX12_shade yX12_shade ∈ dgB := List.mem_filter.mpr ⟨tbl_9 _ (List.mem_of_getElem? (i := 56) (by decide +kernel)), by decide +kernel⟩
theorem wB_1522 : Cond.code yX11_change cX11_change 3 (some .int) ∈ dgB := List.mem_filter.mpr ⟨tbl_5 _ (List.mem_of_getElem? (i := 147) rfl), rfl⟩
theorem wB_1523 : Cond.methodLink RL 79 yX11_change ∈ dgB := List.mem_filter.mpr ⟨tbl_5 _ (List.mem_of_getElem? (i := 144) (by decide +kernel)), by decide +kernel⟩
theorem wB_1524 : Cond.instanceMethod yX11_change ∈ dgB := List.mem_filter.mpr ⟨tbl_5 _ (List.mem_of_getElem? (i := 145) (by decide +kernel)), by decide +kernel⟩
theorem wB_1525 : Cond.selects RX11 yX11_change yX11_change ∈ dgB := List.mem_filter.mpr ⟨tbl_5 _ (List.mem_of_getElem? (i := 146) (by decide +kernel)), by decide +kernel⟩
theorem wB_1526 : Cond.code yX12_change cX12_change 8 (some .int) ∈ dgB := List.mem_filter.mpr ⟨tbl_9 _ (List.mem_of_getElem? (i := 65) rfl), rfl⟩
theorem wB_1527 : Cond.methodLink RL 82 yX12_change ∈ dgB := List.mem_filter.mpr ⟨tbl_9 _ (List.mem_of_getElem? (i := 62) (by decide +kernel)), by decide +kernel⟩
theorem wB_1528 : Cond.instanceMethod yX12_change ∈ dgB := List.mem_filter.mpr ⟨tbl_9 _ (List.mem_of_getElem? (i := 63) (by decide +kernel)), by decide +kernel⟩
theorem wB_1529 : Cond.selects RX12 yX12_change yX12_change ∈ dgB := List.mem_filter.mpr ⟨tbl_9 _ (List.mem_of_getElem? (i := 64) (by decide +kernel)), by decide +kernel⟩
theorem wB_1530 : Cond.code yX11_sale cX11_sale 4 (some .int) ∈ dgB := List.mem_filter.mpr ⟨tbl_5 _ (List.mem_of_getElem? (i := 164) rfl), rfl⟩
theorem wB_1531 : Cond.methodLink RL 83 yX11_sale ∈ dgB := List.mem_filter.mpr ⟨tbl_5 _ (List.mem_of_getElem? (i := 161) (by decide +kernel)), by decide +kernel⟩
theorem wB_1532 : Cond.instanceMethod yX11_sale ∈ dgB := List.mem_filter.mpr ⟨tbl_5 _ (List.mem_of_getElem? (i := 162) (by decide +kernel)), by decide +kernel⟩
theorem wB_1533 : Cond.selects RX11 yX11_sale yX11_sale ∈ dgB := List.mem_filter.mpr ⟨tbl_5 _ (List.mem_of_getElem? (i := 163) (by decide +kernel)), by decide +kernel⟩
theorem wB_1534 : Cond.code yX12_sale cX12_sale 7 (some .int) ∈ dgB := List.mem_filter.mpr ⟨tbl_9 _ (List.mem_of_getElem? (i := 73) rfl), rfl⟩
theorem wB_1535 : Cond.methodLink RL 86 yX12_sale ∈ dgB := List.mem_filter.mpr ⟨tbl_9 _ (List.mem_of_getElem? (i := 70) (by decide +kernel)), by decide +kernel⟩
theorem wB_1536 : Cond.instanceMethod yX12_sale ∈ dgB := List.mem_filter.mpr ⟨tbl_9 _ (List.mem_of_getElem? (i := 71) (by decide +kernel)), by decide +kernel⟩
theorem wB_1537 : Cond.selects RX12 yX12_sale yX12_sale ∈ dgB := List.mem_filter.mpr ⟨tbl_9 _ (List.mem_of_getElem? (i := 72) (by decide +kernel)), by decide +kernel⟩
theorem wB_1538 : Cond.code yX11_odds cX11_odds 4 (some .int) ∈ dgB := List.mem_filter.mpr ⟨tbl_5 _ (List.mem_of_getElem? (i := 190) rfl), rfl⟩
theorem wB_1539 : Cond.methodLink RL 87 yX11_odds ∈ dgB := List.mem_filter.mpr ⟨tbl_5 _ (List.mem_of_getElem? (i := 187) (by decide +kernel)), by decide +kernel⟩
theorem wB_1540 : Cond.instanceMethod yX11_odds ∈ dgB := List.mem_filter.mpr ⟨tbl_5 _ (List.mem_of_getElem? (i := 188) (by decide +kernel)), by decide +kernel⟩
theorem wB_1541 : Cond.selects RX11 yX11_odds yX11_odds ∈ dgB := List.mem_filter.mpr ⟨tbl_5 _ (List.mem_of_getElem? (i := 189) (by decide +kernel)), by decide +kernel⟩
theorem wB_1542 : Cond.code yX12_odds cX12_odds 7 (some .int) ∈ dgB := List.mem_filter.mpr ⟨tbl_9 _ (List.mem_of_getElem? (i := 81) rfl), rfl⟩
theorem wB_1543 : Cond.methodLink RL 90 yX12_odds ∈ dgB := List.mem_filter.mpr ⟨tbl_9 _ (List.mem_of_getElem? (i := 78) (by decide +kernel)), by decide +kernel⟩
theorem wB_1544 : Cond.instanceMethod yX12_odds ∈ dgB := List.mem_filter.mpr ⟨tbl_9 _ (List.mem_of_getElem? (i := 79) (by decide +kernel)), by decide +kernel⟩
theorem wB_1545 : Cond.selects RX12 yX12_odds yX12_odds ∈ dgB := List.mem_filter.mpr ⟨tbl_9 _ (List.mem_of_getElem? (i := 80) (by decide +kernel)), by decide +kernel⟩
set_option maxHeartbeats 8000000 in
set_option maxRecDepth 100000 in
theorem law_case_9 {p : Program} {e : Env} {s : State} {m : MethodId} {below : List Frame} {meth : Method} {c : Code} (l : Launch) {b L : Nat} {xs : Nat → Int32} {g : Nat → ClassId} {D : va_G} {A : Nat → Prop} {oX oM : Nat} (C : law_St p s m meth c b L xs g D A) (ST : dk_ST A s s.heap) (hO : oX + 380 ≤ oM) (hoX : ∀ i, A (oX + i)) (hoM : ∀ i, A (oM + i)) {H : Heap} {locs : List Loc} {ls : Array Slot} {SX SM : dg_S} (hP : va_P D vwCl (dg_w g shX oX rfX SX) H) (hM : va_P D vwCl (dg_w g shM oM rfM SM) H) (hS : va_S A s.heap H locs) (IX : law_X oX SX) (IM : law_M oM SM) (IT : law_T SX SM) (IL : law_L oX SX SM) {x : Int32} (hx0 : 0 ≤ x.toInt) (hxL : x.toInt + 6 ≤ L) (hL : L ≤ 3072) (hl : lv_has ls 4 [(3, .int x), (2, .ref (oM + 0)), (1, .ref (oX + 0)), (0, .ref b)])
    (kk : ∀ (SX SM : dg_S) (H : Heap) (locs : List Loc) (ls : Array Slot), va_P D vwCl (dg_w g shX oX rfX SX) H → va_P D vwCl (dg_w g shM oM rfM SM) H → va_S A s.heap H locs → law_X oX SX → law_M oM SM → law_T SX SM → law_L oX SX SM → lv_has ls 4 [(3, .int x), (2, .ref (oM + 0)), (1, .ref (oX + 0)), (0, .ref b)] → W p l e room_1 s m #[Value.ref b] below meth c H locs 431 78943 (lw_Z below #[Value.ref b] s) (F0 m 1126 ls [])) : W p l e room_1 s m #[Value.ref b] below meth c H locs 431 78943 (lw_Z below #[Value.ref b] s) (F0 m 471 ls []) := by
  obtain ⟨hx, hb, hr, hml, hown, hts, hX, hbl, hlocks, K, hA, hAi⟩ := C
  have hbA : ¬ A b := fun q => Nat.not_le.mpr hbl (hAi b q)
  have F : CallFix p m c cL_law 4 s #[Value.ref b] lw_tbl RL := ⟨hx, hb, hml, hown, hts⟩
  obtain ⟨I0, Z1, Z2, Z3, Z4, Z6⟩ := IX
  obtain ⟨J0, ZB, ZS, ZW, ZD⟩ := IM
  obtain ⟨t, fX, fM, hBY⟩ := IT
  obtain ⟨gD, gE, LW0⟩ := IL
  have hgD := LW0.2.2.2.1.1.1
  have hgE := LW0.2.2.2.1.1.2.1
  have hgne := LW0.2.2.2.1.1.2.2
  have fgD := LW0.2.2.2.1.2.1
  have fgE := LW0.2.2.2.1.2.2
  have b_t : 0 ≤ (t).toInt ∧ (t).toInt ≤ 1600 := dg_I.intb (lo := 0) (hi := 1600) I0 sX_1 (by decide +kernel) fX
  have i1 : (x + 1).toInt = x.toInt + 1 := dk_addT2 rfl (by decide +kernel) (by omega)
  obtain ⟨a1, ha1⟩ : ∃ a, a = xs (x + 1).toNatClampNeg := ⟨_, rfl⟩
  have i2 : (x + 2).toInt = x.toInt + 2 := dk_addT2 rfl (by decide +kernel) (by omega)
  obtain ⟨a2, ha2⟩ : ∃ a, a = xs (x + 2).toNatClampNeg := ⟨_, rfl⟩
  refine lv_aload_n hx hb dL_law_471 rfl (lv_at hl 2 rfl) ?_
  refine lv_aload_n hx hb dL_law_472 rfl (lv_at hl 3 rfl) ?_
  refine lv_iload_n hx hb dL_law_473 rfl (lv_at hl 0 rfl) ?_
  refine lv_iconst (v := 1) hx hb dL_law_474 (by decide +kernel) ?_
  refine lv_iadd hx hb dL_law_475 ?_
  refine va_sld hx hb hX hbl hbA hS (dk_inv2 (by omega)) dL_law_476 ?_
  refine dk_top (y := a1) ha1.symm ?_
  refine lv_aload_n hx hb dL_law_477 rfl (lv_at hl 3 rfl) ?_
  refine lv_iload_n hx hb dL_law_478 rfl (lv_at hl 0 rfl) ?_
  refine lv_iconst (v := 2) hx hb dL_law_479 (by decide +kernel) ?_
  refine lv_iadd hx hb dL_law_480 ?_
  refine va_sld hx hb hX hbl hbA hS (dk_inv2 (by omega)) dL_law_481 ?_
  refine dk_top (y := a2) ha2.symm ?_
  refine lw_calli hS (fun i _ => hoX i) hA (va_runV (As := [.int a1, .int a2]) (rest := []) F (c_d_order l g D oX SX a1 a2 Z1 Z2 Z3 Z4 Z6 I0 H.size) (cwV 2 hts (lw_V wB_1475 wB_1476 wB_1477 wB_610 wB_1474) rfl rfl rfl (by decide +kernel) ⟨Nat.le_of_ble_eq_true rfl, Nat.le_of_ble_eq_true rfl⟩) (dg_preV sX_0 rfl K ST hP hS (fun i _ => hoX i) hA) rfl rfl hl.1 rfl (lv_room (Nat.le_of_ble_eq_true rfl)) dL_law_482 ⟨Nat.le_of_ble_eq_true rfl, Nat.le_of_ble_eq_true rfl⟩) hM (lw_apX hO) (fun r1 S1 hw1 H locs hP hM hS => ?_)
  rw [hw1.1] at hP
  obtain ⟨-, w1_0, -⟩ := hw1
  refine lv_aload_n hx hb dL_law_485 rfl (lv_at hl 1 rfl) ?_
  refine lv_aload_n hx hb dL_law_486 rfl (lv_at hl 3 rfl) ?_
  refine lv_iload_n hx hb dL_law_487 rfl (lv_at hl 0 rfl) ?_
  refine lv_iconst (v := 1) hx hb dL_law_488 (by decide +kernel) ?_
  refine lv_iadd hx hb dL_law_489 ?_
  refine va_sld hx hb hX hbl hbA hS (dk_inv2 (by omega)) dL_law_490 ?_
  refine dk_top (y := a1) ha1.symm ?_
  refine lv_aload_n hx hb dL_law_491 rfl (lv_at hl 3 rfl) ?_
  refine lv_iload_n hx hb dL_law_492 rfl (lv_at hl 0 rfl) ?_
  refine lv_iconst (v := 2) hx hb dL_law_493 (by decide +kernel) ?_
  refine lv_iadd hx hb dL_law_494 ?_
  refine va_sld hx hb hX hbl hbA hS (dk_inv2 (by omega)) dL_law_495 ?_
  refine dk_top (y := a2) ha2.symm ?_
  refine lw_calli hS (fun i _ => hoM i) hA (va_runV (As := [.int a1, .int a2]) (rest := [.int r1]) F (c_m_order l g D oM SM a1 a2 J0 H.size) (cwV 2 hts (lw_V wB_1479 wB_1480 wB_1481 wB_297 wB_1478) rfl rfl rfl (by decide +kernel) ⟨Nat.le_of_ble_eq_true rfl, Nat.le_of_ble_eq_true rfl⟩) (dg_preV sM_0 rfl K ST hM hS (fun i _ => hoM i) hA) rfl rfl hl.1 rfl (lv_room (Nat.le_of_ble_eq_true rfl)) dL_law_496 ⟨Nat.le_of_ble_eq_true rfl, Nat.le_of_ble_eq_true rfl⟩) hP (lw_apM hO) (fun r2 S2 hw2 H locs hM hP hS => ?_)
  rw [hw2.1] at hM
  obtain ⟨-, w2_0, -⟩ := hw2
  have eq9 := E_order LW0 w1_0 w2_0
  have LW1 := LW0
  refine lv_icmp_eq (tgt := 1126) hx hb dL_law_499 (dk_dq rfl) (fun _ => ?_) (fun c9 => absurd eq9 c9)
  exact kk SX SM H locs ls hP hM hS ⟨I0, Z1, Z2, Z3, Z4, Z6⟩ ⟨J0, ZB, ZS, ZW, ZD⟩ ⟨t, fX, fM, fun j hj => by exact hBY j hj⟩ ⟨_, _, LW1⟩ hl
set_option maxHeartbeats 8000000 in
set_option maxRecDepth 100000 in
theorem law_case_10 {p : Program} {e : Env} {s : State} {m : MethodId} {below : List Frame} {meth : Method} {c : Code} (l : Launch) {b L : Nat} {xs : Nat → Int32} {g : Nat → ClassId} {D : va_G} {A : Nat → Prop} {oX oM : Nat} (C : law_St p s m meth c b L xs g D A) (ST : dk_ST A s s.heap) (hO : oX + 380 ≤ oM) (hoX : ∀ i, A (oX + i)) (hoM : ∀ i, A (oM + i)) {H : Heap} {locs : List Loc} {ls : Array Slot} {SX SM : dg_S} (hP : va_P D vwCl (dg_w g shX oX rfX SX) H) (hM : va_P D vwCl (dg_w g shM oM rfM SM) H) (hS : va_S A s.heap H locs) (IX : law_X oX SX) (IM : law_M oM SM) (IT : law_T SX SM) (IL : law_L oX SX SM) {x : Int32} (hx0 : 0 ≤ x.toInt) (hxL : x.toInt + 6 ≤ L) (hL : L ≤ 3072) (hl : lv_has ls 4 [(3, .int x), (2, .ref (oM + 0)), (1, .ref (oX + 0)), (0, .ref b)])
    (kk : ∀ (SX SM : dg_S) (H : Heap) (locs : List Loc) (ls : Array Slot), va_P D vwCl (dg_w g shX oX rfX SX) H → va_P D vwCl (dg_w g shM oM rfM SM) H → va_S A s.heap H locs → law_X oX SX → law_M oM SM → law_T SX SM → law_L oX SX SM → lv_has ls 4 [(3, .int x), (2, .ref (oM + 0)), (1, .ref (oX + 0)), (0, .ref b)] → W p l e room_1 s m #[Value.ref b] below meth c H locs 431 78943 (lw_Z below #[Value.ref b] s) (F0 m 1126 ls [])) : W p l e room_1 s m #[Value.ref b] below meth c H locs 431 78943 (lw_Z below #[Value.ref b] s) (F0 m 504 ls []) := by
  obtain ⟨hx, hb, hr, hml, hown, hts, hX, hbl, hlocks, K, hA, hAi⟩ := C
  have hbA : ¬ A b := fun q => Nat.not_le.mpr hbl (hAi b q)
  have F : CallFix p m c cL_law 4 s #[Value.ref b] lw_tbl RL := ⟨hx, hb, hml, hown, hts⟩
  obtain ⟨I0, Z1, Z2, Z3, Z4, Z6⟩ := IX
  obtain ⟨J0, ZB, ZS, ZW, ZD⟩ := IM
  obtain ⟨t, fX, fM, hBY⟩ := IT
  obtain ⟨gD, gE, LW0⟩ := IL
  have hgD := LW0.2.2.2.1.1.1
  have hgE := LW0.2.2.2.1.1.2.1
  have hgne := LW0.2.2.2.1.1.2.2
  have fgD := LW0.2.2.2.1.2.1
  have fgE := LW0.2.2.2.1.2.2
  have b_t : 0 ≤ (t).toInt ∧ (t).toInt ≤ 1600 := dg_I.intb (lo := 0) (hi := 1600) I0 sX_1 (by decide +kernel) fX
  have i1 : (x + 1).toInt = x.toInt + 1 := dk_addT2 rfl (by decide +kernel) (by omega)
  obtain ⟨a1, ha1⟩ : ∃ a, a = xs (x + 1).toNatClampNeg := ⟨_, rfl⟩
  refine lv_aload_n hx hb dL_law_504 rfl (lv_at hl 2 rfl) ?_
  refine lv_aload_n hx hb dL_law_505 rfl (lv_at hl 3 rfl) ?_
  refine lv_iload_n hx hb dL_law_506 rfl (lv_at hl 0 rfl) ?_
  refine lv_iconst (v := 1) hx hb dL_law_507 (by decide +kernel) ?_
  refine lv_iadd hx hb dL_law_508 ?_
  refine va_sld hx hb hX hbl hbA hS (dk_inv2 (by omega)) dL_law_509 ?_
  refine dk_top (y := a1) ha1.symm ?_
  refine lw_calli hS (fun i _ => hoX i) hA (va_runV (As := [.int a1]) (rest := []) F (c_d_tubs l g D oX SX a1 Z1 Z2 Z3 Z4 Z6 I0 H.size) (cwV 1 hts (lw_V wB_1483 wB_1484 wB_1485 wB_610 wB_1482) rfl rfl rfl (by decide +kernel) ⟨Nat.le_of_ble_eq_true rfl, Nat.le_of_ble_eq_true rfl⟩) (dg_preV sX_0 rfl K ST hP hS (fun i _ => hoX i) hA) rfl rfl hl.1 rfl (lv_room (Nat.le_of_ble_eq_true rfl)) dL_law_510 ⟨Nat.le_of_ble_eq_true rfl, Nat.le_of_ble_eq_true rfl⟩) hM (lw_apX hO) (fun r1 S1 hw1 H locs hP hM hS => ?_)
  rw [hw1.1] at hP
  obtain ⟨-, w1_0, -⟩ := hw1
  refine lv_pop hx hb dL_law_513 rfl ?_
  refine lv_aload_n hx hb dL_law_514 rfl (lv_at hl 1 rfl) ?_
  refine lv_aload_n hx hb dL_law_515 rfl (lv_at hl 3 rfl) ?_
  refine lv_iload_n hx hb dL_law_516 rfl (lv_at hl 0 rfl) ?_
  refine lv_iconst (v := 1) hx hb dL_law_517 (by decide +kernel) ?_
  refine lv_iadd hx hb dL_law_518 ?_
  refine va_sld hx hb hX hbl hbA hS (dk_inv2 (by omega)) dL_law_519 ?_
  refine dk_top (y := a1) ha1.symm ?_
  refine lw_calli hS (fun i _ => hoM i) hA (va_runV (As := [.int a1]) (rest := []) F (c_m_tubs l g D oM SM a1 J0 H.size) (cwV 1 hts (lw_V wB_1487 wB_1488 wB_1489 wB_297 wB_1486) rfl rfl rfl (by decide +kernel) ⟨Nat.le_of_ble_eq_true rfl, Nat.le_of_ble_eq_true rfl⟩) (dg_preV sM_0 rfl K ST hM hS (fun i _ => hoM i) hA) rfl rfl hl.1 rfl (lv_room (Nat.le_of_ble_eq_true rfl)) dL_law_520 ⟨Nat.le_of_ble_eq_true rfl, Nat.le_of_ble_eq_true rfl⟩) hP (lw_apM hO) (fun r2 S2 hw2 H locs hM hP hS => ?_)
  rw [hw2.1] at hM
  obtain ⟨-, w2_0, -⟩ := hw2
  have eq9 := E_tubs LW0 w1_0 w2_0
  have LW1 := LW0
  refine lv_pop hx hb dL_law_523 rfl ?_
  refine lv_goto (tgt := 1126) hx hb dL_law_524 (dk_dq rfl) ?_
  exact kk SX SM H locs ls hP hM hS ⟨I0, Z1, Z2, Z3, Z4, Z6⟩ ⟨J0, ZB, ZS, ZW, ZD⟩ ⟨t, fX, fM, fun j hj => by exact hBY j hj⟩ ⟨_, _, LW1⟩ hl
set_option maxHeartbeats 8000000 in
set_option maxRecDepth 100000 in
theorem law_case_11 {p : Program} {e : Env} {s : State} {m : MethodId} {below : List Frame} {meth : Method} {c : Code} (l : Launch) {b L : Nat} {xs : Nat → Int32} {g : Nat → ClassId} {D : va_G} {A : Nat → Prop} {oX oM : Nat} (C : law_St p s m meth c b L xs g D A) (ST : dk_ST A s s.heap) (hO : oX + 380 ≤ oM) (hoX : ∀ i, A (oX + i)) (hoM : ∀ i, A (oM + i)) {H : Heap} {locs : List Loc} {ls : Array Slot} {SX SM : dg_S} (hP : va_P D vwCl (dg_w g shX oX rfX SX) H) (hM : va_P D vwCl (dg_w g shM oM rfM SM) H) (hS : va_S A s.heap H locs) (IX : law_X oX SX) (IM : law_M oM SM) (IT : law_T SX SM) (IL : law_L oX SX SM) {x : Int32} (hx0 : 0 ≤ x.toInt) (hxL : x.toInt + 6 ≤ L) (hL : L ≤ 3072) (hl : lv_has ls 4 [(3, .int x), (2, .ref (oM + 0)), (1, .ref (oX + 0)), (0, .ref b)])
    (kk : ∀ (SX SM : dg_S) (H : Heap) (locs : List Loc) (ls : Array Slot), va_P D vwCl (dg_w g shX oX rfX SX) H → va_P D vwCl (dg_w g shM oM rfM SM) H → va_S A s.heap H locs → law_X oX SX → law_M oM SM → law_T SX SM → law_L oX SX SM → lv_has ls 4 [(3, .int x), (2, .ref (oM + 0)), (1, .ref (oX + 0)), (0, .ref b)] → W p l e room_1 s m #[Value.ref b] below meth c H locs 431 78943 (lw_Z below #[Value.ref b] s) (F0 m 1126 ls [])) : W p l e room_1 s m #[Value.ref b] below meth c H locs 431 78943 (lw_Z below #[Value.ref b] s) (F0 m 527 ls []) := by
  obtain ⟨hx, hb, hr, hml, hown, hts, hX, hbl, hlocks, K, hA, hAi⟩ := C
  have hbA : ¬ A b := fun q => Nat.not_le.mpr hbl (hAi b q)
  have F : CallFix p m c cL_law 4 s #[Value.ref b] lw_tbl RL := ⟨hx, hb, hml, hown, hts⟩
  obtain ⟨I0, Z1, Z2, Z3, Z4, Z6⟩ := IX
  obtain ⟨J0, ZB, ZS, ZW, ZD⟩ := IM
  obtain ⟨t, fX, fM, hBY⟩ := IT
  obtain ⟨gD, gE, LW0⟩ := IL
  have hgD := LW0.2.2.2.1.1.1
  have hgE := LW0.2.2.2.1.1.2.1
  have hgne := LW0.2.2.2.1.1.2.2
  have fgD := LW0.2.2.2.1.2.1
  have fgE := LW0.2.2.2.1.2.2
  have b_t : 0 ≤ (t).toInt ∧ (t).toInt ≤ 1600 := dg_I.intb (lo := 0) (hi := 1600) I0 sX_1 (by decide +kernel) fX
  have i1 : (x + 1).toInt = x.toInt + 1 := dk_addT2 rfl (by decide +kernel) (by omega)
  obtain ⟨a1, ha1⟩ : ∃ a, a = xs (x + 1).toNatClampNeg := ⟨_, rfl⟩
  have i2 : (x + 2).toInt = x.toInt + 2 := dk_addT2 rfl (by decide +kernel) (by omega)
  obtain ⟨a2, ha2⟩ : ∃ a, a = xs (x + 2).toNatClampNeg := ⟨_, rfl⟩
  have i3 : (x + 3).toInt = x.toInt + 3 := dk_addT2 rfl (by decide +kernel) (by omega)
  obtain ⟨a3, ha3⟩ : ∃ a, a = xs (x + 3).toNatClampNeg := ⟨_, rfl⟩
  refine lv_aload_n hx hb dL_law_527 rfl (lv_at hl 2 rfl) ?_
  refine lv_aload_n hx hb dL_law_528 rfl (lv_at hl 3 rfl) ?_
  refine lv_iload_n hx hb dL_law_529 rfl (lv_at hl 0 rfl) ?_
  refine lv_iconst (v := 1) hx hb dL_law_530 (by decide +kernel) ?_
  refine lv_iadd hx hb dL_law_531 ?_
  refine va_sld hx hb hX hbl hbA hS (dk_inv2 (by omega)) dL_law_532 ?_
  refine dk_top (y := a1) ha1.symm ?_
  refine lv_aload_n hx hb dL_law_533 rfl (lv_at hl 3 rfl) ?_
  refine lv_iload_n hx hb dL_law_534 rfl (lv_at hl 0 rfl) ?_
  refine lv_iconst (v := 2) hx hb dL_law_535 (by decide +kernel) ?_
  refine lv_iadd hx hb dL_law_536 ?_
  refine va_sld hx hb hX hbl hbA hS (dk_inv2 (by omega)) dL_law_537 ?_
  refine dk_top (y := a2) ha2.symm ?_
  refine lv_aload_n hx hb dL_law_538 rfl (lv_at hl 3 rfl) ?_
  refine lv_iload_n hx hb dL_law_539 rfl (lv_at hl 0 rfl) ?_
  refine lv_iconst (v := 3) hx hb dL_law_540 (by decide +kernel) ?_
  refine lv_iadd hx hb dL_law_541 ?_
  refine va_sld hx hb hX hbl hbA hS (dk_inv2 (by omega)) dL_law_542 ?_
  refine dk_top (y := a3) ha3.symm ?_
  refine lw_calli hS (fun i _ => hoX i) hA (va_runV (As := [.int a1, .int a2, .int a3]) (rest := []) F (c_d_later l g D oX SX a1 a2 a3 Z1 Z2 Z3 Z4 Z6 I0 H.size) (cwV 3 hts (lw_V wB_1491 wB_1492 wB_1493 wB_610 wB_1490) rfl rfl rfl (by decide +kernel) ⟨Nat.le_of_ble_eq_true rfl, Nat.le_of_ble_eq_true rfl⟩) (dg_preV sX_0 rfl K ST hP hS (fun i _ => hoX i) hA) rfl rfl hl.1 rfl (lv_room (Nat.le_of_ble_eq_true rfl)) dL_law_543 ⟨Nat.le_of_ble_eq_true rfl, Nat.le_of_ble_eq_true rfl⟩) hM (lw_apX hO) (fun r1 S1 hw1 H locs hP hM hS => ?_)
  obtain ⟨I1, m1, w1_0, w1_1, w1_2, w1_3, w1_4, w1_5, w1_6, -⟩ := hw1
  have Z1_1 : Z1X S1 := (Z1X.keep Z1 m1 (dk_dq rfl) (dk_dq rfl) (dk_dq rfl))
  have Z2_1 : Z2X S1 := w1_1
  have Z3_1 : Z3X oX S1 := w1_2
  have Z4_1 : Z4X S1 := w1_3
  have Z6_1 : Z6X S1 := w1_4
  have br1 : (-1) ≤ (r1).toInt ∧ (r1).toInt ≤ 9 := w1_0
  have fX_1 : S1.1 1 1 = .int t := (m1.1 1 1 _ sX_1 (dk_dq rfl)).trans fX
  as_aux_lemma =>
    refine lv_pop hx hb dL_law_546 rfl ?_
    refine lv_aload_n hx hb dL_law_547 rfl (lv_at hl 1 rfl) ?_
    refine lv_aload_n hx hb dL_law_548 rfl (lv_at hl 3 rfl) ?_
    refine lv_iload_n hx hb dL_law_549 rfl (lv_at hl 0 rfl) ?_
    refine lv_iconst (v := 1) hx hb dL_law_550 (by decide +kernel) ?_
    refine lv_iadd hx hb dL_law_551 ?_
    refine va_sld hx hb hX hbl hbA hS (dk_inv2 (by omega)) dL_law_552 ?_
    refine dk_top (y := a1) ha1.symm ?_
    refine lv_aload_n hx hb dL_law_553 rfl (lv_at hl 3 rfl) ?_
    refine lv_iload_n hx hb dL_law_554 rfl (lv_at hl 0 rfl) ?_
    refine lv_iconst (v := 2) hx hb dL_law_555 (by decide +kernel) ?_
    refine lv_iadd hx hb dL_law_556 ?_
    refine va_sld hx hb hX hbl hbA hS (dk_inv2 (by omega)) dL_law_557 ?_
    refine dk_top (y := a2) ha2.symm ?_
    refine lv_aload_n hx hb dL_law_558 rfl (lv_at hl 3 rfl) ?_
    refine lv_iload_n hx hb dL_law_559 rfl (lv_at hl 0 rfl) ?_
    refine lv_iconst (v := 3) hx hb dL_law_560 (by decide +kernel) ?_
    refine lv_iadd hx hb dL_law_561 ?_
    refine va_sld hx hb hX hbl hbA hS (dk_inv2 (by omega)) dL_law_562 ?_
    refine dk_top (y := a3) ha3.symm ?_
    refine lw_calli hS (fun i _ => hoM i) hA (va_runV (As := [.int a1, .int a2, .int a3]) (rest := []) F (c_m_later l g D oM SM a1 a2 a3 ZB ZS ZW J0 H.size) (cwV 3 hts (lw_V wB_1495 wB_1496 wB_1497 wB_297 wB_1494) rfl rfl rfl (by decide +kernel) ⟨Nat.le_of_ble_eq_true rfl, Nat.le_of_ble_eq_true rfl⟩) (dg_preV sM_0 rfl K ST hM hS (fun i _ => hoM i) hA) rfl rfl hl.1 rfl (lv_room (Nat.le_of_ble_eq_true rfl)) dL_law_563 ⟨Nat.le_of_ble_eq_true rfl, Nat.le_of_ble_eq_true rfl⟩) hP (lw_apM hO) (fun r2 S2 hw2 H locs hM hP hS => ?_)
    obtain ⟨I2, m2, w2_0, w2_1, w2_2, -⟩ := hw2
    have ZB_2 : ZBM S2 := (ZBM.keep ZB m2 (dk_dq rfl) (dk_dq rfl) (dk_dq rfl) (dk_dq rfl) (dk_dq rfl))
    have ZS_2 : ZSM S2 := w2_1
    have ZW_2 : ZWM S2 := (ZWM.keep ZW m2 (dk_dq rfl) (dk_dq rfl) (dk_dq rfl) (dk_dq rfl))
    have ZD_2 : ZDM S2 := (ZDM.keep ZD m2 (dk_dq rfl))
    have br2 : (-1) ≤ (r2).toInt ∧ (r2).toInt ≤ 9 := w2_0
    have fM_2 : S2.1 0 1 = .int t := (m2.1 0 1 _ sM_0 (dk_dq rfl)).trans fM
    obtain ⟨eq9, LW1⟩ := W_later LW0 m1 m2 (by (repeat' apply And.intro) <;> decide) w1_6 w2_2
    refine lv_pop hx hb dL_law_566 rfl ?_
    refine lv_goto (tgt := 1126) hx hb dL_law_567 (dk_dq rfl) ?_
    exact kk S1 S2 H locs ls hP hM hS ⟨I1, Z1_1, Z2_1, Z3_1, Z4_1, Z6_1⟩ ⟨I2, ZB_2, ZS_2, ZW_2, ZD_2⟩ ⟨t, fX_1, fM_2, fun j hj => by rw [(m1.2 2 _ sX_2 (dk_dq rfl)).1, (m2.2 1 _ sM_1 (dk_dq rfl)).1]; exact hBY j hj⟩ ⟨_, _, LW1⟩ hl
set_option maxHeartbeats 8000000 in
set_option maxRecDepth 100000 in
theorem law_case_12 {p : Program} {e : Env} {s : State} {m : MethodId} {below : List Frame} {meth : Method} {c : Code} (l : Launch) {b L : Nat} {xs : Nat → Int32} {g : Nat → ClassId} {D : va_G} {A : Nat → Prop} {oX oM : Nat} (C : law_St p s m meth c b L xs g D A) (ST : dk_ST A s s.heap) (hO : oX + 380 ≤ oM) (hoX : ∀ i, A (oX + i)) (hoM : ∀ i, A (oM + i)) {H : Heap} {locs : List Loc} {ls : Array Slot} {SX SM : dg_S} (hP : va_P D vwCl (dg_w g shX oX rfX SX) H) (hM : va_P D vwCl (dg_w g shM oM rfM SM) H) (hS : va_S A s.heap H locs) (IX : law_X oX SX) (IM : law_M oM SM) (IT : law_T SX SM) (IL : law_L oX SX SM) {x : Int32} (hx0 : 0 ≤ x.toInt) (hxL : x.toInt + 6 ≤ L) (hL : L ≤ 3072) (hl : lv_has ls 4 [(3, .int x), (2, .ref (oM + 0)), (1, .ref (oX + 0)), (0, .ref b)])
    (kk : ∀ (SX SM : dg_S) (H : Heap) (locs : List Loc) (ls : Array Slot), va_P D vwCl (dg_w g shX oX rfX SX) H → va_P D vwCl (dg_w g shM oM rfM SM) H → va_S A s.heap H locs → law_X oX SX → law_M oM SM → law_T SX SM → law_L oX SX SM → lv_has ls 4 [(3, .int x), (2, .ref (oM + 0)), (1, .ref (oX + 0)), (0, .ref b)] → W p l e room_1 s m #[Value.ref b] below meth c H locs 431 78943 (lw_Z below #[Value.ref b] s) (F0 m 1126 ls [])) : W p l e room_1 s m #[Value.ref b] below meth c H locs 431 78943 (lw_Z below #[Value.ref b] s) (F0 m 570 ls []) := by
  obtain ⟨hx, hb, hr, hml, hown, hts, hX, hbl, hlocks, K, hA, hAi⟩ := C
  have hbA : ¬ A b := fun q => Nat.not_le.mpr hbl (hAi b q)
  have F : CallFix p m c cL_law 4 s #[Value.ref b] lw_tbl RL := ⟨hx, hb, hml, hown, hts⟩
  obtain ⟨I0, Z1, Z2, Z3, Z4, Z6⟩ := IX
  obtain ⟨J0, ZB, ZS, ZW, ZD⟩ := IM
  obtain ⟨t, fX, fM, hBY⟩ := IT
  obtain ⟨gD, gE, LW0⟩ := IL
  have hgD := LW0.2.2.2.1.1.1
  have hgE := LW0.2.2.2.1.1.2.1
  have hgne := LW0.2.2.2.1.1.2.2
  have fgD := LW0.2.2.2.1.2.1
  have fgE := LW0.2.2.2.1.2.2
  have b_t : 0 ≤ (t).toInt ∧ (t).toInt ≤ 1600 := dg_I.intb (lo := 0) (hi := 1600) I0 sX_1 (by decide +kernel) fX
  have i1 : (x + 1).toInt = x.toInt + 1 := dk_addT2 rfl (by decide +kernel) (by omega)
  obtain ⟨a1, ha1⟩ : ∃ a, a = xs (x + 1).toNatClampNeg := ⟨_, rfl⟩
  have i2 : (x + 2).toInt = x.toInt + 2 := dk_addT2 rfl (by decide +kernel) (by omega)
  obtain ⟨a2, ha2⟩ : ∃ a, a = xs (x + 2).toNatClampNeg := ⟨_, rfl⟩
  refine lv_aload_n hx hb dL_law_570 rfl (lv_at hl 2 rfl) ?_
  refine lv_aload_n hx hb dL_law_571 rfl (lv_at hl 3 rfl) ?_
  refine lv_iload_n hx hb dL_law_572 rfl (lv_at hl 0 rfl) ?_
  refine lv_iconst (v := 1) hx hb dL_law_573 (by decide +kernel) ?_
  refine lv_iadd hx hb dL_law_574 ?_
  refine va_sld hx hb hX hbl hbA hS (dk_inv2 (by omega)) dL_law_575 ?_
  refine dk_top (y := a1) ha1.symm ?_
  refine lv_aload_n hx hb dL_law_576 rfl (lv_at hl 3 rfl) ?_
  refine lv_iload_n hx hb dL_law_577 rfl (lv_at hl 0 rfl) ?_
  refine lv_iconst (v := 2) hx hb dL_law_578 (by decide +kernel) ?_
  refine lv_iadd hx hb dL_law_579 ?_
  refine va_sld hx hb hX hbl hbA hS (dk_inv2 (by omega)) dL_law_580 ?_
  refine dk_top (y := a2) ha2.symm ?_
  refine lw_calli hS (fun i _ => hoX i) hA (va_runV (As := [.int a1, .int a2]) (rest := []) F (c_d_opens l g D oX SX a1 a2 Z1 Z2 Z3 Z4 Z6 I0 H.size) (cwV 2 hts (lw_V wB_1499 wB_1500 wB_1501 wB_610 wB_1498) rfl rfl rfl (by decide +kernel) ⟨Nat.le_of_ble_eq_true rfl, Nat.le_of_ble_eq_true rfl⟩) (dg_preV sX_0 rfl K ST hP hS (fun i _ => hoX i) hA) rfl rfl hl.1 rfl (lv_room (Nat.le_of_ble_eq_true rfl)) dL_law_581 ⟨Nat.le_of_ble_eq_true rfl, Nat.le_of_ble_eq_true rfl⟩) hM (lw_apX hO) (fun r1 S1 hw1 H locs hP hM hS => ?_)
  obtain ⟨I1, m1, w1_0, w1_1, w1_2, w1_3, w1_4, w1_5, w1_6, -⟩ := hw1
  have Z1_1 : Z1X S1 := (Z1X.keep Z1 m1 (dk_dq rfl) (dk_dq rfl) (dk_dq rfl))
  have Z2_1 : Z2X S1 := w1_1
  have Z3_1 : Z3X oX S1 := w1_2
  have Z4_1 : Z4X S1 := w1_3
  have Z6_1 : Z6X S1 := w1_4
  have br1 : (-1) ≤ (r1).toInt ∧ (r1).toInt ≤ 40 := w1_0
  have fX_1 : S1.1 1 1 = .int t := (m1.1 1 1 _ sX_1 (dk_dq rfl)).trans fX
  refine lv_pop hx hb dL_law_584 rfl ?_
  as_aux_lemma =>
    refine lv_aload_n hx hb dL_law_585 rfl (lv_at hl 1 rfl) ?_
    refine lv_aload_n hx hb dL_law_586 rfl (lv_at hl 3 rfl) ?_
    refine lv_iload_n hx hb dL_law_587 rfl (lv_at hl 0 rfl) ?_
    refine lv_iconst (v := 1) hx hb dL_law_588 (by decide +kernel) ?_
    refine lv_iadd hx hb dL_law_589 ?_
    refine va_sld hx hb hX hbl hbA hS (dk_inv2 (by omega)) dL_law_590 ?_
    refine dk_top (y := a1) ha1.symm ?_
    refine lv_aload_n hx hb dL_law_591 rfl (lv_at hl 3 rfl) ?_
    refine lv_iload_n hx hb dL_law_592 rfl (lv_at hl 0 rfl) ?_
    refine lv_iconst (v := 2) hx hb dL_law_593 (by decide +kernel) ?_
    refine lv_iadd hx hb dL_law_594 ?_
    refine va_sld hx hb hX hbl hbA hS (dk_inv2 (by omega)) dL_law_595 ?_
    refine dk_top (y := a2) ha2.symm ?_
    refine lw_calli hS (fun i _ => hoM i) hA (va_runV (As := [.int a1, .int a2]) (rest := []) F (c_m_opens l g D oM SM a1 a2 ZB ZS ZW J0 H.size) (cwV 2 hts (lw_V wB_1503 wB_1504 wB_1505 wB_297 wB_1502) rfl rfl rfl (by decide +kernel) ⟨Nat.le_of_ble_eq_true rfl, Nat.le_of_ble_eq_true rfl⟩) (dg_preV sM_0 rfl K ST hM hS (fun i _ => hoM i) hA) rfl rfl hl.1 rfl (lv_room (Nat.le_of_ble_eq_true rfl)) dL_law_596 ⟨Nat.le_of_ble_eq_true rfl, Nat.le_of_ble_eq_true rfl⟩) hP (lw_apM hO) (fun r2 S2 hw2 H locs hM hP hS => ?_)
    obtain ⟨I2, m2, w2_0, w2_1, w2_2, -⟩ := hw2
    have ZB_2 : ZBM S2 := (ZBM.keep ZB m2 (dk_dq rfl) (dk_dq rfl) (dk_dq rfl) (dk_dq rfl) (dk_dq rfl))
    have ZS_2 : ZSM S2 := w2_1
    have ZW_2 : ZWM S2 := (ZWM.keep ZW m2 (dk_dq rfl) (dk_dq rfl) (dk_dq rfl) (dk_dq rfl))
    have ZD_2 : ZDM S2 := (ZDM.keep ZD m2 (dk_dq rfl))
    have br2 : (-1) ≤ (r2).toInt ∧ (r2).toInt ≤ 40 := w2_0
    have fM_2 : S2.1 0 1 = .int t := (m2.1 0 1 _ sM_0 (dk_dq rfl)).trans fM
    obtain ⟨eq9, LW1⟩ := W_opens LW0 m1 m2 (by (repeat' apply And.intro) <;> decide) w1_6 w2_2
    refine lv_pop hx hb dL_law_599 rfl ?_
    refine lv_goto (tgt := 1126) hx hb dL_law_600 (dk_dq rfl) ?_
    exact kk S1 S2 H locs ls hP hM hS ⟨I1, Z1_1, Z2_1, Z3_1, Z4_1, Z6_1⟩ ⟨I2, ZB_2, ZS_2, ZW_2, ZD_2⟩ ⟨t, fX_1, fM_2, fun j hj => by rw [(m1.2 2 _ sX_2 (dk_dq rfl)).1, (m2.2 1 _ sM_1 (dk_dq rfl)).1]; exact hBY j hj⟩ ⟨_, _, LW1⟩ hl
set_option maxHeartbeats 8000000 in
set_option maxRecDepth 100000 in
theorem law_case_13 {p : Program} {e : Env} {s : State} {m : MethodId} {below : List Frame} {meth : Method} {c : Code} (l : Launch) {b L : Nat} {xs : Nat → Int32} {g : Nat → ClassId} {D : va_G} {A : Nat → Prop} {oX oM : Nat} (C : law_St p s m meth c b L xs g D A) (ST : dk_ST A s s.heap) (hO : oX + 380 ≤ oM) (hoX : ∀ i, A (oX + i)) (hoM : ∀ i, A (oM + i)) {H : Heap} {locs : List Loc} {ls : Array Slot} {SX SM : dg_S} (hP : va_P D vwCl (dg_w g shX oX rfX SX) H) (hM : va_P D vwCl (dg_w g shM oM rfM SM) H) (hS : va_S A s.heap H locs) (IX : law_X oX SX) (IM : law_M oM SM) (IT : law_T SX SM) (IL : law_L oX SX SM) {x : Int32} (hx0 : 0 ≤ x.toInt) (hxL : x.toInt + 6 ≤ L) (hL : L ≤ 3072) (hl : lv_has ls 4 [(3, .int x), (2, .ref (oM + 0)), (1, .ref (oX + 0)), (0, .ref b)])
    (kk : ∀ (SX SM : dg_S) (H : Heap) (locs : List Loc) (ls : Array Slot), va_P D vwCl (dg_w g shX oX rfX SX) H → va_P D vwCl (dg_w g shM oM rfM SM) H → va_S A s.heap H locs → law_X oX SX → law_M oM SM → law_T SX SM → law_L oX SX SM → lv_has ls 4 [(3, .int x), (2, .ref (oM + 0)), (1, .ref (oX + 0)), (0, .ref b)] → W p l e room_1 s m #[Value.ref b] below meth c H locs 431 78943 (lw_Z below #[Value.ref b] s) (F0 m 1126 ls [])) : W p l e room_1 s m #[Value.ref b] below meth c H locs 431 78943 (lw_Z below #[Value.ref b] s) (F0 m 603 ls []) := by
  obtain ⟨hx, hb, hr, hml, hown, hts, hX, hbl, hlocks, K, hA, hAi⟩ := C
  have hbA : ¬ A b := fun q => Nat.not_le.mpr hbl (hAi b q)
  have F : CallFix p m c cL_law 4 s #[Value.ref b] lw_tbl RL := ⟨hx, hb, hml, hown, hts⟩
  obtain ⟨I0, Z1, Z2, Z3, Z4, Z6⟩ := IX
  obtain ⟨J0, ZB, ZS, ZW, ZD⟩ := IM
  obtain ⟨t, fX, fM, hBY⟩ := IT
  obtain ⟨gD, gE, LW0⟩ := IL
  have hgD := LW0.2.2.2.1.1.1
  have hgE := LW0.2.2.2.1.1.2.1
  have hgne := LW0.2.2.2.1.1.2.2
  have fgD := LW0.2.2.2.1.2.1
  have fgE := LW0.2.2.2.1.2.2
  have b_t : 0 ≤ (t).toInt ∧ (t).toInt ≤ 1600 := dg_I.intb (lo := 0) (hi := 1600) I0 sX_1 (by decide +kernel) fX
  have i1 : (x + 1).toInt = x.toInt + 1 := dk_addT2 rfl (by decide +kernel) (by omega)
  obtain ⟨a1, ha1⟩ : ∃ a, a = xs (x + 1).toNatClampNeg := ⟨_, rfl⟩
  refine lv_aload_n hx hb dL_law_603 rfl (lv_at hl 2 rfl) ?_
  refine lv_aload_n hx hb dL_law_604 rfl (lv_at hl 3 rfl) ?_
  refine lv_iload_n hx hb dL_law_605 rfl (lv_at hl 0 rfl) ?_
  refine lv_iconst (v := 1) hx hb dL_law_606 (by decide +kernel) ?_
  refine lv_iadd hx hb dL_law_607 ?_
  refine va_sld hx hb hX hbl hbA hS (dk_inv2 (by omega)) dL_law_608 ?_
  refine dk_top (y := a1) ha1.symm ?_
  refine lw_calli hS (fun i _ => hoX i) hA (va_runV (As := [.int a1]) (rest := []) F (c_d_worth l g D oX SX a1 Z1 Z2 Z3 Z4 Z6 I0 H.size) (cwV 1 hts (lw_V wB_1507 wB_1508 wB_1509 wB_610 wB_1506) rfl rfl rfl (by decide +kernel) ⟨Nat.le_of_ble_eq_true rfl, Nat.le_of_ble_eq_true rfl⟩) (dg_preV sX_0 rfl K ST hP hS (fun i _ => hoX i) hA) rfl rfl hl.1 rfl (lv_room (Nat.le_of_ble_eq_true rfl)) dL_law_609 ⟨Nat.le_of_ble_eq_true rfl, Nat.le_of_ble_eq_true rfl⟩) hM (lw_apX hO) (fun r1 S1 hw1 H locs hP hM hS => ?_)
  obtain ⟨I1, m1, w1_0, w1_1, w1_2, w1_3, w1_4, w1_5, -⟩ := hw1
  have Z1_1 : Z1X S1 := (Z1X.keep Z1 m1 (dk_dq rfl) (dk_dq rfl) (dk_dq rfl))
  have Z2_1 : Z2X S1 := w1_0
  have Z3_1 : Z3X oX S1 := w1_1
  have Z4_1 : Z4X S1 := w1_2
  have Z6_1 : Z6X S1 := w1_3
  have fX_1 : S1.1 1 1 = .int t := (m1.1 1 1 _ sX_1 (dk_dq rfl)).trans fX
  refine lv_pop hx hb dL_law_612 rfl ?_
  refine lv_aload_n hx hb dL_law_613 rfl (lv_at hl 1 rfl) ?_
  refine lv_aload_n hx hb dL_law_614 rfl (lv_at hl 3 rfl) ?_
  refine lv_iload_n hx hb dL_law_615 rfl (lv_at hl 0 rfl) ?_
  refine lv_iconst (v := 1) hx hb dL_law_616 (by decide +kernel) ?_
  refine lv_iadd hx hb dL_law_617 ?_
  refine va_sld hx hb hX hbl hbA hS (dk_inv2 (by omega)) dL_law_618 ?_
  refine dk_top (y := a1) ha1.symm ?_
  refine lw_calli hS (fun i _ => hoM i) hA (va_runV (As := [.int a1]) (rest := []) F (c_m_worth l g D oM SM a1 ZB ZS ZW J0 H.size) (cwV 1 hts (lw_V wB_1511 wB_1512 wB_1513 wB_297 wB_1510) rfl rfl rfl (by decide +kernel) ⟨Nat.le_of_ble_eq_true rfl, Nat.le_of_ble_eq_true rfl⟩) (dg_preV sM_0 rfl K ST hM hS (fun i _ => hoM i) hA) rfl rfl hl.1 rfl (lv_room (Nat.le_of_ble_eq_true rfl)) dL_law_619 ⟨Nat.le_of_ble_eq_true rfl, Nat.le_of_ble_eq_true rfl⟩) hP (lw_apM hO) (fun r2 S2 hw2 H locs hM hP hS => ?_)
  obtain ⟨I2, m2, w2_0, w2_1, -⟩ := hw2
  have ZB_2 : ZBM S2 := (ZBM.keep ZB m2 (dk_dq rfl) (dk_dq rfl) (dk_dq rfl) (dk_dq rfl) (dk_dq rfl))
  have ZS_2 : ZSM S2 := w2_0
  have ZW_2 : ZWM S2 := (ZWM.keep ZW m2 (dk_dq rfl) (dk_dq rfl) (dk_dq rfl) (dk_dq rfl))
  have ZD_2 : ZDM S2 := (ZDM.keep ZD m2 (dk_dq rfl))
  have fM_2 : S2.1 0 1 = .int t := (m2.1 0 1 _ sM_0 (dk_dq rfl)).trans fM
  obtain ⟨eq9, LW1⟩ := W_worth LW0 m1 m2 (by (repeat' apply And.intro) <;> decide) w1_5 w2_1
  refine lv_pop hx hb dL_law_622 rfl ?_
  refine lv_goto (tgt := 1126) hx hb dL_law_623 (dk_dq rfl) ?_
  exact kk S1 S2 H locs ls hP hM hS ⟨I1, Z1_1, Z2_1, Z3_1, Z4_1, Z6_1⟩ ⟨I2, ZB_2, ZS_2, ZW_2, ZD_2⟩ ⟨t, fX_1, fM_2, fun j hj => by rw [(m1.2 2 _ sX_2 (dk_dq rfl)).1, (m2.2 1 _ sM_1 (dk_dq rfl)).1]; exact hBY j hj⟩ ⟨_, _, LW1⟩ hl
set_option maxHeartbeats 8000000 in
set_option maxRecDepth 100000 in
theorem law_case_14 {p : Program} {e : Env} {s : State} {m : MethodId} {below : List Frame} {meth : Method} {c : Code} (l : Launch) {b L : Nat} {xs : Nat → Int32} {g : Nat → ClassId} {D : va_G} {A : Nat → Prop} {oX oM : Nat} (C : law_St p s m meth c b L xs g D A) (ST : dk_ST A s s.heap) (hO : oX + 380 ≤ oM) (hoX : ∀ i, A (oX + i)) (hoM : ∀ i, A (oM + i)) {H : Heap} {locs : List Loc} {ls : Array Slot} {SX SM : dg_S} (hP : va_P D vwCl (dg_w g shX oX rfX SX) H) (hM : va_P D vwCl (dg_w g shM oM rfM SM) H) (hS : va_S A s.heap H locs) (IX : law_X oX SX) (IM : law_M oM SM) (IT : law_T SX SM) (IL : law_L oX SX SM) {x : Int32} (hx0 : 0 ≤ x.toInt) (hxL : x.toInt + 6 ≤ L) (hL : L ≤ 3072) (hl : lv_has ls 4 [(3, .int x), (2, .ref (oM + 0)), (1, .ref (oX + 0)), (0, .ref b)])
    (kk : ∀ (SX SM : dg_S) (H : Heap) (locs : List Loc) (ls : Array Slot), va_P D vwCl (dg_w g shX oX rfX SX) H → va_P D vwCl (dg_w g shM oM rfM SM) H → va_S A s.heap H locs → law_X oX SX → law_M oM SM → law_T SX SM → law_L oX SX SM → lv_has ls 4 [(3, .int x), (2, .ref (oM + 0)), (1, .ref (oX + 0)), (0, .ref b)] → W p l e room_1 s m #[Value.ref b] below meth c H locs 431 78943 (lw_Z below #[Value.ref b] s) (F0 m 1126 ls [])) : W p l e room_1 s m #[Value.ref b] below meth c H locs 431 78943 (lw_Z below #[Value.ref b] s) (F0 m 626 ls []) := by
  obtain ⟨hx, hb, hr, hml, hown, hts, hX, hbl, hlocks, K, hA, hAi⟩ := C
  have hbA : ¬ A b := fun q => Nat.not_le.mpr hbl (hAi b q)
  have F : CallFix p m c cL_law 4 s #[Value.ref b] lw_tbl RL := ⟨hx, hb, hml, hown, hts⟩
  obtain ⟨I0, Z1, Z2, Z3, Z4, Z6⟩ := IX
  obtain ⟨J0, ZB, ZS, ZW, ZD⟩ := IM
  obtain ⟨t, fX, fM, hBY⟩ := IT
  obtain ⟨gD, gE, LW0⟩ := IL
  have hgD := LW0.2.2.2.1.1.1
  have hgE := LW0.2.2.2.1.1.2.1
  have hgne := LW0.2.2.2.1.1.2.2
  have fgD := LW0.2.2.2.1.2.1
  have fgE := LW0.2.2.2.1.2.2
  have b_t : 0 ≤ (t).toInt ∧ (t).toInt ≤ 1600 := dg_I.intb (lo := 0) (hi := 1600) I0 sX_1 (by decide +kernel) fX
  have i1 : (x + 1).toInt = x.toInt + 1 := dk_addT2 rfl (by decide +kernel) (by omega)
  obtain ⟨a1, ha1⟩ : ∃ a, a = xs (x + 1).toNatClampNeg := ⟨_, rfl⟩
  have i2 : (x + 2).toInt = x.toInt + 2 := dk_addT2 rfl (by decide +kernel) (by omega)
  obtain ⟨a2, ha2⟩ : ∃ a, a = xs (x + 2).toNatClampNeg := ⟨_, rfl⟩
  refine lv_aload_n hx hb dL_law_626 rfl (lv_at hl 2 rfl) ?_
  refine lv_aload_n hx hb dL_law_627 rfl (lv_at hl 3 rfl) ?_
  refine lv_iload_n hx hb dL_law_628 rfl (lv_at hl 0 rfl) ?_
  refine lv_iconst (v := 1) hx hb dL_law_629 (by decide +kernel) ?_
  refine lv_iadd hx hb dL_law_630 ?_
  refine va_sld hx hb hX hbl hbA hS (dk_inv2 (by omega)) dL_law_631 ?_
  refine dk_top (y := a1) ha1.symm ?_
  refine lv_aload_n hx hb dL_law_632 rfl (lv_at hl 3 rfl) ?_
  refine lv_iload_n hx hb dL_law_633 rfl (lv_at hl 0 rfl) ?_
  refine lv_iconst (v := 2) hx hb dL_law_634 (by decide +kernel) ?_
  refine lv_iadd hx hb dL_law_635 ?_
  refine va_sld hx hb hX hbl hbA hS (dk_inv2 (by omega)) dL_law_636 ?_
  refine dk_top (y := a2) ha2.symm ?_
  refine lw_calli hS (fun i _ => hoX i) hA (va_runV (As := [.int a1, .int a2]) (rest := []) F (c_d_shade l g D oX SX a1 a2 Z1 Z2 Z3 Z4 Z6 I0 H.size) (cwV 2 hts (lw_V wB_1515 wB_1516 wB_1517 wB_610 wB_1514) rfl rfl rfl (by decide +kernel) ⟨Nat.le_of_ble_eq_true rfl, Nat.le_of_ble_eq_true rfl⟩) (dg_preV sX_0 rfl K ST hP hS (fun i _ => hoX i) hA) rfl rfl hl.1 rfl (lv_room (Nat.le_of_ble_eq_true rfl)) dL_law_637 ⟨Nat.le_of_ble_eq_true rfl, Nat.le_of_ble_eq_true rfl⟩) hM (lw_apX hO) (fun r1 S1 hw1 H locs hP hM hS => ?_)
  obtain ⟨I1, m1, w1_0, w1_1, w1_2, w1_3, w1_4, w1_5, -⟩ := hw1
  have Z1_1 : Z1X S1 := (Z1X.keep Z1 m1 (dk_dq rfl) (dk_dq rfl) (dk_dq rfl))
  have Z2_1 : Z2X S1 := w1_0
  have Z3_1 : Z3X oX S1 := w1_1
  have Z4_1 : Z4X S1 := w1_2
  have Z6_1 : Z6X S1 := w1_3
  have fX_1 : S1.1 1 1 = .int t := (m1.1 1 1 _ sX_1 (dk_dq rfl)).trans fX
  refine lv_pop hx hb dL_law_640 rfl ?_
  refine lv_aload_n hx hb dL_law_641 rfl (lv_at hl 1 rfl) ?_
  as_aux_lemma =>
    refine lv_aload_n hx hb dL_law_642 rfl (lv_at hl 3 rfl) ?_
    refine lv_iload_n hx hb dL_law_643 rfl (lv_at hl 0 rfl) ?_
    refine lv_iconst (v := 1) hx hb dL_law_644 (by decide +kernel) ?_
    refine lv_iadd hx hb dL_law_645 ?_
    refine va_sld hx hb hX hbl hbA hS (dk_inv2 (by omega)) dL_law_646 ?_
    refine dk_top (y := a1) ha1.symm ?_
    refine lv_aload_n hx hb dL_law_647 rfl (lv_at hl 3 rfl) ?_
    refine lv_iload_n hx hb dL_law_648 rfl (lv_at hl 0 rfl) ?_
    refine lv_iconst (v := 2) hx hb dL_law_649 (by decide +kernel) ?_
    refine lv_iadd hx hb dL_law_650 ?_
    refine va_sld hx hb hX hbl hbA hS (dk_inv2 (by omega)) dL_law_651 ?_
    refine dk_top (y := a2) ha2.symm ?_
    refine lw_calli hS (fun i _ => hoM i) hA (va_runV (As := [.int a1, .int a2]) (rest := []) F (c_m_shade l g D oM SM a1 a2 ZB ZS ZW J0 H.size) (cwV 2 hts (lw_V wB_1519 wB_1520 wB_1521 wB_297 wB_1518) rfl rfl rfl (by decide +kernel) ⟨Nat.le_of_ble_eq_true rfl, Nat.le_of_ble_eq_true rfl⟩) (dg_preV sM_0 rfl K ST hM hS (fun i _ => hoM i) hA) rfl rfl hl.1 rfl (lv_room (Nat.le_of_ble_eq_true rfl)) dL_law_652 ⟨Nat.le_of_ble_eq_true rfl, Nat.le_of_ble_eq_true rfl⟩) hP (lw_apM hO) (fun r2 S2 hw2 H locs hM hP hS => ?_)
    obtain ⟨I2, m2, w2_0, w2_1, -⟩ := hw2
    have ZB_2 : ZBM S2 := (ZBM.keep ZB m2 (dk_dq rfl) (dk_dq rfl) (dk_dq rfl) (dk_dq rfl) (dk_dq rfl))
    have ZS_2 : ZSM S2 := w2_0
    have ZW_2 : ZWM S2 := (ZWM.keep ZW m2 (dk_dq rfl) (dk_dq rfl) (dk_dq rfl) (dk_dq rfl))
    have ZD_2 : ZDM S2 := (ZDM.keep ZD m2 (dk_dq rfl))
    have fM_2 : S2.1 0 1 = .int t := (m2.1 0 1 _ sM_0 (dk_dq rfl)).trans fM
    obtain ⟨eq9, LW1⟩ := W_shade LW0 m1 m2 (by (repeat' apply And.intro) <;> decide) w1_5 w2_1
    refine lv_pop hx hb dL_law_655 rfl ?_
    refine lv_goto (tgt := 1126) hx hb dL_law_656 (dk_dq rfl) ?_
    exact kk S1 S2 H locs ls hP hM hS ⟨I1, Z1_1, Z2_1, Z3_1, Z4_1, Z6_1⟩ ⟨I2, ZB_2, ZS_2, ZW_2, ZD_2⟩ ⟨t, fX_1, fM_2, fun j hj => by rw [(m1.2 2 _ sX_2 (dk_dq rfl)).1, (m2.2 1 _ sM_1 (dk_dq rfl)).1]; exact hBY j hj⟩ ⟨_, _, LW1⟩ hl
set_option maxHeartbeats 8000000 in
set_option maxRecDepth 100000 in
theorem law_case_15 {p : Program} {e : Env} {s : State} {m : MethodId} {below : List Frame} {meth : Method} {c : Code} (l : Launch) {b L : Nat} {xs : Nat → Int32} {g : Nat → ClassId} {D : va_G} {A : Nat → Prop} {oX oM : Nat} (C : law_St p s m meth c b L xs g D A) (ST : dk_ST A s s.heap) (hO : oX + 380 ≤ oM) (hoX : ∀ i, A (oX + i)) (hoM : ∀ i, A (oM + i)) {H : Heap} {locs : List Loc} {ls : Array Slot} {SX SM : dg_S} (hP : va_P D vwCl (dg_w g shX oX rfX SX) H) (hM : va_P D vwCl (dg_w g shM oM rfM SM) H) (hS : va_S A s.heap H locs) (IX : law_X oX SX) (IM : law_M oM SM) (IT : law_T SX SM) (IL : law_L oX SX SM) {x : Int32} (hx0 : 0 ≤ x.toInt) (hxL : x.toInt + 6 ≤ L) (hL : L ≤ 3072) (hl : lv_has ls 4 [(3, .int x), (2, .ref (oM + 0)), (1, .ref (oX + 0)), (0, .ref b)])
    (kk : ∀ (SX SM : dg_S) (H : Heap) (locs : List Loc) (ls : Array Slot), va_P D vwCl (dg_w g shX oX rfX SX) H → va_P D vwCl (dg_w g shM oM rfM SM) H → va_S A s.heap H locs → law_X oX SX → law_M oM SM → law_T SX SM → law_L oX SX SM → lv_has ls 4 [(3, .int x), (2, .ref (oM + 0)), (1, .ref (oX + 0)), (0, .ref b)] → W p l e room_1 s m #[Value.ref b] below meth c H locs 431 78943 (lw_Z below #[Value.ref b] s) (F0 m 1126 ls [])) : W p l e room_1 s m #[Value.ref b] below meth c H locs 431 78943 (lw_Z below #[Value.ref b] s) (F0 m 659 ls []) := by
  obtain ⟨hx, hb, hr, hml, hown, hts, hX, hbl, hlocks, K, hA, hAi⟩ := C
  have hbA : ¬ A b := fun q => Nat.not_le.mpr hbl (hAi b q)
  have F : CallFix p m c cL_law 4 s #[Value.ref b] lw_tbl RL := ⟨hx, hb, hml, hown, hts⟩
  obtain ⟨I0, Z1, Z2, Z3, Z4, Z6⟩ := IX
  obtain ⟨J0, ZB, ZS, ZW, ZD⟩ := IM
  obtain ⟨t, fX, fM, hBY⟩ := IT
  obtain ⟨gD, gE, LW0⟩ := IL
  have hgD := LW0.2.2.2.1.1.1
  have hgE := LW0.2.2.2.1.1.2.1
  have hgne := LW0.2.2.2.1.1.2.2
  have fgD := LW0.2.2.2.1.2.1
  have fgE := LW0.2.2.2.1.2.2
  have b_t : 0 ≤ (t).toInt ∧ (t).toInt ≤ 1600 := dg_I.intb (lo := 0) (hi := 1600) I0 sX_1 (by decide +kernel) fX
  have i1 : (x + 1).toInt = x.toInt + 1 := dk_addT2 rfl (by decide +kernel) (by omega)
  obtain ⟨a1, ha1⟩ : ∃ a, a = xs (x + 1).toNatClampNeg := ⟨_, rfl⟩
  have i2 : (x + 2).toInt = x.toInt + 2 := dk_addT2 rfl (by decide +kernel) (by omega)
  obtain ⟨a2, ha2⟩ : ∃ a, a = xs (x + 2).toNatClampNeg := ⟨_, rfl⟩
  refine lv_aload_n hx hb dL_law_659 rfl (lv_at hl 2 rfl) ?_
  refine lv_aload_n hx hb dL_law_660 rfl (lv_at hl 3 rfl) ?_
  refine lv_iload_n hx hb dL_law_661 rfl (lv_at hl 0 rfl) ?_
  refine lv_iconst (v := 1) hx hb dL_law_662 (by decide +kernel) ?_
  refine lv_iadd hx hb dL_law_663 ?_
  refine va_sld hx hb hX hbl hbA hS (dk_inv2 (by omega)) dL_law_664 ?_
  refine dk_top (y := a1) ha1.symm ?_
  refine lv_aload_n hx hb dL_law_665 rfl (lv_at hl 3 rfl) ?_
  refine lv_iload_n hx hb dL_law_666 rfl (lv_at hl 0 rfl) ?_
  refine lv_iconst (v := 2) hx hb dL_law_667 (by decide +kernel) ?_
  refine lv_iadd hx hb dL_law_668 ?_
  refine va_sld hx hb hX hbl hbA hS (dk_inv2 (by omega)) dL_law_669 ?_
  refine dk_top (y := a2) ha2.symm ?_
  refine lw_calli hS (fun i _ => hoX i) hA (va_runV (As := [.int a1, .int a2]) (rest := []) F (c_d_change l g D oX SX a1 a2 Z1 Z2 Z3 Z4 Z6 I0 H.size) (cwV 2 hts (lw_V wB_1523 wB_1524 wB_1525 wB_610 wB_1522) rfl rfl rfl (by decide +kernel) ⟨Nat.le_of_ble_eq_true rfl, Nat.le_of_ble_eq_true rfl⟩) (dg_preV sX_0 rfl K ST hP hS (fun i _ => hoX i) hA) rfl rfl hl.1 rfl (lv_room (Nat.le_of_ble_eq_true rfl)) dL_law_670 ⟨Nat.le_of_ble_eq_true rfl, Nat.le_of_ble_eq_true rfl⟩) hM (lw_apX hO) (fun r1 S1 hw1 H locs hP hM hS => ?_)
  obtain ⟨I1, m1, w1_0, w1_1, w1_2, w1_3, w1_4, w1_5, -⟩ := hw1
  have Z1_1 : Z1X S1 := (Z1X.keep Z1 m1 (dk_dq rfl) (dk_dq rfl) (dk_dq rfl))
  have Z2_1 : Z2X S1 := w1_0
  have Z3_1 : Z3X oX S1 := w1_1
  have Z4_1 : Z4X S1 := w1_2
  have Z6_1 : Z6X S1 := w1_3
  have fX_1 : S1.1 1 1 = .int t := (m1.1 1 1 _ sX_1 (dk_dq rfl)).trans fX
  refine lv_pop hx hb dL_law_673 rfl ?_
  refine lv_aload_n hx hb dL_law_674 rfl (lv_at hl 1 rfl) ?_
  as_aux_lemma =>
    refine lv_aload_n hx hb dL_law_675 rfl (lv_at hl 3 rfl) ?_
    refine lv_iload_n hx hb dL_law_676 rfl (lv_at hl 0 rfl) ?_
    refine lv_iconst (v := 1) hx hb dL_law_677 (by decide +kernel) ?_
    refine lv_iadd hx hb dL_law_678 ?_
    refine va_sld hx hb hX hbl hbA hS (dk_inv2 (by omega)) dL_law_679 ?_
    refine dk_top (y := a1) ha1.symm ?_
    refine lv_aload_n hx hb dL_law_680 rfl (lv_at hl 3 rfl) ?_
    refine lv_iload_n hx hb dL_law_681 rfl (lv_at hl 0 rfl) ?_
    refine lv_iconst (v := 2) hx hb dL_law_682 (by decide +kernel) ?_
    refine lv_iadd hx hb dL_law_683 ?_
    refine va_sld hx hb hX hbl hbA hS (dk_inv2 (by omega)) dL_law_684 ?_
    refine dk_top (y := a2) ha2.symm ?_
    refine lw_calli hS (fun i _ => hoM i) hA (va_runV (As := [.int a1, .int a2]) (rest := []) F (c_m_change l g D oM SM a1 a2 ZB ZS ZW J0 H.size) (cwV 2 hts (lw_V wB_1527 wB_1528 wB_1529 wB_297 wB_1526) rfl rfl rfl (by decide +kernel) ⟨Nat.le_of_ble_eq_true rfl, Nat.le_of_ble_eq_true rfl⟩) (dg_preV sM_0 rfl K ST hM hS (fun i _ => hoM i) hA) rfl rfl hl.1 rfl (lv_room (Nat.le_of_ble_eq_true rfl)) dL_law_685 ⟨Nat.le_of_ble_eq_true rfl, Nat.le_of_ble_eq_true rfl⟩) hP (lw_apM hO) (fun r2 S2 hw2 H locs hM hP hS => ?_)
    obtain ⟨I2, m2, w2_0, w2_1, -⟩ := hw2
    have ZB_2 : ZBM S2 := (ZBM.keep ZB m2 (dk_dq rfl) (dk_dq rfl) (dk_dq rfl) (dk_dq rfl) (dk_dq rfl))
    have ZS_2 : ZSM S2 := w2_0
    have ZW_2 : ZWM S2 := (ZWM.keep ZW m2 (dk_dq rfl) (dk_dq rfl) (dk_dq rfl) (dk_dq rfl))
    have ZD_2 : ZDM S2 := (ZDM.keep ZD m2 (dk_dq rfl))
    have fM_2 : S2.1 0 1 = .int t := (m2.1 0 1 _ sM_0 (dk_dq rfl)).trans fM
    obtain ⟨eq9, LW1⟩ := W_change LW0 m1 m2 (by (repeat' apply And.intro) <;> decide) w1_5 w2_1
    refine lv_pop hx hb dL_law_688 rfl ?_
    refine lv_goto (tgt := 1126) hx hb dL_law_689 (dk_dq rfl) ?_
    exact kk S1 S2 H locs ls hP hM hS ⟨I1, Z1_1, Z2_1, Z3_1, Z4_1, Z6_1⟩ ⟨I2, ZB_2, ZS_2, ZW_2, ZD_2⟩ ⟨t, fX_1, fM_2, fun j hj => by rw [(m1.2 2 _ sX_2 (dk_dq rfl)).1, (m2.2 1 _ sM_1 (dk_dq rfl)).1]; exact hBY j hj⟩ ⟨_, _, LW1⟩ hl
set_option maxHeartbeats 8000000 in
set_option maxRecDepth 100000 in
theorem law_case_16 {p : Program} {e : Env} {s : State} {m : MethodId} {below : List Frame} {meth : Method} {c : Code} (l : Launch) {b L : Nat} {xs : Nat → Int32} {g : Nat → ClassId} {D : va_G} {A : Nat → Prop} {oX oM : Nat} (C : law_St p s m meth c b L xs g D A) (ST : dk_ST A s s.heap) (hO : oX + 380 ≤ oM) (hoX : ∀ i, A (oX + i)) (hoM : ∀ i, A (oM + i)) {H : Heap} {locs : List Loc} {ls : Array Slot} {SX SM : dg_S} (hP : va_P D vwCl (dg_w g shX oX rfX SX) H) (hM : va_P D vwCl (dg_w g shM oM rfM SM) H) (hS : va_S A s.heap H locs) (IX : law_X oX SX) (IM : law_M oM SM) (IT : law_T SX SM) (IL : law_L oX SX SM) {x : Int32} (hx0 : 0 ≤ x.toInt) (hxL : x.toInt + 6 ≤ L) (hL : L ≤ 3072) (hl : lv_has ls 4 [(3, .int x), (2, .ref (oM + 0)), (1, .ref (oX + 0)), (0, .ref b)])
    (kk : ∀ (SX SM : dg_S) (H : Heap) (locs : List Loc) (ls : Array Slot), va_P D vwCl (dg_w g shX oX rfX SX) H → va_P D vwCl (dg_w g shM oM rfM SM) H → va_S A s.heap H locs → law_X oX SX → law_M oM SM → law_T SX SM → law_L oX SX SM → lv_has ls 4 [(3, .int x), (2, .ref (oM + 0)), (1, .ref (oX + 0)), (0, .ref b)] → W p l e room_1 s m #[Value.ref b] below meth c H locs 431 78943 (lw_Z below #[Value.ref b] s) (F0 m 1126 ls [])) : W p l e room_1 s m #[Value.ref b] below meth c H locs 431 78943 (lw_Z below #[Value.ref b] s) (F0 m 692 ls []) := by
  obtain ⟨hx, hb, hr, hml, hown, hts, hX, hbl, hlocks, K, hA, hAi⟩ := C
  have hbA : ¬ A b := fun q => Nat.not_le.mpr hbl (hAi b q)
  have F : CallFix p m c cL_law 4 s #[Value.ref b] lw_tbl RL := ⟨hx, hb, hml, hown, hts⟩
  obtain ⟨I0, Z1, Z2, Z3, Z4, Z6⟩ := IX
  obtain ⟨J0, ZB, ZS, ZW, ZD⟩ := IM
  obtain ⟨t, fX, fM, hBY⟩ := IT
  obtain ⟨gD, gE, LW0⟩ := IL
  have hgD := LW0.2.2.2.1.1.1
  have hgE := LW0.2.2.2.1.1.2.1
  have hgne := LW0.2.2.2.1.1.2.2
  have fgD := LW0.2.2.2.1.2.1
  have fgE := LW0.2.2.2.1.2.2
  have b_t : 0 ≤ (t).toInt ∧ (t).toInt ≤ 1600 := dg_I.intb (lo := 0) (hi := 1600) I0 sX_1 (by decide +kernel) fX
  have i1 : (x + 1).toInt = x.toInt + 1 := dk_addT2 rfl (by decide +kernel) (by omega)
  obtain ⟨a1, ha1⟩ : ∃ a, a = xs (x + 1).toNatClampNeg := ⟨_, rfl⟩
  refine lv_aload_n hx hb dL_law_692 rfl (lv_at hl 2 rfl) ?_
  refine lv_aload_n hx hb dL_law_693 rfl (lv_at hl 3 rfl) ?_
  refine lv_iload_n hx hb dL_law_694 rfl (lv_at hl 0 rfl) ?_
  refine lv_iconst (v := 1) hx hb dL_law_695 (by decide +kernel) ?_
  refine lv_iadd hx hb dL_law_696 ?_
  refine va_sld hx hb hX hbl hbA hS (dk_inv2 (by omega)) dL_law_697 ?_
  refine dk_top (y := a1) ha1.symm ?_
  refine lw_calli hS (fun i _ => hoX i) hA (va_runV (As := [.int a1]) (rest := []) F (c_d_sale l g D oX SX a1 Z1 Z2 Z3 Z4 Z6 I0 H.size) (cwV 1 hts (lw_V wB_1531 wB_1532 wB_1533 wB_610 wB_1530) rfl rfl rfl (by decide +kernel) ⟨Nat.le_of_ble_eq_true rfl, Nat.le_of_ble_eq_true rfl⟩) (dg_preV sX_0 rfl K ST hP hS (fun i _ => hoX i) hA) rfl rfl hl.1 rfl (lv_room (Nat.le_of_ble_eq_true rfl)) dL_law_698 ⟨Nat.le_of_ble_eq_true rfl, Nat.le_of_ble_eq_true rfl⟩) hM (lw_apX hO) (fun r1 S1 hw1 H locs hP hM hS => ?_)
  rw [hw1.1] at hP
  obtain ⟨-, w1_0, -⟩ := hw1
  refine lv_pop hx hb dL_law_701 rfl ?_
  refine lv_aload_n hx hb dL_law_702 rfl (lv_at hl 1 rfl) ?_
  refine lv_aload_n hx hb dL_law_703 rfl (lv_at hl 3 rfl) ?_
  refine lv_iload_n hx hb dL_law_704 rfl (lv_at hl 0 rfl) ?_
  refine lv_iconst (v := 1) hx hb dL_law_705 (by decide +kernel) ?_
  refine lv_iadd hx hb dL_law_706 ?_
  refine va_sld hx hb hX hbl hbA hS (dk_inv2 (by omega)) dL_law_707 ?_
  refine dk_top (y := a1) ha1.symm ?_
  refine lw_calli hS (fun i _ => hoM i) hA (va_runV (As := [.int a1]) (rest := []) F (c_m_sale l g D oM SM a1 J0 H.size) (cwV 1 hts (lw_V wB_1535 wB_1536 wB_1537 wB_297 wB_1534) rfl rfl rfl (by decide +kernel) ⟨Nat.le_of_ble_eq_true rfl, Nat.le_of_ble_eq_true rfl⟩) (dg_preV sM_0 rfl K ST hM hS (fun i _ => hoM i) hA) rfl rfl hl.1 rfl (lv_room (Nat.le_of_ble_eq_true rfl)) dL_law_708 ⟨Nat.le_of_ble_eq_true rfl, Nat.le_of_ble_eq_true rfl⟩) hP (lw_apM hO) (fun r2 S2 hw2 H locs hM hP hS => ?_)
  rw [hw2.1] at hM
  obtain ⟨-, w2_0, w2_1, -⟩ := hw2
  have br2 : (-1) ≤ (r2).toInt ∧ (r2).toInt ≤ 2147483647 := w2_0
  have eq9 := E_sale LW0 w1_0 w2_1
  have LW1 := LW0
  refine lv_pop hx hb dL_law_711 rfl ?_
  refine lv_goto (tgt := 1126) hx hb dL_law_712 (dk_dq rfl) ?_
  exact kk SX SM H locs ls hP hM hS ⟨I0, Z1, Z2, Z3, Z4, Z6⟩ ⟨J0, ZB, ZS, ZW, ZD⟩ ⟨t, fX, fM, fun j hj => by exact hBY j hj⟩ ⟨_, _, LW1⟩ hl
set_option maxHeartbeats 8000000 in
set_option maxRecDepth 100000 in
theorem law_case_17 {p : Program} {e : Env} {s : State} {m : MethodId} {below : List Frame} {meth : Method} {c : Code} (l : Launch) {b L : Nat} {xs : Nat → Int32} {g : Nat → ClassId} {D : va_G} {A : Nat → Prop} {oX oM : Nat} (C : law_St p s m meth c b L xs g D A) (ST : dk_ST A s s.heap) (hO : oX + 380 ≤ oM) (hoX : ∀ i, A (oX + i)) (hoM : ∀ i, A (oM + i)) {H : Heap} {locs : List Loc} {ls : Array Slot} {SX SM : dg_S} (hP : va_P D vwCl (dg_w g shX oX rfX SX) H) (hM : va_P D vwCl (dg_w g shM oM rfM SM) H) (hS : va_S A s.heap H locs) (IX : law_X oX SX) (IM : law_M oM SM) (IT : law_T SX SM) (IL : law_L oX SX SM) {x : Int32} (hx0 : 0 ≤ x.toInt) (hxL : x.toInt + 6 ≤ L) (hL : L ≤ 3072) (hl : lv_has ls 4 [(3, .int x), (2, .ref (oM + 0)), (1, .ref (oX + 0)), (0, .ref b)])
    (kk : ∀ (SX SM : dg_S) (H : Heap) (locs : List Loc) (ls : Array Slot), va_P D vwCl (dg_w g shX oX rfX SX) H → va_P D vwCl (dg_w g shM oM rfM SM) H → va_S A s.heap H locs → law_X oX SX → law_M oM SM → law_T SX SM → law_L oX SX SM → lv_has ls 4 [(3, .int x), (2, .ref (oM + 0)), (1, .ref (oX + 0)), (0, .ref b)] → W p l e room_1 s m #[Value.ref b] below meth c H locs 431 78943 (lw_Z below #[Value.ref b] s) (F0 m 1126 ls [])) : W p l e room_1 s m #[Value.ref b] below meth c H locs 431 78943 (lw_Z below #[Value.ref b] s) (F0 m 715 ls []) := by
  obtain ⟨hx, hb, hr, hml, hown, hts, hX, hbl, hlocks, K, hA, hAi⟩ := C
  have hbA : ¬ A b := fun q => Nat.not_le.mpr hbl (hAi b q)
  have F : CallFix p m c cL_law 4 s #[Value.ref b] lw_tbl RL := ⟨hx, hb, hml, hown, hts⟩
  obtain ⟨I0, Z1, Z2, Z3, Z4, Z6⟩ := IX
  obtain ⟨J0, ZB, ZS, ZW, ZD⟩ := IM
  obtain ⟨t, fX, fM, hBY⟩ := IT
  obtain ⟨gD, gE, LW0⟩ := IL
  have hgD := LW0.2.2.2.1.1.1
  have hgE := LW0.2.2.2.1.1.2.1
  have hgne := LW0.2.2.2.1.1.2.2
  have fgD := LW0.2.2.2.1.2.1
  have fgE := LW0.2.2.2.1.2.2
  have b_t : 0 ≤ (t).toInt ∧ (t).toInt ≤ 1600 := dg_I.intb (lo := 0) (hi := 1600) I0 sX_1 (by decide +kernel) fX
  have i1 : (x + 1).toInt = x.toInt + 1 := dk_addT2 rfl (by decide +kernel) (by omega)
  obtain ⟨a1, ha1⟩ : ∃ a, a = xs (x + 1).toNatClampNeg := ⟨_, rfl⟩
  have i2 : (x + 2).toInt = x.toInt + 2 := dk_addT2 rfl (by decide +kernel) (by omega)
  obtain ⟨a2, ha2⟩ : ∃ a, a = xs (x + 2).toNatClampNeg := ⟨_, rfl⟩
  refine lv_aload_n hx hb dL_law_715 rfl (lv_at hl 2 rfl) ?_
  refine lv_aload_n hx hb dL_law_716 rfl (lv_at hl 3 rfl) ?_
  refine lv_iload_n hx hb dL_law_717 rfl (lv_at hl 0 rfl) ?_
  refine lv_iconst (v := 1) hx hb dL_law_718 (by decide +kernel) ?_
  refine lv_iadd hx hb dL_law_719 ?_
  refine va_sld hx hb hX hbl hbA hS (dk_inv2 (by omega)) dL_law_720 ?_
  refine dk_top (y := a1) ha1.symm ?_
  refine lv_aload_n hx hb dL_law_721 rfl (lv_at hl 3 rfl) ?_
  refine lv_iload_n hx hb dL_law_722 rfl (lv_at hl 0 rfl) ?_
  refine lv_iconst (v := 2) hx hb dL_law_723 (by decide +kernel) ?_
  refine lv_iadd hx hb dL_law_724 ?_
  refine va_sld hx hb hX hbl hbA hS (dk_inv2 (by omega)) dL_law_725 ?_
  refine dk_top (y := a2) ha2.symm ?_
  refine lw_calli hS (fun i _ => hoX i) hA (va_runV (As := [.int a1, .int a2]) (rest := []) F (c_d_odds l g D oX SX a1 a2 Z1 Z2 Z3 Z4 Z6 I0 H.size) (cwV 2 hts (lw_V wB_1539 wB_1540 wB_1541 wB_610 wB_1538) rfl rfl rfl (by decide +kernel) ⟨Nat.le_of_ble_eq_true rfl, Nat.le_of_ble_eq_true rfl⟩) (dg_preV sX_0 rfl K ST hP hS (fun i _ => hoX i) hA) rfl rfl hl.1 rfl (lv_room (Nat.le_of_ble_eq_true rfl)) dL_law_726 ⟨Nat.le_of_ble_eq_true rfl, Nat.le_of_ble_eq_true rfl⟩) hM (lw_apX hO) (fun r1 S1 hw1 H locs hP hM hS => ?_)
  obtain ⟨I1, m1, w1_0, w1_1, w1_2, w1_3, w1_4, w1_5, -⟩ := hw1
  have Z1_1 : Z1X S1 := (Z1X.keep Z1 m1 (dk_dq rfl) (dk_dq rfl) (dk_dq rfl))
  have Z2_1 : Z2X S1 := w1_0
  have Z3_1 : Z3X oX S1 := w1_1
  have Z4_1 : Z4X S1 := w1_2
  have Z6_1 : Z6X S1 := w1_3
  have fX_1 : S1.1 1 1 = .int t := (m1.1 1 1 _ sX_1 (dk_dq rfl)).trans fX
  refine lv_pop hx hb dL_law_729 rfl ?_
  refine lv_aload_n hx hb dL_law_730 rfl (lv_at hl 1 rfl) ?_
  as_aux_lemma =>
    refine lv_aload_n hx hb dL_law_731 rfl (lv_at hl 3 rfl) ?_
    refine lv_iload_n hx hb dL_law_732 rfl (lv_at hl 0 rfl) ?_
    refine lv_iconst (v := 1) hx hb dL_law_733 (by decide +kernel) ?_
    refine lv_iadd hx hb dL_law_734 ?_
    refine va_sld hx hb hX hbl hbA hS (dk_inv2 (by omega)) dL_law_735 ?_
    refine dk_top (y := a1) ha1.symm ?_
    refine lv_aload_n hx hb dL_law_736 rfl (lv_at hl 3 rfl) ?_
    refine lv_iload_n hx hb dL_law_737 rfl (lv_at hl 0 rfl) ?_
    refine lv_iconst (v := 2) hx hb dL_law_738 (by decide +kernel) ?_
    refine lv_iadd hx hb dL_law_739 ?_
    refine va_sld hx hb hX hbl hbA hS (dk_inv2 (by omega)) dL_law_740 ?_
    refine dk_top (y := a2) ha2.symm ?_
    refine lw_calli hS (fun i _ => hoM i) hA (va_runV (As := [.int a1, .int a2]) (rest := []) F (c_m_odds l g D oM SM a1 a2 ZB ZS ZW J0 H.size) (cwV 2 hts (lw_V wB_1543 wB_1544 wB_1545 wB_297 wB_1542) rfl rfl rfl (by decide +kernel) ⟨Nat.le_of_ble_eq_true rfl, Nat.le_of_ble_eq_true rfl⟩) (dg_preV sM_0 rfl K ST hM hS (fun i _ => hoM i) hA) rfl rfl hl.1 rfl (lv_room (Nat.le_of_ble_eq_true rfl)) dL_law_741 ⟨Nat.le_of_ble_eq_true rfl, Nat.le_of_ble_eq_true rfl⟩) hP (lw_apM hO) (fun r2 S2 hw2 H locs hM hP hS => ?_)
    obtain ⟨I2, m2, w2_0, w2_1, -⟩ := hw2
    have ZB_2 : ZBM S2 := (ZBM.keep ZB m2 (dk_dq rfl) (dk_dq rfl) (dk_dq rfl) (dk_dq rfl) (dk_dq rfl))
    have ZS_2 : ZSM S2 := w2_0
    have ZW_2 : ZWM S2 := (ZWM.keep ZW m2 (dk_dq rfl) (dk_dq rfl) (dk_dq rfl) (dk_dq rfl))
    have ZD_2 : ZDM S2 := (ZDM.keep ZD m2 (dk_dq rfl))
    have fM_2 : S2.1 0 1 = .int t := (m2.1 0 1 _ sM_0 (dk_dq rfl)).trans fM
    obtain ⟨eq9, LW1⟩ := W_odds LW0 m1 m2 (by (repeat' apply And.intro) <;> decide) w1_5 w2_1
    refine lv_pop hx hb dL_law_744 rfl ?_
    refine lv_goto (tgt := 1126) hx hb dL_law_745 (dk_dq rfl) ?_
    exact kk S1 S2 H locs ls hP hM hS ⟨I1, Z1_1, Z2_1, Z3_1, Z4_1, Z6_1⟩ ⟨I2, ZB_2, ZS_2, ZW_2, ZD_2⟩ ⟨t, fX_1, fM_2, fun j hj => by rw [(m1.2 2 _ sX_2 (dk_dq rfl)).1, (m2.2 1 _ sM_1 (dk_dq rfl)).1]; exact hBY j hj⟩ ⟨_, _, LW1⟩ hl
