theorem d_LW_law_424 : decode code 424 = .ok (.aload_n 0, 1) := by decide +kernel
theorem d_LW_law_425 : decode code 425 = .ok (.iload_n 3, 1) := by decide +kernel
theorem d_LW_law_426 : decode code 426 = .ok (.iconst 1, 1) := by decide +kernel
theorem d_LW_law_427 : decode code 427 = .ok (.iadd, 1) := by decide +kernel
theorem d_LW_law_428 : decode code 428 = .ok (.iaload, 1) := by decide +kernel
theorem d_LW_law_429 : decode code 429 = .ok (.aload_n 0, 1) := by decide +kernel
theorem d_LW_law_430 : decode code 430 = .ok (.iload_n 3, 1) := by decide +kernel
theorem d_LW_law_431 : decode code 431 = .ok (.iconst 2, 1) := by decide +kernel
theorem d_LW_law_432 : decode code 432 = .ok (.iadd, 1) := by decide +kernel
theorem d_LW_law_433 : decode code 433 = .ok (.iaload, 1) := by decide +kernel
theorem d_LW_law_434 : decode code 434 = .ok (.aload_n 0, 1) := by decide +kernel
theorem d_LW_law_435 : decode code 435 = .ok (.iload_n 3, 1) := by decide +kernel
theorem d_LW_law_436 : decode code 436 = .ok (.iconst 3, 1) := by decide +kernel
theorem d_LW_law_437 : decode code 437 = .ok (.iadd, 1) := by decide +kernel
theorem d_LW_law_438 : decode code 438 = .ok (.iaload, 1) := by decide +kernel
theorem d_LW_law_439 : decode code 439 = .ok (.invokevirtual 63, 3) := by decide +kernel
theorem d_LW_law_442 : decode code 442 = .ok (.if_icmp .eq 289, 3) := by decide +kernel
theorem d_LW_law_445 : decode code 445 = .ok (.iconst 0, 1) := by decide +kernel
theorem d_LW_law_446 : decode code 446 = .ok (.ireturn, 1) := by decide +kernel
theorem d_LW_law_447 : decode code 447 = .ok (.aload_n 1, 1) := by decide +kernel
theorem d_LW_law_448 : decode code 448 = .ok (.aload_n 0, 1) := by decide +kernel
theorem d_LW_law_449 : decode code 449 = .ok (.iload_n 3, 1) := by decide +kernel
theorem d_LW_law_450 : decode code 450 = .ok (.iconst 1, 1) := by decide +kernel
theorem d_LW_law_451 : decode code 451 = .ok (.iadd, 1) := by decide +kernel
theorem d_LW_law_452 : decode code 452 = .ok (.iaload, 1) := by decide +kernel
theorem d_LW_law_453 : decode code 453 = .ok (.aload_n 0, 1) := by decide +kernel
theorem d_LW_law_454 : decode code 454 = .ok (.iload_n 3, 1) := by decide +kernel
theorem d_LW_law_455 : decode code 455 = .ok (.iconst 2, 1) := by decide +kernel
theorem d_LW_law_456 : decode code 456 = .ok (.iadd, 1) := by decide +kernel
theorem d_LW_law_457 : decode code 457 = .ok (.iaload, 1) := by decide +kernel
theorem d_LW_law_458 : decode code 458 = .ok (.invokevirtual 64, 3) := by decide +kernel
theorem d_LW_law_461 : decode code 461 = .ok (.aload_n 2, 1) := by decide +kernel
theorem d_LW_law_462 : decode code 462 = .ok (.aload_n 0, 1) := by decide +kernel
theorem d_LW_law_463 : decode code 463 = .ok (.iload_n 3, 1) := by decide +kernel
theorem d_LW_law_464 : decode code 464 = .ok (.iconst 1, 1) := by decide +kernel
theorem d_LW_law_465 : decode code 465 = .ok (.iadd, 1) := by decide +kernel
theorem d_LW_law_466 : decode code 466 = .ok (.iaload, 1) := by decide +kernel
theorem d_LW_law_467 : decode code 467 = .ok (.aload_n 0, 1) := by decide +kernel
theorem d_LW_law_468 : decode code 468 = .ok (.iload_n 3, 1) := by decide +kernel
theorem d_LW_law_469 : decode code 469 = .ok (.iconst 2, 1) := by decide +kernel
theorem d_LW_law_470 : decode code 470 = .ok (.iadd, 1) := by decide +kernel
theorem d_LW_law_471 : decode code 471 = .ok (.iaload, 1) := by decide +kernel
theorem d_LW_law_472 : decode code 472 = .ok (.invokevirtual 67, 3) := by decide +kernel
theorem d_LW_law_475 : decode code 475 = .ok (.if_icmp .eq 256, 3) := by decide +kernel
theorem d_LW_law_478 : decode code 478 = .ok (.iconst 0, 1) := by decide +kernel
theorem d_LW_law_479 : decode code 479 = .ok (.ireturn, 1) := by decide +kernel
theorem d_LW_law_480 : decode code 480 = .ok (.aload_n 1, 1) := by decide +kernel
theorem d_LW_law_481 : decode code 481 = .ok (.aload_n 0, 1) := by decide +kernel
theorem d_LW_law_482 : decode code 482 = .ok (.iload_n 3, 1) := by decide +kernel
theorem d_LW_law_483 : decode code 483 = .ok (.iconst 1, 1) := by decide +kernel
theorem d_LW_law_484 : decode code 484 = .ok (.iadd, 1) := by decide +kernel
theorem d_LW_law_485 : decode code 485 = .ok (.iaload, 1) := by decide +kernel
theorem d_LW_law_486 : decode code 486 = .ok (.aload_n 0, 1) := by decide +kernel
theorem d_LW_law_487 : decode code 487 = .ok (.iload_n 3, 1) := by decide +kernel
theorem d_LW_law_488 : decode code 488 = .ok (.iconst 2, 1) := by decide +kernel
theorem d_LW_law_489 : decode code 489 = .ok (.iadd, 1) := by decide +kernel
theorem d_LW_law_490 : decode code 490 = .ok (.iaload, 1) := by decide +kernel
theorem d_LW_law_491 : decode code 491 = .ok (.invokevirtual 68, 3) := by decide +kernel
theorem d_LW_law_494 : decode code 494 = .ok (.aload_n 2, 1) := by decide +kernel
theorem d_LW_law_495 : decode code 495 = .ok (.aload_n 0, 1) := by decide +kernel
theorem d_LW_law_496 : decode code 496 = .ok (.iload_n 3, 1) := by decide +kernel
theorem d_LW_law_497 : decode code 497 = .ok (.iconst 1, 1) := by decide +kernel
theorem d_LW_law_498 : decode code 498 = .ok (.iadd, 1) := by decide +kernel
theorem d_LW_law_499 : decode code 499 = .ok (.iaload, 1) := by decide +kernel
theorem d_LW_law_500 : decode code 500 = .ok (.aload_n 0, 1) := by decide +kernel
theorem d_LW_law_501 : decode code 501 = .ok (.iload_n 3, 1) := by decide +kernel
theorem d_LW_law_502 : decode code 502 = .ok (.iconst 2, 1) := by decide +kernel
theorem d_LW_law_503 : decode code 503 = .ok (.iadd, 1) := by decide +kernel
theorem d_LW_law_504 : decode code 504 = .ok (.iaload, 1) := by decide +kernel
theorem d_LW_law_505 : decode code 505 = .ok (.invokevirtual 71, 3) := by decide +kernel
theorem d_LW_law_508 : decode code 508 = .ok (.if_icmp .eq 223, 3) := by decide +kernel
theorem d_LW_law_511 : decode code 511 = .ok (.iconst 0, 1) := by decide +kernel
theorem d_LW_law_512 : decode code 512 = .ok (.ireturn, 1) := by decide +kernel
theorem d_LW_law_513 : decode code 513 = .ok (.aload_n 1, 1) := by decide +kernel
theorem d_LW_law_514 : decode code 514 = .ok (.aload_n 0, 1) := by decide +kernel
theorem d_LW_law_515 : decode code 515 = .ok (.iload_n 3, 1) := by decide +kernel
theorem d_LW_law_516 : decode code 516 = .ok (.iconst 1, 1) := by decide +kernel
theorem d_LW_law_517 : decode code 517 = .ok (.iadd, 1) := by decide +kernel
theorem d_LW_law_518 : decode code 518 = .ok (.iaload, 1) := by decide +kernel
theorem d_LW_law_519 : decode code 519 = .ok (.aload_n 0, 1) := by decide +kernel
theorem d_LW_law_520 : decode code 520 = .ok (.iload_n 3, 1) := by decide +kernel
theorem d_LW_law_521 : decode code 521 = .ok (.iconst 2, 1) := by decide +kernel
theorem d_LW_law_522 : decode code 522 = .ok (.iadd, 1) := by decide +kernel
theorem d_LW_law_523 : decode code 523 = .ok (.iaload, 1) := by decide +kernel
theorem d_LW_law_524 : decode code 524 = .ok (.invokevirtual 72, 3) := by decide +kernel
theorem d_LW_law_527 : decode code 527 = .ok (.aload_n 2, 1) := by decide +kernel
theorem d_LW_law_528 : decode code 528 = .ok (.aload_n 0, 1) := by decide +kernel
theorem d_LW_law_529 : decode code 529 = .ok (.iload_n 3, 1) := by decide +kernel
theorem d_LW_law_530 : decode code 530 = .ok (.iconst 1, 1) := by decide +kernel
theorem d_LW_law_531 : decode code 531 = .ok (.iadd, 1) := by decide +kernel
theorem d_LW_law_532 : decode code 532 = .ok (.iaload, 1) := by decide +kernel
theorem d_LW_law_533 : decode code 533 = .ok (.aload_n 0, 1) := by decide +kernel
theorem d_LW_law_534 : decode code 534 = .ok (.iload_n 3, 1) := by decide +kernel
theorem d_LW_law_535 : decode code 535 = .ok (.iconst 2, 1) := by decide +kernel
theorem d_LW_law_536 : decode code 536 = .ok (.iadd, 1) := by decide +kernel
theorem d_LW_law_537 : decode code 537 = .ok (.iaload, 1) := by decide +kernel
theorem d_LW_law_538 : decode code 538 = .ok (.invokevirtual 75, 3) := by decide +kernel
theorem d_LW_law_541 : decode code 541 = .ok (.if_icmp .eq 190, 3) := by decide +kernel
theorem d_LW_law_544 : decode code 544 = .ok (.iconst 0, 1) := by decide +kernel
theorem d_LW_law_545 : decode code 545 = .ok (.ireturn, 1) := by decide +kernel
theorem d_LW_law_546 : decode code 546 = .ok (.aload_n 1, 1) := by decide +kernel
theorem d_LW_law_547 : decode code 547 = .ok (.aload_n 0, 1) := by decide +kernel
theorem d_LW_law_548 : decode code 548 = .ok (.iload_n 3, 1) := by decide +kernel
theorem d_LW_law_549 : decode code 549 = .ok (.iconst 1, 1) := by decide +kernel
theorem d_LW_law_550 : decode code 550 = .ok (.iadd, 1) := by decide +kernel
theorem d_LW_law_551 : decode code 551 = .ok (.iaload, 1) := by decide +kernel
theorem d_LW_law_552 : decode code 552 = .ok (.aload_n 0, 1) := by decide +kernel
theorem d_LW_law_553 : decode code 553 = .ok (.iload_n 3, 1) := by decide +kernel
theorem d_LW_law_554 : decode code 554 = .ok (.iconst 2, 1) := by decide +kernel
theorem d_LW_law_555 : decode code 555 = .ok (.iadd, 1) := by decide +kernel
theorem d_LW_law_556 : decode code 556 = .ok (.iaload, 1) := by decide +kernel
theorem d_LW_law_557 : decode code 557 = .ok (.aload_n 0, 1) := by decide +kernel
theorem d_LW_law_558 : decode code 558 = .ok (.iload_n 3, 1) := by decide +kernel
theorem d_LW_law_559 : decode code 559 = .ok (.iconst 3, 1) := by decide +kernel
theorem d_LW_law_560 : decode code 560 = .ok (.iadd, 1) := by decide +kernel
theorem d_LW_law_561 : decode code 561 = .ok (.iaload, 1) := by decide +kernel
theorem d_LW_law_562 : decode code 562 = .ok (.invokevirtual 76, 3) := by decide +kernel
theorem d_LW_law_565 : decode code 565 = .ok (.aload_n 2, 1) := by decide +kernel
theorem d_LW_law_566 : decode code 566 = .ok (.aload_n 0, 1) := by decide +kernel
theorem d_LW_law_567 : decode code 567 = .ok (.iload_n 3, 1) := by decide +kernel
theorem d_LW_law_568 : decode code 568 = .ok (.iconst 1, 1) := by decide +kernel
theorem d_LW_law_569 : decode code 569 = .ok (.iadd, 1) := by decide +kernel
theorem d_LW_law_570 : decode code 570 = .ok (.iaload, 1) := by decide +kernel
theorem d_LW_law_571 : decode code 571 = .ok (.aload_n 0, 1) := by decide +kernel
theorem d_LW_law_572 : decode code 572 = .ok (.iload_n 3, 1) := by decide +kernel
theorem d_LW_law_573 : decode code 573 = .ok (.iconst 2, 1) := by decide +kernel
theorem d_LW_law_574 : decode code 574 = .ok (.iadd, 1) := by decide +kernel
theorem d_LW_law_575 : decode code 575 = .ok (.iaload, 1) := by decide +kernel
theorem d_LW_law_576 : decode code 576 = .ok (.aload_n 0, 1) := by decide +kernel
theorem d_LW_law_577 : decode code 577 = .ok (.iload_n 3, 1) := by decide +kernel
theorem d_LW_law_578 : decode code 578 = .ok (.iconst 3, 1) := by decide +kernel
theorem d_LW_law_579 : decode code 579 = .ok (.iadd, 1) := by decide +kernel
theorem d_LW_law_580 : decode code 580 = .ok (.iaload, 1) := by decide +kernel
theorem d_LW_law_581 : decode code 581 = .ok (.invokevirtual 79, 3) := by decide +kernel
theorem d_LW_law_584 : decode code 584 = .ok (.if_icmp .eq 147, 3) := by decide +kernel
theorem d_LW_law_587 : decode code 587 = .ok (.iconst 0, 1) := by decide +kernel
theorem d_LW_law_588 : decode code 588 = .ok (.ireturn, 1) := by decide +kernel
theorem d_LW_law_589 : decode code 589 = .ok (.aload_n 1, 1) := by decide +kernel
theorem d_LW_law_590 : decode code 590 = .ok (.aload_n 0, 1) := by decide +kernel
theorem d_LW_law_591 : decode code 591 = .ok (.iload_n 3, 1) := by decide +kernel
theorem d_LW_law_592 : decode code 592 = .ok (.iconst 1, 1) := by decide +kernel
theorem d_LW_law_593 : decode code 593 = .ok (.iadd, 1) := by decide +kernel
theorem d_LW_law_594 : decode code 594 = .ok (.iaload, 1) := by decide +kernel
theorem d_LW_law_595 : decode code 595 = .ok (.aload_n 0, 1) := by decide +kernel
theorem d_LW_law_596 : decode code 596 = .ok (.iload_n 3, 1) := by decide +kernel
theorem d_LW_law_597 : decode code 597 = .ok (.iconst 2, 1) := by decide +kernel
theorem d_LW_law_598 : decode code 598 = .ok (.iadd, 1) := by decide +kernel
theorem d_LW_law_599 : decode code 599 = .ok (.iaload, 1) := by decide +kernel
theorem d_LW_law_600 : decode code 600 = .ok (.aload_n 0, 1) := by decide +kernel
theorem d_LW_law_601 : decode code 601 = .ok (.iload_n 3, 1) := by decide +kernel
theorem d_LW_law_602 : decode code 602 = .ok (.iconst 3, 1) := by decide +kernel
theorem d_LW_law_603 : decode code 603 = .ok (.iadd, 1) := by decide +kernel
theorem d_LW_law_604 : decode code 604 = .ok (.iaload, 1) := by decide +kernel
theorem d_LW_law_605 : decode code 605 = .ok (.aload_n 0, 1) := by decide +kernel
theorem d_LW_law_606 : decode code 606 = .ok (.iload_n 3, 1) := by decide +kernel
theorem d_LW_law_607 : decode code 607 = .ok (.iconst 4, 1) := by decide +kernel
theorem d_LW_law_608 : decode code 608 = .ok (.iadd, 1) := by decide +kernel
theorem d_LW_law_609 : decode code 609 = .ok (.iaload, 1) := by decide +kernel
theorem d_LW_law_610 : decode code 610 = .ok (.invokevirtual 80, 3) := by decide +kernel
theorem d_LW_law_613 : decode code 613 = .ok (.aload_n 2, 1) := by decide +kernel
theorem d_LW_law_614 : decode code 614 = .ok (.aload_n 0, 1) := by decide +kernel
theorem d_LW_law_615 : decode code 615 = .ok (.iload_n 3, 1) := by decide +kernel
theorem d_LW_law_616 : decode code 616 = .ok (.iconst 1, 1) := by decide +kernel
theorem d_LW_law_617 : decode code 617 = .ok (.iadd, 1) := by decide +kernel
theorem d_LW_law_618 : decode code 618 = .ok (.iaload, 1) := by decide +kernel
theorem d_LW_law_619 : decode code 619 = .ok (.aload_n 0, 1) := by decide +kernel
theorem d_LW_law_620 : decode code 620 = .ok (.iload_n 3, 1) := by decide +kernel
theorem d_LW_law_621 : decode code 621 = .ok (.iconst 2, 1) := by decide +kernel
theorem d_LW_law_622 : decode code 622 = .ok (.iadd, 1) := by decide +kernel
theorem d_LW_law_623 : decode code 623 = .ok (.iaload, 1) := by decide +kernel
theorem d_LW_law_624 : decode code 624 = .ok (.aload_n 0, 1) := by decide +kernel
theorem d_LW_law_625 : decode code 625 = .ok (.iload_n 3, 1) := by decide +kernel
theorem d_LW_law_626 : decode code 626 = .ok (.iconst 3, 1) := by decide +kernel
theorem d_LW_law_627 : decode code 627 = .ok (.iadd, 1) := by decide +kernel
theorem d_LW_law_628 : decode code 628 = .ok (.iaload, 1) := by decide +kernel
theorem d_LW_law_629 : decode code 629 = .ok (.aload_n 0, 1) := by decide +kernel
theorem d_LW_law_630 : decode code 630 = .ok (.iload_n 3, 1) := by decide +kernel
theorem d_LW_law_631 : decode code 631 = .ok (.iconst 4, 1) := by decide +kernel
theorem d_LW_law_632 : decode code 632 = .ok (.iadd, 1) := by decide +kernel
theorem d_LW_law_633 : decode code 633 = .ok (.iaload, 1) := by decide +kernel
theorem d_LW_law_634 : decode code 634 = .ok (.invokevirtual 84, 3) := by decide +kernel
theorem d_LW_law_637 : decode code 637 = .ok (.if_icmp .eq 94, 3) := by decide +kernel
theorem d_LW_law_640 : decode code 640 = .ok (.iconst 0, 1) := by decide +kernel
theorem d_LW_law_641 : decode code 641 = .ok (.ireturn, 1) := by decide +kernel
theorem d_LW_law_642 : decode code 642 = .ok (.aload_n 1, 1) := by decide +kernel
theorem d_LW_law_643 : decode code 643 = .ok (.aload_n 0, 1) := by decide +kernel
theorem d_LW_law_644 : decode code 644 = .ok (.iload_n 3, 1) := by decide +kernel
theorem d_LW_law_645 : decode code 645 = .ok (.iconst 1, 1) := by decide +kernel
theorem d_LW_law_646 : decode code 646 = .ok (.iadd, 1) := by decide +kernel
theorem d_LW_law_647 : decode code 647 = .ok (.iaload, 1) := by decide +kernel
theorem d_LW_law_648 : decode code 648 = .ok (.aload_n 0, 1) := by decide +kernel
theorem d_LW_law_649 : decode code 649 = .ok (.iload_n 3, 1) := by decide +kernel
theorem d_LW_law_650 : decode code 650 = .ok (.iconst 2, 1) := by decide +kernel
theorem d_LW_law_651 : decode code 651 = .ok (.iadd, 1) := by decide +kernel
theorem d_LW_law_652 : decode code 652 = .ok (.iaload, 1) := by decide +kernel
theorem d_LW_law_653 : decode code 653 = .ok (.invokevirtual 85, 3) := by decide +kernel
theorem d_LW_law_656 : decode code 656 = .ok (.aload_n 2, 1) := by decide +kernel
theorem d_LW_law_657 : decode code 657 = .ok (.aload_n 0, 1) := by decide +kernel
theorem d_LW_law_658 : decode code 658 = .ok (.iload_n 3, 1) := by decide +kernel
theorem d_LW_law_659 : decode code 659 = .ok (.iconst 1, 1) := by decide +kernel
theorem d_LW_law_660 : decode code 660 = .ok (.iadd, 1) := by decide +kernel
theorem d_LW_law_661 : decode code 661 = .ok (.iaload, 1) := by decide +kernel
theorem d_LW_law_662 : decode code 662 = .ok (.aload_n 0, 1) := by decide +kernel
theorem d_LW_law_663 : decode code 663 = .ok (.iload_n 3, 1) := by decide +kernel
theorem d_LW_law_664 : decode code 664 = .ok (.iconst 2, 1) := by decide +kernel
theorem d_LW_law_665 : decode code 665 = .ok (.iadd, 1) := by decide +kernel
theorem d_LW_law_666 : decode code 666 = .ok (.iaload, 1) := by decide +kernel
theorem d_LW_law_667 : decode code 667 = .ok (.invokevirtual 88, 3) := by decide +kernel
theorem d_LW_law_670 : decode code 670 = .ok (.if_icmp .eq 61, 3) := by decide +kernel
theorem d_LW_law_673 : decode code 673 = .ok (.iconst 0, 1) := by decide +kernel
theorem d_LW_law_674 : decode code 674 = .ok (.ireturn, 1) := by decide +kernel
theorem d_LW_law_675 : decode code 675 = .ok (.aload_n 1, 1) := by decide +kernel
theorem d_LW_law_676 : decode code 676 = .ok (.aload_n 0, 1) := by decide +kernel
theorem d_LW_law_677 : decode code 677 = .ok (.iload_n 3, 1) := by decide +kernel
theorem d_LW_law_678 : decode code 678 = .ok (.iconst 1, 1) := by decide +kernel
theorem d_LW_law_679 : decode code 679 = .ok (.iadd, 1) := by decide +kernel
theorem d_LW_law_680 : decode code 680 = .ok (.iaload, 1) := by decide +kernel
theorem d_LW_law_681 : decode code 681 = .ok (.aload_n 0, 1) := by decide +kernel
theorem d_LW_law_682 : decode code 682 = .ok (.iload_n 3, 1) := by decide +kernel
theorem d_LW_law_683 : decode code 683 = .ok (.iconst 2, 1) := by decide +kernel
theorem d_LW_law_684 : decode code 684 = .ok (.iadd, 1) := by decide +kernel
theorem d_LW_law_685 : decode code 685 = .ok (.iaload, 1) := by decide +kernel
theorem d_LW_law_686 : decode code 686 = .ok (.invokevirtual 89, 3) := by decide +kernel
theorem d_LW_law_689 : decode code 689 = .ok (.aload_n 2, 1) := by decide +kernel
theorem d_LW_law_690 : decode code 690 = .ok (.aload_n 0, 1) := by decide +kernel
theorem d_LW_law_691 : decode code 691 = .ok (.iload_n 3, 1) := by decide +kernel
theorem d_LW_law_692 : decode code 692 = .ok (.iconst 1, 1) := by decide +kernel
theorem d_LW_law_693 : decode code 693 = .ok (.iadd, 1) := by decide +kernel
theorem d_LW_law_694 : decode code 694 = .ok (.iaload, 1) := by decide +kernel
theorem d_LW_law_695 : decode code 695 = .ok (.aload_n 0, 1) := by decide +kernel
theorem d_LW_law_696 : decode code 696 = .ok (.iload_n 3, 1) := by decide +kernel
theorem d_LW_law_697 : decode code 697 = .ok (.iconst 2, 1) := by decide +kernel
theorem d_LW_law_698 : decode code 698 = .ok (.iadd, 1) := by decide +kernel
theorem d_LW_law_699 : decode code 699 = .ok (.iaload, 1) := by decide +kernel
theorem d_LW_law_700 : decode code 700 = .ok (.invokevirtual 92, 3) := by decide +kernel
theorem d_LW_law_703 : decode code 703 = .ok (.if_icmp .eq 28, 3) := by decide +kernel
theorem d_LW_law_706 : decode code 706 = .ok (.iconst 0, 1) := by decide +kernel
theorem d_LW_law_707 : decode code 707 = .ok (.ireturn, 1) := by decide +kernel
theorem d_LW_law_708 : decode code 708 = .ok (.aload_n 1, 1) := by decide +kernel
theorem d_LW_law_709 : decode code 709 = .ok (.aload_n 0, 1) := by decide +kernel
theorem d_LW_law_710 : decode code 710 = .ok (.iload_n 3, 1) := by decide +kernel
theorem d_LW_law_711 : decode code 711 = .ok (.iconst 1, 1) := by decide +kernel
theorem d_LW_law_712 : decode code 712 = .ok (.iadd, 1) := by decide +kernel
theorem d_LW_law_713 : decode code 713 = .ok (.iaload, 1) := by decide +kernel
theorem d_LW_law_714 : decode code 714 = .ok (.invokevirtual 93, 3) := by decide +kernel
theorem d_LW_law_717 : decode code 717 = .ok (.aload_n 2, 1) := by decide +kernel
theorem d_LW_law_718 : decode code 718 = .ok (.aload_n 0, 1) := by decide +kernel
theorem d_LW_law_719 : decode code 719 = .ok (.iload_n 3, 1) := by decide +kernel
theorem d_LW_law_720 : decode code 720 = .ok (.iconst 1, 1) := by decide +kernel
theorem d_LW_law_721 : decode code 721 = .ok (.iadd, 1) := by decide +kernel
theorem d_LW_law_722 : decode code 722 = .ok (.iaload, 1) := by decide +kernel
theorem d_LW_law_723 : decode code 723 = .ok (.invokevirtual 96, 3) := by decide +kernel
theorem d_LW_law_726 : decode code 726 = .ok (.if_icmp .eq 5, 3) := by decide +kernel
theorem d_LW_law_729 : decode code 729 = .ok (.iconst 0, 1) := by decide +kernel
theorem d_LW_law_730 : decode code 730 = .ok (.ireturn, 1) := by decide +kernel
theorem d_LW_law_731 : decode code 731 = .ok (.iinc 3 5, 3) := by decide +kernel
theorem d_LW_law_734 : decode code 734 = .ok (.goto (-716), 3) := by decide +kernel
theorem d_LW_law_737 : decode code 737 = .ok (.iconst 1, 1) := by decide +kernel
theorem d_LW_law_738 : decode code 738 = .ok (.ireturn, 1) := by decide +kernel

