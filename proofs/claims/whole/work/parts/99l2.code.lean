/-! ===== the law: its instructions, 2 (by program, wip/whole/p107.py) ===== -/
theorem dl_429 : decode code 429 = .ok ((.goto 1014), 3) := by decide +kernel
theorem dl_432 : decode code 432 = .ok ((.aload_n 1), 1) := by decide +kernel
theorem dl_433 : decode code 433 = .ok ((.aload_n 0), 1) := by decide +kernel
theorem dl_434 : decode code 434 = .ok ((.iload 4), 2) := by decide +kernel
theorem dl_436 : decode code 436 = .ok ((.iconst 1), 1) := by decide +kernel
theorem dl_437 : decode code 437 = .ok (.iadd, 1) := by decide +kernel
theorem dl_438 : decode code 438 = .ok (.iaload, 1) := by decide +kernel
theorem dl_439 : decode code 439 = .ok ((.invokevirtual 48), 3) := by decide +kernel
theorem dl_442 : decode code 442 = .ok ((.aload_n 2), 1) := by decide +kernel
theorem dl_443 : decode code 443 = .ok ((.aload_n 0), 1) := by decide +kernel
theorem dl_444 : decode code 444 = .ok ((.iload 4), 2) := by decide +kernel
theorem dl_446 : decode code 446 = .ok ((.iconst 1), 1) := by decide +kernel
theorem dl_447 : decode code 447 = .ok (.iadd, 1) := by decide +kernel
theorem dl_448 : decode code 448 = .ok (.iaload, 1) := by decide +kernel
theorem dl_449 : decode code 449 = .ok ((.invokevirtual 51), 3) := by decide +kernel
theorem dl_452 : decode code 452 = .ok ((.if_icmp .eq 991), 3) := by decide +kernel
theorem dl_455 : decode code 455 = .ok ((.iconst 0), 1) := by decide +kernel
theorem dl_456 : decode code 456 = .ok (.ireturn, 1) := by decide +kernel
theorem dl_457 : decode code 457 = .ok ((.aload_n 1), 1) := by decide +kernel
theorem dl_458 : decode code 458 = .ok ((.aload_n 0), 1) := by decide +kernel
theorem dl_459 : decode code 459 = .ok ((.iload 4), 2) := by decide +kernel
theorem dl_461 : decode code 461 = .ok ((.iconst 1), 1) := by decide +kernel
theorem dl_462 : decode code 462 = .ok (.iadd, 1) := by decide +kernel
theorem dl_463 : decode code 463 = .ok (.iaload, 1) := by decide +kernel
theorem dl_464 : decode code 464 = .ok ((.aload_n 0), 1) := by decide +kernel
theorem dl_465 : decode code 465 = .ok ((.iload 4), 2) := by decide +kernel
theorem dl_467 : decode code 467 = .ok ((.iconst 2), 1) := by decide +kernel
theorem dl_468 : decode code 468 = .ok (.iadd, 1) := by decide +kernel
theorem dl_469 : decode code 469 = .ok (.iaload, 1) := by decide +kernel
theorem dl_470 : decode code 470 = .ok ((.invokevirtual 52), 3) := by decide +kernel
theorem dl_473 : decode code 473 = .ok ((.aload_n 2), 1) := by decide +kernel
theorem dl_474 : decode code 474 = .ok ((.aload_n 0), 1) := by decide +kernel
theorem dl_475 : decode code 475 = .ok ((.iload 4), 2) := by decide +kernel
theorem dl_477 : decode code 477 = .ok ((.iconst 1), 1) := by decide +kernel
theorem dl_478 : decode code 478 = .ok (.iadd, 1) := by decide +kernel
theorem dl_479 : decode code 479 = .ok (.iaload, 1) := by decide +kernel
theorem dl_480 : decode code 480 = .ok ((.aload_n 0), 1) := by decide +kernel
theorem dl_481 : decode code 481 = .ok ((.iload 4), 2) := by decide +kernel
theorem dl_483 : decode code 483 = .ok ((.iconst 2), 1) := by decide +kernel
theorem dl_484 : decode code 484 = .ok (.iadd, 1) := by decide +kernel
theorem dl_485 : decode code 485 = .ok (.iaload, 1) := by decide +kernel
theorem dl_486 : decode code 486 = .ok ((.invokevirtual 55), 3) := by decide +kernel
theorem dl_489 : decode code 489 = .ok ((.if_icmp .eq 954), 3) := by decide +kernel
theorem dl_492 : decode code 492 = .ok ((.iconst 0), 1) := by decide +kernel
theorem dl_493 : decode code 493 = .ok (.ireturn, 1) := by decide +kernel
theorem dl_494 : decode code 494 = .ok ((.aload_n 1), 1) := by decide +kernel
theorem dl_495 : decode code 495 = .ok ((.aload_n 0), 1) := by decide +kernel
theorem dl_496 : decode code 496 = .ok ((.iload 4), 2) := by decide +kernel
theorem dl_498 : decode code 498 = .ok ((.iconst 1), 1) := by decide +kernel
theorem dl_499 : decode code 499 = .ok (.iadd, 1) := by decide +kernel
theorem dl_500 : decode code 500 = .ok (.iaload, 1) := by decide +kernel
theorem dl_501 : decode code 501 = .ok ((.invokevirtual 56), 3) := by decide +kernel
theorem dl_504 : decode code 504 = .ok ((.aload_n 2), 1) := by decide +kernel
theorem dl_505 : decode code 505 = .ok ((.aload_n 0), 1) := by decide +kernel
theorem dl_506 : decode code 506 = .ok ((.iload 4), 2) := by decide +kernel
theorem dl_508 : decode code 508 = .ok ((.iconst 1), 1) := by decide +kernel
theorem dl_509 : decode code 509 = .ok (.iadd, 1) := by decide +kernel
theorem dl_510 : decode code 510 = .ok (.iaload, 1) := by decide +kernel
theorem dl_511 : decode code 511 = .ok ((.invokevirtual 59), 3) := by decide +kernel
theorem dl_514 : decode code 514 = .ok ((.if_icmp .eq 929), 3) := by decide +kernel
theorem dl_517 : decode code 517 = .ok ((.iconst 0), 1) := by decide +kernel
theorem dl_518 : decode code 518 = .ok (.ireturn, 1) := by decide +kernel
theorem dl_519 : decode code 519 = .ok ((.aload_n 1), 1) := by decide +kernel
theorem dl_520 : decode code 520 = .ok ((.aload_n 0), 1) := by decide +kernel
theorem dl_521 : decode code 521 = .ok ((.iload 4), 2) := by decide +kernel
theorem dl_523 : decode code 523 = .ok ((.iconst 1), 1) := by decide +kernel
theorem dl_524 : decode code 524 = .ok (.iadd, 1) := by decide +kernel
theorem dl_525 : decode code 525 = .ok (.iaload, 1) := by decide +kernel
theorem dl_526 : decode code 526 = .ok ((.aload_n 0), 1) := by decide +kernel
theorem dl_527 : decode code 527 = .ok ((.iload 4), 2) := by decide +kernel
theorem dl_529 : decode code 529 = .ok ((.iconst 2), 1) := by decide +kernel
theorem dl_530 : decode code 530 = .ok (.iadd, 1) := by decide +kernel
theorem dl_531 : decode code 531 = .ok (.iaload, 1) := by decide +kernel
theorem dl_532 : decode code 532 = .ok ((.invokevirtual 60), 3) := by decide +kernel
theorem dl_535 : decode code 535 = .ok ((.aload_n 2), 1) := by decide +kernel
theorem dl_536 : decode code 536 = .ok ((.aload_n 0), 1) := by decide +kernel
theorem dl_537 : decode code 537 = .ok ((.iload 4), 2) := by decide +kernel
theorem dl_539 : decode code 539 = .ok ((.iconst 1), 1) := by decide +kernel
theorem dl_540 : decode code 540 = .ok (.iadd, 1) := by decide +kernel
theorem dl_541 : decode code 541 = .ok (.iaload, 1) := by decide +kernel
theorem dl_542 : decode code 542 = .ok ((.aload_n 0), 1) := by decide +kernel
theorem dl_543 : decode code 543 = .ok ((.iload 4), 2) := by decide +kernel
theorem dl_545 : decode code 545 = .ok ((.iconst 2), 1) := by decide +kernel
theorem dl_546 : decode code 546 = .ok (.iadd, 1) := by decide +kernel
theorem dl_547 : decode code 547 = .ok (.iaload, 1) := by decide +kernel
theorem dl_548 : decode code 548 = .ok ((.invokevirtual 63), 3) := by decide +kernel
theorem dl_551 : decode code 551 = .ok ((.if_icmp .eq 892), 3) := by decide +kernel
theorem dl_554 : decode code 554 = .ok ((.iconst 0), 1) := by decide +kernel
theorem dl_555 : decode code 555 = .ok (.ireturn, 1) := by decide +kernel
theorem dl_556 : decode code 556 = .ok ((.aload_n 1), 1) := by decide +kernel
theorem dl_557 : decode code 557 = .ok ((.aload_n 0), 1) := by decide +kernel
theorem dl_558 : decode code 558 = .ok ((.iload 4), 2) := by decide +kernel
theorem dl_560 : decode code 560 = .ok ((.iconst 1), 1) := by decide +kernel
theorem dl_561 : decode code 561 = .ok (.iadd, 1) := by decide +kernel
theorem dl_562 : decode code 562 = .ok (.iaload, 1) := by decide +kernel
theorem dl_563 : decode code 563 = .ok ((.aload_n 0), 1) := by decide +kernel
theorem dl_564 : decode code 564 = .ok ((.iload 4), 2) := by decide +kernel
theorem dl_566 : decode code 566 = .ok ((.iconst 2), 1) := by decide +kernel
theorem dl_567 : decode code 567 = .ok (.iadd, 1) := by decide +kernel
theorem dl_568 : decode code 568 = .ok (.iaload, 1) := by decide +kernel
theorem dl_569 : decode code 569 = .ok ((.invokevirtual 64), 3) := by decide +kernel
theorem dl_572 : decode code 572 = .ok ((.aload_n 2), 1) := by decide +kernel
theorem dl_573 : decode code 573 = .ok ((.aload_n 0), 1) := by decide +kernel
theorem dl_574 : decode code 574 = .ok ((.iload 4), 2) := by decide +kernel
theorem dl_576 : decode code 576 = .ok ((.iconst 1), 1) := by decide +kernel
theorem dl_577 : decode code 577 = .ok (.iadd, 1) := by decide +kernel
theorem dl_578 : decode code 578 = .ok (.iaload, 1) := by decide +kernel
theorem dl_579 : decode code 579 = .ok ((.aload_n 0), 1) := by decide +kernel
theorem dl_580 : decode code 580 = .ok ((.iload 4), 2) := by decide +kernel
theorem dl_582 : decode code 582 = .ok ((.iconst 2), 1) := by decide +kernel
theorem dl_583 : decode code 583 = .ok (.iadd, 1) := by decide +kernel
theorem dl_584 : decode code 584 = .ok (.iaload, 1) := by decide +kernel
theorem dl_585 : decode code 585 = .ok ((.invokevirtual 67), 3) := by decide +kernel
theorem dl_588 : decode code 588 = .ok ((.if_icmp .eq 855), 3) := by decide +kernel
theorem dl_591 : decode code 591 = .ok ((.iconst 0), 1) := by decide +kernel
theorem dl_592 : decode code 592 = .ok (.ireturn, 1) := by decide +kernel
theorem dl_593 : decode code 593 = .ok ((.aload_n 1), 1) := by decide +kernel
theorem dl_594 : decode code 594 = .ok ((.aload_n 0), 1) := by decide +kernel
theorem dl_595 : decode code 595 = .ok ((.iload 4), 2) := by decide +kernel
theorem dl_597 : decode code 597 = .ok ((.iconst 1), 1) := by decide +kernel
theorem dl_598 : decode code 598 = .ok (.iadd, 1) := by decide +kernel
theorem dl_599 : decode code 599 = .ok (.iaload, 1) := by decide +kernel
theorem dl_600 : decode code 600 = .ok ((.invokevirtual 68), 3) := by decide +kernel
theorem dl_603 : decode code 603 = .ok ((.aload_n 2), 1) := by decide +kernel
theorem dl_604 : decode code 604 = .ok ((.aload_n 0), 1) := by decide +kernel
theorem dl_605 : decode code 605 = .ok ((.iload 4), 2) := by decide +kernel
theorem dl_607 : decode code 607 = .ok ((.iconst 1), 1) := by decide +kernel
theorem dl_608 : decode code 608 = .ok (.iadd, 1) := by decide +kernel
theorem dl_609 : decode code 609 = .ok (.iaload, 1) := by decide +kernel
theorem dl_610 : decode code 610 = .ok ((.invokevirtual 71), 3) := by decide +kernel
theorem dl_613 : decode code 613 = .ok ((.if_icmp .eq 830), 3) := by decide +kernel
theorem dl_616 : decode code 616 = .ok ((.iconst 0), 1) := by decide +kernel
theorem dl_617 : decode code 617 = .ok (.ireturn, 1) := by decide +kernel
theorem dl_618 : decode code 618 = .ok ((.aload_n 1), 1) := by decide +kernel
theorem dl_619 : decode code 619 = .ok ((.aload_n 0), 1) := by decide +kernel
theorem dl_620 : decode code 620 = .ok ((.iload 4), 2) := by decide +kernel
theorem dl_622 : decode code 622 = .ok ((.iconst 1), 1) := by decide +kernel
theorem dl_623 : decode code 623 = .ok (.iadd, 1) := by decide +kernel
theorem dl_624 : decode code 624 = .ok (.iaload, 1) := by decide +kernel
theorem dl_625 : decode code 625 = .ok ((.invokevirtual 72), 3) := by decide +kernel
theorem dl_628 : decode code 628 = .ok ((.aload_n 2), 1) := by decide +kernel
theorem dl_629 : decode code 629 = .ok ((.aload_n 0), 1) := by decide +kernel
theorem dl_630 : decode code 630 = .ok ((.iload 4), 2) := by decide +kernel
theorem dl_632 : decode code 632 = .ok ((.iconst 1), 1) := by decide +kernel
theorem dl_633 : decode code 633 = .ok (.iadd, 1) := by decide +kernel
theorem dl_634 : decode code 634 = .ok (.iaload, 1) := by decide +kernel
theorem dl_635 : decode code 635 = .ok ((.invokevirtual 75), 3) := by decide +kernel
theorem dl_638 : decode code 638 = .ok ((.if_icmp .eq 805), 3) := by decide +kernel
theorem dl_641 : decode code 641 = .ok ((.iconst 0), 1) := by decide +kernel
theorem dl_642 : decode code 642 = .ok (.ireturn, 1) := by decide +kernel
theorem dl_643 : decode code 643 = .ok ((.aload_n 1), 1) := by decide +kernel
theorem dl_644 : decode code 644 = .ok ((.aload_n 0), 1) := by decide +kernel
theorem dl_645 : decode code 645 = .ok ((.iload 4), 2) := by decide +kernel
theorem dl_647 : decode code 647 = .ok ((.iconst 1), 1) := by decide +kernel
theorem dl_648 : decode code 648 = .ok (.iadd, 1) := by decide +kernel
theorem dl_649 : decode code 649 = .ok (.iaload, 1) := by decide +kernel
theorem dl_650 : decode code 650 = .ok ((.aload_n 0), 1) := by decide +kernel
theorem dl_651 : decode code 651 = .ok ((.iload 4), 2) := by decide +kernel
theorem dl_653 : decode code 653 = .ok ((.iconst 2), 1) := by decide +kernel
theorem dl_654 : decode code 654 = .ok (.iadd, 1) := by decide +kernel
theorem dl_655 : decode code 655 = .ok (.iaload, 1) := by decide +kernel
theorem dl_656 : decode code 656 = .ok (.i2l, 1) := by decide +kernel
theorem dl_657 : decode code 657 = .ok ((.bipush 32), 2) := by decide +kernel
theorem dl_659 : decode code 659 = .ok (.lshl, 1) := by decide +kernel
theorem dl_660 : decode code 660 = .ok ((.aload_n 0), 1) := by decide +kernel
theorem dl_661 : decode code 661 = .ok ((.iload 4), 2) := by decide +kernel
theorem dl_663 : decode code 663 = .ok ((.iconst 3), 1) := by decide +kernel
theorem dl_664 : decode code 664 = .ok (.iadd, 1) := by decide +kernel
theorem dl_665 : decode code 665 = .ok (.iaload, 1) := by decide +kernel
theorem dl_666 : decode code 666 = .ok (.i2l, 1) := by decide +kernel
theorem dl_667 : decode code 667 = .ok ((.ldc2_w 76), 3) := by decide +kernel
theorem dl_670 : decode code 670 = .ok (.land, 1) := by decide +kernel
theorem dl_671 : decode code 671 = .ok (.lor, 1) := by decide +kernel
theorem dl_672 : decode code 672 = .ok ((.invokevirtual 78), 3) := by decide +kernel
theorem dl_675 : decode code 675 = .ok ((.aload_n 2), 1) := by decide +kernel
theorem dl_676 : decode code 676 = .ok ((.aload_n 0), 1) := by decide +kernel
theorem dl_677 : decode code 677 = .ok ((.iload 4), 2) := by decide +kernel
