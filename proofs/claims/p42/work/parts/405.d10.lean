theorem dL_isWhole_470 : decode cL_isWhole 470 = .ok (.ifCond .lt 15, 3) := by decide +kernel
theorem dL_isWhole_473 : decode cL_isWhole 473 = .ok (.iload 14, 2) := by decide +kernel
theorem dL_isWhole_475 : decode cL_isWhole 475 = .ok (.ifCond .ne 12, 3) := by decide +kernel
theorem dL_isWhole_478 : decode cL_isWhole 478 = .ok (.iload 12, 2) := by decide +kernel
theorem dL_isWhole_480 : decode cL_isWhole 480 = .ok (.iload 13, 2) := by decide +kernel
theorem dL_isWhole_482 : decode cL_isWhole 482 = .ok (.if_icmp .le 5, 3) := by decide +kernel
theorem dL_isWhole_485 : decode cL_isWhole 485 = .ok (.iconst 0, 1) := by decide +kernel
theorem dL_isWhole_486 : decode cL_isWhole 486 = .ok (.ireturn, 1) := by decide +kernel
theorem dL_isWhole_487 : decode cL_isWhole 487 = .ok (.iinc 11 1, 3) := by decide +kernel
theorem dL_isWhole_490 : decode cL_isWhole 490 = .ok (.goto (-69), 3) := by decide +kernel
theorem dL_isWhole_493 : decode cL_isWhole 493 = .ok (.iinc 10 1, 3) := by decide +kernel
theorem dL_isWhole_496 : decode cL_isWhole 496 = .ok (.goto (-84), 3) := by decide +kernel
theorem dL_isWhole_499 : decode cL_isWhole 499 = .ok (.aload_n 0, 1) := by decide +kernel
theorem dL_isWhole_500 : decode cL_isWhole 500 = .ok (.iconst 1, 1) := by decide +kernel
theorem dL_isWhole_501 : decode cL_isWhole 501 = .ok (.invokestatic 167, 3) := by decide +kernel
theorem dL_isWhole_504 : decode cL_isWhole 504 = .ok (.iload_n 3, 1) := by decide +kernel
theorem dL_isWhole_505 : decode cL_isWhole 505 = .ok (.if_icmp .ne 65, 3) := by decide +kernel
theorem dL_isWhole_508 : decode cL_isWhole 508 = .ok (.iload 8, 2) := by decide +kernel
theorem dL_isWhole_510 : decode cL_isWhole 510 = .ok (.iload_n 3, 1) := by decide +kernel
theorem dL_isWhole_511 : decode cL_isWhole 511 = .ok (.if_icmp .ne 59, 3) := by decide +kernel
theorem dL_isWhole_514 : decode cL_isWhole 514 = .ok (.iload 7, 2) := by decide +kernel
theorem dL_isWhole_516 : decode cL_isWhole 516 = .ok (.iload_n 2, 1) := by decide +kernel
theorem dL_isWhole_517 : decode cL_isWhole 517 = .ok (.if_icmp .ne 53, 3) := by decide +kernel
theorem dL_isWhole_520 : decode cL_isWhole 520 = .ok (.iload 9, 2) := by decide +kernel
theorem dL_isWhole_522 : decode cL_isWhole 522 = .ok (.iload_n 3, 1) := by decide +kernel
theorem dL_isWhole_523 : decode cL_isWhole 523 = .ok (.if_icmp .ne 47, 3) := by decide +kernel
theorem dL_isWhole_526 : decode cL_isWhole 526 = .ok (.aload_n 0, 1) := by decide +kernel
theorem dL_isWhole_527 : decode cL_isWhole 527 = .ok (.iconst 2, 1) := by decide +kernel
theorem dL_isWhole_528 : decode cL_isWhole 528 = .ok (.invokestatic 167, 3) := by decide +kernel
theorem dL_isWhole_531 : decode cL_isWhole 531 = .ok (.ifCond .lt 39, 3) := by decide +kernel
theorem dL_isWhole_534 : decode cL_isWhole 534 = .ok (.aload_n 0, 1) := by decide +kernel
theorem dL_isWhole_535 : decode cL_isWhole 535 = .ok (.iconst 2, 1) := by decide +kernel
theorem dL_isWhole_536 : decode cL_isWhole 536 = .ok (.invokestatic 167, 3) := by decide +kernel
theorem dL_isWhole_539 : decode cL_isWhole 539 = .ok (.bipush 9, 2) := by decide +kernel
theorem dL_isWhole_541 : decode cL_isWhole 541 = .ok (.if_icmp .gt 29, 3) := by decide +kernel
theorem dL_isWhole_544 : decode cL_isWhole 544 = .ok (.iload_n 2, 1) := by decide +kernel
theorem dL_isWhole_545 : decode cL_isWhole 545 = .ok (.bipush 8, 2) := by decide +kernel
theorem dL_isWhole_547 : decode cL_isWhole 547 = .ok (.if_icmp .gt 23, 3) := by decide +kernel
theorem dL_isWhole_550 : decode cL_isWhole 550 = .ok (.aload_n 0, 1) := by decide +kernel
theorem dL_isWhole_551 : decode cL_isWhole 551 = .ok (.iconst 3, 1) := by decide +kernel
theorem dL_isWhole_552 : decode cL_isWhole 552 = .ok (.invokestatic 167, 3) := by decide +kernel
theorem dL_isWhole_555 : decode cL_isWhole 555 = .ok (.iconst 4, 1) := by decide +kernel
theorem dL_isWhole_556 : decode cL_isWhole 556 = .ok (.if_icmp .gt 14, 3) := by decide +kernel
theorem dL_isWhole_559 : decode cL_isWhole 559 = .ok (.aload_n 0, 1) := by decide +kernel
theorem dL_isWhole_560 : decode cL_isWhole 560 = .ok (.invokevirtual 294, 3) := by decide +kernel
theorem dL_isWhole_563 : decode cL_isWhole 563 = .ok (.ifCond .eq 7, 3) := by decide +kernel
theorem dL_isWhole_566 : decode cL_isWhole 566 = .ok (.iconst 1, 1) := by decide +kernel
theorem dL_isWhole_567 : decode cL_isWhole 567 = .ok (.goto 4, 3) := by decide +kernel
theorem dL_isWhole_570 : decode cL_isWhole 570 = .ok (.iconst 0, 1) := by decide +kernel
theorem dL_isWhole_571 : decode cL_isWhole 571 = .ok (.istore 10, 2) := by decide +kernel
theorem dL_isWhole_573 : decode cL_isWhole 573 = .ok (.aload_n 0, 1) := by decide +kernel
theorem dL_isWhole_574 : decode cL_isWhole 574 = .ok (.invokestatic 298, 3) := by decide +kernel
theorem dL_isWhole_577 : decode cL_isWhole 577 = .ok (.iload 6, 2) := by decide +kernel
theorem dL_isWhole_579 : decode cL_isWhole 579 = .ok (.ifCond .ne 9, 3) := by decide +kernel
theorem dL_isWhole_582 : decode cL_isWhole 582 = .ok (.ldc2_w 127, 3) := by decide +kernel
theorem dL_isWhole_585 : decode cL_isWhole 585 = .ok (.goto 10, 3) := by decide +kernel
theorem dL_isWhole_588 : decode cL_isWhole 588 = .ok (.iload 5, 2) := by decide +kernel
theorem dL_isWhole_590 : decode cL_isWhole 590 = .ok (.i2d, 1) := by decide +kernel
theorem dL_isWhole_591 : decode cL_isWhole 591 = .ok (.iload 6, 2) := by decide +kernel
theorem dL_isWhole_593 : decode cL_isWhole 593 = .ok (.i2d, 1) := by decide +kernel
theorem dL_isWhole_594 : decode cL_isWhole 594 = .ok (.ddiv, 1) := by decide +kernel
theorem dL_isWhole_595 : decode cL_isWhole 595 = .ok (.dcmp .l, 1) := by decide +kernel
theorem dL_isWhole_596 : decode cL_isWhole 596 = .ok (.ifCond .ne 30, 3) := by decide +kernel
theorem dL_isWhole_599 : decode cL_isWhole 599 = .ok (.aload_n 0, 1) := by decide +kernel
theorem dL_isWhole_600 : decode cL_isWhole 600 = .ok (.invokestatic 301, 3) := by decide +kernel
theorem dL_isWhole_603 : decode cL_isWhole 603 = .ok (.iload_n 3, 1) := by decide +kernel
theorem dL_isWhole_604 : decode cL_isWhole 604 = .ok (.ifCond .ne 8, 3) := by decide +kernel
theorem dL_isWhole_607 : decode cL_isWhole 607 = .ok (.ldc 133, 2) := by decide +kernel
theorem dL_isWhole_609 : decode cL_isWhole 609 = .ok (.goto 9, 3) := by decide +kernel
theorem dL_isWhole_612 : decode cL_isWhole 612 = .ok (.iload 4, 2) := by decide +kernel
theorem dL_isWhole_614 : decode cL_isWhole 614 = .ok (.i2f, 1) := by decide +kernel
theorem dL_isWhole_615 : decode cL_isWhole 615 = .ok (.iload_n 3, 1) := by decide +kernel
theorem dL_isWhole_616 : decode cL_isWhole 616 = .ok (.i2f, 1) := by decide +kernel
theorem dL_isWhole_617 : decode cL_isWhole 617 = .ok (.fdiv, 1) := by decide +kernel
theorem dL_isWhole_618 : decode cL_isWhole 618 = .ok (.fcmp .l, 1) := by decide +kernel
theorem dL_isWhole_619 : decode cL_isWhole 619 = .ok (.ifCond .ne 7, 3) := by decide +kernel
theorem dL_isWhole_622 : decode cL_isWhole 622 = .ok (.iconst 1, 1) := by decide +kernel
theorem dL_isWhole_623 : decode cL_isWhole 623 = .ok (.goto 4, 3) := by decide +kernel
theorem dL_isWhole_626 : decode cL_isWhole 626 = .ok (.iconst 0, 1) := by decide +kernel
theorem dL_isWhole_627 : decode cL_isWhole 627 = .ok (.istore 11, 2) := by decide +kernel
theorem dL_isWhole_629 : decode cL_isWhole 629 = .ok (.iload 10, 2) := by decide +kernel
theorem dL_isWhole_631 : decode cL_isWhole 631 = .ok (.ifCond .eq 37, 3) := by decide +kernel
theorem dL_isWhole_634 : decode cL_isWhole 634 = .ok (.iload 11, 2) := by decide +kernel
theorem dL_isWhole_636 : decode cL_isWhole 636 = .ok (.ifCond .eq 32, 3) := by decide +kernel
theorem dL_isWhole_639 : decode cL_isWhole 639 = .ok (.aload_n 0, 1) := by decide +kernel
theorem dL_isWhole_640 : decode cL_isWhole 640 = .ok (.iconst 2, 1) := by decide +kernel
theorem dL_isWhole_641 : decode cL_isWhole 641 = .ok (.iload_n 2, 1) := by decide +kernel
theorem dL_isWhole_642 : decode cL_isWhole 642 = .ok (.invokestatic 289, 3) := by decide +kernel
theorem dL_isWhole_645 : decode cL_isWhole 645 = .ok (.bipush (-75), 2) := by decide +kernel
theorem dL_isWhole_647 : decode cL_isWhole 647 = .ok (.if_icmp .ne 21, 3) := by decide +kernel
theorem dL_isWhole_650 : decode cL_isWhole 650 = .ok (.aload_n 0, 1) := by decide +kernel
theorem dL_isWhole_651 : decode cL_isWhole 651 = .ok (.aload_n 0, 1) := by decide +kernel
theorem dL_isWhole_652 : decode cL_isWhole 652 = .ok (.iconst 5, 1) := by decide +kernel
theorem dL_isWhole_653 : decode cL_isWhole 653 = .ok (.invokestatic 167, 3) := by decide +kernel
theorem dL_isWhole_656 : decode cL_isWhole 656 = .ok (.invokestatic 287, 3) := by decide +kernel
theorem dL_isWhole_659 : decode cL_isWhole 659 = .ok (.bipush (-75), 2) := by decide +kernel
theorem dL_isWhole_661 : decode cL_isWhole 661 = .ok (.if_icmp .ne 7, 3) := by decide +kernel
theorem dL_isWhole_664 : decode cL_isWhole 664 = .ok (.iconst 1, 1) := by decide +kernel
theorem dL_isWhole_665 : decode cL_isWhole 665 = .ok (.goto 4, 3) := by decide +kernel
theorem dL_isWhole_668 : decode cL_isWhole 668 = .ok (.iconst 0, 1) := by decide +kernel
