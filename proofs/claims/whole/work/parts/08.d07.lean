theorem d_L_law_593 : decode c_L_law 593 = .ok (.iadd, 1) := by decide +kernel
theorem d_L_law_594 : decode c_L_law 594 = .ok (.iaload, 1) := by decide +kernel
theorem d_L_law_595 : decode c_L_law 595 = .ok (.aload_n 3, 1) := by decide +kernel
theorem d_L_law_596 : decode c_L_law 596 = .ok (.invokestatic 84, 3) := by decide +kernel
theorem d_L_law_599 : decode c_L_law 599 = .ok (.istore 5, 2) := by decide +kernel
theorem d_L_law_601 : decode c_L_law 601 = .ok (.aload_n 2, 1) := by decide +kernel
theorem d_L_law_602 : decode c_L_law 602 = .ok (.aload_n 0, 1) := by decide +kernel
theorem d_L_law_603 : decode c_L_law 603 = .ok (.iload 4, 2) := by decide +kernel
theorem d_L_law_605 : decode c_L_law 605 = .ok (.iconst 1, 1) := by decide +kernel
theorem d_L_law_606 : decode c_L_law 606 = .ok (.iadd, 1) := by decide +kernel
theorem d_L_law_607 : decode c_L_law 607 = .ok (.iaload, 1) := by decide +kernel
theorem d_L_law_608 : decode c_L_law 608 = .ok (.invokevirtual 86, 3) := by decide +kernel
theorem d_L_law_611 : decode c_L_law 611 = .ok (.istore 6, 2) := by decide +kernel
theorem d_L_law_613 : decode c_L_law 613 = .ok (.aload_n 2, 1) := by decide +kernel
theorem d_L_law_614 : decode c_L_law 614 = .ok (.invokevirtual 57, 3) := by decide +kernel
theorem d_L_law_617 : decode c_L_law 617 = .ok (.iload 5, 2) := by decide +kernel
theorem d_L_law_619 : decode c_L_law 619 = .ok (.if_icmp .eq 5, 3) := by decide +kernel
theorem d_L_law_622 : decode c_L_law 622 = .ok (.iconst 0, 1) := by decide +kernel
theorem d_L_law_623 : decode c_L_law 623 = .ok (.ireturn, 1) := by decide +kernel
theorem d_L_law_624 : decode c_L_law 624 = .ok (.iload 5, 2) := by decide +kernel
theorem d_L_law_626 : decode c_L_law 626 = .ok (.ifCond .ne 15, 3) := by decide +kernel
theorem d_L_law_629 : decode c_L_law 629 = .ok (.aload_n 3, 1) := by decide +kernel
theorem d_L_law_630 : decode c_L_law 630 = .ok (.iconst 0, 1) := by decide +kernel
theorem d_L_law_631 : decode c_L_law 631 = .ok (.laload, 1) := by decide +kernel
theorem d_L_law_632 : decode c_L_law 632 = .ok (.iload 6, 2) := by decide +kernel
theorem d_L_law_634 : decode c_L_law 634 = .ok (.i2l, 1) := by decide +kernel
theorem d_L_law_635 : decode c_L_law 635 = .ok (.lcmp, 1) := by decide +kernel
theorem d_L_law_636 : decode c_L_law 636 = .ok (.ifCond .eq 5, 3) := by decide +kernel
theorem d_L_law_639 : decode c_L_law 639 = .ok (.iconst 0, 1) := by decide +kernel
theorem d_L_law_640 : decode c_L_law 640 = .ok (.ireturn, 1) := by decide +kernel
theorem d_L_law_641 : decode c_L_law 641 = .ok (.goto 28, 3) := by decide +kernel
theorem d_L_law_644 : decode c_L_law 644 = .ok (.aload_n 1, 1) := by decide +kernel
theorem d_L_law_645 : decode c_L_law 645 = .ok (.aload_n 0, 1) := by decide +kernel
theorem d_L_law_646 : decode c_L_law 646 = .ok (.iload 4, 2) := by decide +kernel
theorem d_L_law_648 : decode c_L_law 648 = .ok (.iconst 1, 1) := by decide +kernel
theorem d_L_law_649 : decode c_L_law 649 = .ok (.iadd, 1) := by decide +kernel
theorem d_L_law_650 : decode c_L_law 650 = .ok (.iaload, 1) := by decide +kernel
theorem d_L_law_651 : decode c_L_law 651 = .ok (.invokevirtual 87, 3) := by decide +kernel
theorem d_L_law_654 : decode c_L_law 654 = .ok (.aload_n 2, 1) := by decide +kernel
theorem d_L_law_655 : decode c_L_law 655 = .ok (.aload_n 0, 1) := by decide +kernel
theorem d_L_law_656 : decode c_L_law 656 = .ok (.iload 4, 2) := by decide +kernel
theorem d_L_law_658 : decode c_L_law 658 = .ok (.iconst 1, 1) := by decide +kernel
theorem d_L_law_659 : decode c_L_law 659 = .ok (.iadd, 1) := by decide +kernel
theorem d_L_law_660 : decode c_L_law 660 = .ok (.iaload, 1) := by decide +kernel
theorem d_L_law_661 : decode c_L_law 661 = .ok (.invokevirtual 90, 3) := by decide +kernel
theorem d_L_law_664 : decode c_L_law 664 = .ok (.if_icmp .eq 5, 3) := by decide +kernel
theorem d_L_law_667 : decode c_L_law 667 = .ok (.iconst 0, 1) := by decide +kernel
theorem d_L_law_668 : decode c_L_law 668 = .ok (.ireturn, 1) := by decide +kernel
theorem d_L_law_669 : decode c_L_law 669 = .ok (.iinc 4 5, 3) := by decide +kernel
theorem d_L_law_672 : decode c_L_law 672 = .ok (.goto (-649), 3) := by decide +kernel
theorem d_L_law_675 : decode c_L_law 675 = .ok (.iconst 1, 1) := by decide +kernel
theorem d_L_law_676 : decode c_L_law 676 = .ok (.ireturn, 1) := by decide +kernel
