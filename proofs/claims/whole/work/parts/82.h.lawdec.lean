theorem d_Law_law_628 : decode b_Law_law 628 = .ok (.ifCond .ne 15, 3) := by decide +kernel
theorem d_Law_law_631 : decode b_Law_law 631 = .ok (.aload_n 3, 1) := by decide +kernel
theorem d_Law_law_632 : decode b_Law_law 632 = .ok (.iconst 0, 1) := by decide +kernel
theorem d_Law_law_633 : decode b_Law_law 633 = .ok (.laload, 1) := by decide +kernel
theorem d_Law_law_634 : decode b_Law_law 634 = .ok (.iload 6, 2) := by decide +kernel
theorem d_Law_law_636 : decode b_Law_law 636 = .ok (.i2l, 1) := by decide +kernel
theorem d_Law_law_637 : decode b_Law_law 637 = .ok (.lcmp, 1) := by decide +kernel
theorem d_Law_law_638 : decode b_Law_law 638 = .ok (.ifCond .eq 5, 3) := by decide +kernel
theorem d_Law_law_641 : decode b_Law_law 641 = .ok (.iconst 0, 1) := by decide +kernel
theorem d_Law_law_642 : decode b_Law_law 642 = .ok (.ireturn, 1) := by decide +kernel
theorem d_Law_law_643 : decode b_Law_law 643 = .ok (.goto 501, 3) := by decide +kernel
theorem d_Law_law_646 : decode b_Law_law 646 = .ok (.aload_n 1, 1) := by decide +kernel
theorem d_Law_law_647 : decode b_Law_law 647 = .ok (.aload_n 0, 1) := by decide +kernel
theorem d_Law_law_648 : decode b_Law_law 648 = .ok (.iload 4, 2) := by decide +kernel
theorem d_Law_law_650 : decode b_Law_law 650 = .ok (.iconst 1, 1) := by decide +kernel
theorem d_Law_law_651 : decode b_Law_law 651 = .ok (.iadd, 1) := by decide +kernel
theorem d_Law_law_652 : decode b_Law_law 652 = .ok (.iaload, 1) := by decide +kernel
theorem d_Law_law_653 : decode b_Law_law 653 = .ok (.aload_n 0, 1) := by decide +kernel
theorem d_Law_law_654 : decode b_Law_law 654 = .ok (.iload 4, 2) := by decide +kernel
theorem d_Law_law_656 : decode b_Law_law 656 = .ok (.iconst 2, 1) := by decide +kernel
theorem d_Law_law_657 : decode b_Law_law 657 = .ok (.iadd, 1) := by decide +kernel
theorem d_Law_law_658 : decode b_Law_law 658 = .ok (.iaload, 1) := by decide +kernel
theorem d_Law_law_659 : decode b_Law_law 659 = .ok (.aload_n 3, 1) := by decide +kernel
theorem d_Law_law_660 : decode b_Law_law 660 = .ok (.invokestatic 100, 3) := by decide +kernel
theorem d_Law_law_663 : decode b_Law_law 663 = .ok (.istore 5, 2) := by decide +kernel
theorem d_Law_law_665 : decode b_Law_law 665 = .ok (.aload_n 2, 1) := by decide +kernel
theorem d_Law_law_666 : decode b_Law_law 666 = .ok (.aload_n 0, 1) := by decide +kernel
theorem d_Law_law_667 : decode b_Law_law 667 = .ok (.iload 4, 2) := by decide +kernel
theorem d_Law_law_669 : decode b_Law_law 669 = .ok (.iconst 1, 1) := by decide +kernel
theorem d_Law_law_670 : decode b_Law_law 670 = .ok (.iadd, 1) := by decide +kernel
theorem d_Law_law_671 : decode b_Law_law 671 = .ok (.iaload, 1) := by decide +kernel
theorem d_Law_law_672 : decode b_Law_law 672 = .ok (.aload_n 0, 1) := by decide +kernel
theorem d_Law_law_673 : decode b_Law_law 673 = .ok (.iload 4, 2) := by decide +kernel
theorem d_Law_law_675 : decode b_Law_law 675 = .ok (.iconst 2, 1) := by decide +kernel
theorem d_Law_law_676 : decode b_Law_law 676 = .ok (.iadd, 1) := by decide +kernel
theorem d_Law_law_677 : decode b_Law_law 677 = .ok (.iaload, 1) := by decide +kernel
theorem d_Law_law_678 : decode b_Law_law 678 = .ok (.invokevirtual 103, 3) := by decide +kernel
theorem d_Law_law_681 : decode b_Law_law 681 = .ok (.istore 6, 2) := by decide +kernel
theorem d_Law_law_683 : decode b_Law_law 683 = .ok (.aload_n 2, 1) := by decide +kernel
theorem d_Law_law_684 : decode b_Law_law 684 = .ok (.invokevirtual 67, 3) := by decide +kernel
theorem d_Law_law_687 : decode b_Law_law 687 = .ok (.iload 5, 2) := by decide +kernel
theorem d_Law_law_689 : decode b_Law_law 689 = .ok (.if_icmp .eq 5, 3) := by decide +kernel
theorem d_Law_law_692 : decode b_Law_law 692 = .ok (.iconst 0, 1) := by decide +kernel
theorem d_Law_law_693 : decode b_Law_law 693 = .ok (.ireturn, 1) := by decide +kernel
theorem d_Law_law_694 : decode b_Law_law 694 = .ok (.iload 5, 2) := by decide +kernel
theorem d_Law_law_696 : decode b_Law_law 696 = .ok (.ifCond .ne 22, 3) := by decide +kernel
theorem d_Law_law_699 : decode b_Law_law 699 = .ok (.aload_n 3, 1) := by decide +kernel
theorem d_Law_law_700 : decode b_Law_law 700 = .ok (.iconst 0, 1) := by decide +kernel
theorem d_Law_law_701 : decode b_Law_law 701 = .ok (.laload, 1) := by decide +kernel
theorem d_Law_law_702 : decode b_Law_law 702 = .ok (.iload 6, 2) := by decide +kernel
theorem d_Law_law_704 : decode b_Law_law 704 = .ok (.ifCond .eq 7, 3) := by decide +kernel
theorem d_Law_law_707 : decode b_Law_law 707 = .ok (.lconst 1, 1) := by decide +kernel
theorem d_Law_law_708 : decode b_Law_law 708 = .ok (.goto 4, 3) := by decide +kernel
theorem d_Law_law_711 : decode b_Law_law 711 = .ok (.lconst 0, 1) := by decide +kernel
theorem d_Law_law_712 : decode b_Law_law 712 = .ok (.lcmp, 1) := by decide +kernel
theorem d_Law_law_713 : decode b_Law_law 713 = .ok (.ifCond .eq 5, 3) := by decide +kernel
theorem d_Law_law_716 : decode b_Law_law 716 = .ok (.iconst 0, 1) := by decide +kernel
theorem d_Law_law_717 : decode b_Law_law 717 = .ok (.ireturn, 1) := by decide +kernel
theorem d_Law_law_718 : decode b_Law_law 718 = .ok (.goto 426, 3) := by decide +kernel
theorem d_Law_law_721 : decode b_Law_law 721 = .ok (.aload_n 1, 1) := by decide +kernel
