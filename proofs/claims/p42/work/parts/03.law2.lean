theorem dL_law_531 : decode cL_law 531 = .ok (.invokestatic 65, 3) := by decide +kernel
theorem dL_law_534 : decode cL_law 534 = .ok (.istore 22, 2) := by decide +kernel
theorem dL_law_536 : decode cL_law 536 = .ok (.iload_n 2, 1) := by decide +kernel
theorem dL_law_537 : decode cL_law 537 = .ok (.iload 22, 2) := by decide +kernel
theorem dL_law_539 : decode cL_law 539 = .ok (.ldc 26, 2) := by decide +kernel
theorem dL_law_541 : decode cL_law 541 = .ok (.if_icmp .eq 34, 3) := by decide +kernel
theorem dL_law_544 : decode cL_law 544 = .ok (.iload 22, 2) := by decide +kernel
theorem dL_law_546 : decode cL_law 546 = .ok (.iload 4, 2) := by decide +kernel
theorem dL_law_548 : decode cL_law 548 = .ok (.if_icmp .eq 27, 3) := by decide +kernel
theorem dL_law_551 : decode cL_law 551 = .ok (.aload_n 1, 1) := by decide +kernel
theorem dL_law_552 : decode cL_law 552 = .ok (.lload 18, 2) := by decide +kernel
theorem dL_law_554 : decode cL_law 554 = .ok (.iload 21, 2) := by decide +kernel
theorem dL_law_556 : decode cL_law 556 = .ok (.invokestatic 68, 3) := by decide +kernel
theorem dL_law_559 : decode cL_law 559 = .ok (.iconst 2, 1) := by decide +kernel
theorem dL_law_560 : decode cL_law 560 = .ok (.if_icmp .eq 15, 3) := by decide +kernel
theorem dL_law_563 : decode cL_law 563 = .ok (.aload_n 1, 1) := by decide +kernel
theorem dL_law_564 : decode cL_law 564 = .ok (.lload 18, 2) := by decide +kernel
theorem dL_law_566 : decode cL_law 566 = .ok (.iload 21, 2) := by decide +kernel
theorem dL_law_568 : decode cL_law 568 = .ok (.invokestatic 68, 3) := by decide +kernel
theorem dL_law_571 : decode cL_law 571 = .ok (.iconst 1, 1) := by decide +kernel
theorem dL_law_572 : decode cL_law 572 = .ok (.if_icmp .ne 7, 3) := by decide +kernel
theorem dL_law_575 : decode cL_law 575 = .ok (.iconst 1, 1) := by decide +kernel
theorem dL_law_576 : decode cL_law 576 = .ok (.goto 4, 3) := by decide +kernel
theorem dL_law_579 : decode cL_law 579 = .ok (.iconst 0, 1) := by decide +kernel
theorem dL_law_580 : decode cL_law 580 = .ok (.iand, 1) := by decide +kernel
theorem dL_law_581 : decode cL_law 581 = .ok (.istore_n 2, 1) := by decide +kernel
theorem dL_law_582 : decode cL_law 582 = .ok (.iload_n 2, 1) := by decide +kernel
theorem dL_law_583 : decode cL_law 583 = .ok (.aload_n 1, 1) := by decide +kernel
theorem dL_law_584 : decode cL_law 584 = .ok (.lload 5, 2) := by decide +kernel
theorem dL_law_586 : decode cL_law 586 = .ok (.bipush 31, 2) := by decide +kernel
theorem dL_law_588 : decode cL_law 588 = .ok (.invokestatic 65, 3) := by decide +kernel
theorem dL_law_591 : decode cL_law 591 = .ok (.ldc 26, 2) := by decide +kernel
theorem dL_law_593 : decode cL_law 593 = .ok (.if_icmp .ne 20, 3) := by decide +kernel
theorem dL_law_596 : decode cL_law 596 = .ok (.aload_n 1, 1) := by decide +kernel
theorem dL_law_597 : decode cL_law 597 = .ok (.lload 5, 2) := by decide +kernel
theorem dL_law_599 : decode cL_law 599 = .ok (.bipush 31, 2) := by decide +kernel
theorem dL_law_601 : decode cL_law 601 = .ok (.invokestatic 68, 3) := by decide +kernel
theorem dL_law_604 : decode cL_law 604 = .ok (.ldc 26, 2) := by decide +kernel
theorem dL_law_606 : decode cL_law 606 = .ok (.if_icmp .ne 7, 3) := by decide +kernel
theorem dL_law_609 : decode cL_law 609 = .ok (.iconst 1, 1) := by decide +kernel
theorem dL_law_610 : decode cL_law 610 = .ok (.goto 4, 3) := by decide +kernel
theorem dL_law_613 : decode cL_law 613 = .ok (.iconst 0, 1) := by decide +kernel
theorem dL_law_614 : decode cL_law 614 = .ok (.iand, 1) := by decide +kernel
theorem dL_law_615 : decode cL_law 615 = .ok (.istore_n 2, 1) := by decide +kernel
theorem dL_law_616 : decode cL_law 616 = .ok (.aload_n 0, 1) := by decide +kernel
theorem dL_law_617 : decode cL_law 617 = .ok (.bipush 80, 2) := by decide +kernel
theorem dL_law_619 : decode cL_law 619 = .ok (.iload_n 3, 1) := by decide +kernel
theorem dL_law_620 : decode cL_law 620 = .ok (.iadd, 1) := by decide +kernel
theorem dL_law_621 : decode cL_law 621 = .ok (.sipush 256, 3) := by decide +kernel
theorem dL_law_624 : decode cL_law 624 = .ok (.invokestatic 70, 3) := by decide +kernel
theorem dL_law_627 : decode cL_law 627 = .ok (.istore 18, 2) := by decide +kernel
theorem dL_law_629 : decode cL_law 629 = .ok (.aload_n 0, 1) := by decide +kernel
theorem dL_law_630 : decode cL_law 630 = .ok (.bipush 90, 2) := by decide +kernel
theorem dL_law_632 : decode cL_law 632 = .ok (.iload_n 3, 1) := by decide +kernel
theorem dL_law_633 : decode cL_law 633 = .ok (.iadd, 1) := by decide +kernel
theorem dL_law_634 : decode cL_law 634 = .ok (.iconst 2, 1) := by decide +kernel
theorem dL_law_635 : decode cL_law 635 = .ok (.invokestatic 70, 3) := by decide +kernel
theorem dL_law_638 : decode cL_law 638 = .ok (.istore 19, 2) := by decide +kernel
theorem dL_law_640 : decode cL_law 640 = .ok (.iconst 0, 1) := by decide +kernel
theorem dL_law_641 : decode cL_law 641 = .ok (.istore 20, 2) := by decide +kernel
theorem dL_law_643 : decode cL_law 643 = .ok (.iload 19, 2) := by decide +kernel
theorem dL_law_645 : decode cL_law 645 = .ok (.istore 21, 2) := by decide +kernel
theorem dL_law_647 : decode cL_law 647 = .ok (.bipush 7, 2) := by decide +kernel
theorem dL_law_649 : decode cL_law 649 = .ok (.istore 22, 2) := by decide +kernel
theorem dL_law_651 : decode cL_law 651 = .ok (.iload 22, 2) := by decide +kernel
theorem dL_law_653 : decode cL_law 653 = .ok (.ifCond .lt 51, 3) := by decide +kernel
theorem dL_law_656 : decode cL_law 656 = .ok (.iload 18, 2) := by decide +kernel
theorem dL_law_658 : decode cL_law 658 = .ok (.iload 22, 2) := by decide +kernel
theorem dL_law_660 : decode cL_law 660 = .ok (.ishr, 1) := by decide +kernel
theorem dL_law_661 : decode cL_law 661 = .ok (.iconst 1, 1) := by decide +kernel
theorem dL_law_662 : decode cL_law 662 = .ok (.iand, 1) := by decide +kernel
theorem dL_law_663 : decode cL_law 663 = .ok (.istore 23, 2) := by decide +kernel
theorem dL_law_665 : decode cL_law 665 = .ok (.iconst 2, 1) := by decide +kernel
theorem dL_law_666 : decode cL_law 666 = .ok (.iload 20, 2) := by decide +kernel
theorem dL_law_668 : decode cL_law 668 = .ok (.imul, 1) := by decide +kernel
theorem dL_law_669 : decode cL_law 669 = .ok (.iload 23, 2) := by decide +kernel
theorem dL_law_671 : decode cL_law 671 = .ok (.iload 21, 2) := by decide +kernel
theorem dL_law_673 : decode cL_law 673 = .ok (.iadd, 1) := by decide +kernel
theorem dL_law_674 : decode cL_law 674 = .ok (.ifCond .ne 7, 3) := by decide +kernel
theorem dL_law_677 : decode cL_law 677 = .ok (.iconst 1, 1) := by decide +kernel
theorem dL_law_678 : decode cL_law 678 = .ok (.goto 4, 3) := by decide +kernel
theorem dL_law_681 : decode cL_law 681 = .ok (.iconst 0, 1) := by decide +kernel
theorem dL_law_682 : decode cL_law 682 = .ok (.iadd, 1) := by decide +kernel
theorem dL_law_683 : decode cL_law 683 = .ok (.istore 20, 2) := by decide +kernel
theorem dL_law_685 : decode cL_law 685 = .ok (.iconst 2, 1) := by decide +kernel
theorem dL_law_686 : decode cL_law 686 = .ok (.iload 20, 2) := by decide +kernel
theorem dL_law_688 : decode cL_law 688 = .ok (.imul, 1) := by decide +kernel
theorem dL_law_689 : decode cL_law 689 = .ok (.iload 23, 2) := by decide +kernel
theorem dL_law_691 : decode cL_law 691 = .ok (.iadd, 1) := by decide +kernel
theorem dL_law_692 : decode cL_law 692 = .ok (.istore 20, 2) := by decide +kernel
theorem dL_law_694 : decode cL_law 694 = .ok (.iload 23, 2) := by decide +kernel
theorem dL_law_696 : decode cL_law 696 = .ok (.istore 21, 2) := by decide +kernel
theorem dL_law_698 : decode cL_law 698 = .ok (.iinc 22 (-1), 3) := by decide +kernel
theorem dL_law_701 : decode cL_law 701 = .ok (.goto (-50), 3) := by decide +kernel
theorem dL_law_704 : decode cL_law 704 = .ok (.iload_n 2, 1) := by decide +kernel
theorem dL_law_705 : decode cL_law 705 = .ok (.aload_n 1, 1) := by decide +kernel
theorem dL_law_706 : decode cL_law 706 = .ok (.iload 18, 2) := by decide +kernel
theorem dL_law_708 : decode cL_law 708 = .ok (.iload 19, 2) := by decide +kernel
theorem dL_law_710 : decode cL_law 710 = .ok (.invokestatic 82, 3) := by decide +kernel
theorem dL_law_713 : decode cL_law 713 = .ok (.iload 20, 2) := by decide +kernel
theorem dL_law_715 : decode cL_law 715 = .ok (.if_icmp .ne 48, 3) := by decide +kernel
theorem dL_law_718 : decode cL_law 718 = .ok (.aload_n 1, 1) := by decide +kernel
theorem dL_law_719 : decode cL_law 719 = .ok (.iload 20, 2) := by decide +kernel
theorem dL_law_721 : decode cL_law 721 = .ok (.iload 19, 2) := by decide +kernel
theorem dL_law_723 : decode cL_law 723 = .ok (.invokestatic 85, 3) := by decide +kernel
theorem dL_law_726 : decode cL_law 726 = .ok (.iload 18, 2) := by decide +kernel
theorem dL_law_728 : decode cL_law 728 = .ok (.if_icmp .ne 35, 3) := by decide +kernel
theorem dL_law_731 : decode cL_law 731 = .ok (.aload_n 1, 1) := by decide +kernel
theorem dL_law_732 : decode cL_law 732 = .ok (.iload 20, 2) := by decide +kernel
theorem dL_law_734 : decode cL_law 734 = .ok (.iconst 2, 1) := by decide +kernel
theorem dL_law_735 : decode cL_law 735 = .ok (.iconst 2, 1) := by decide +kernel
theorem dL_law_736 : decode cL_law 736 = .ok (.aload_n 0, 1) := by decide +kernel
theorem dL_law_737 : decode cL_law 737 = .ok (.bipush 100, 2) := by decide +kernel
theorem dL_law_739 : decode cL_law 739 = .ok (.iload_n 3, 1) := by decide +kernel
theorem dL_law_740 : decode cL_law 740 = .ok (.iadd, 1) := by decide +kernel
theorem dL_law_741 : decode cL_law 741 = .ok (.bipush 8, 2) := by decide +kernel
theorem dL_law_743 : decode cL_law 743 = .ok (.invokestatic 70, 3) := by decide +kernel
theorem dL_law_746 : decode cL_law 746 = .ok (.imul, 1) := by decide +kernel
theorem dL_law_747 : decode cL_law 747 = .ok (.ishl, 1) := by decide +kernel
theorem dL_law_748 : decode cL_law 748 = .ok (.ixor, 1) := by decide +kernel
theorem dL_law_749 : decode cL_law 749 = .ok (.iload 19, 2) := by decide +kernel
theorem dL_law_751 : decode cL_law 751 = .ok (.invokestatic 85, 3) := by decide +kernel
theorem dL_law_754 : decode cL_law 754 = .ok (.ldc 26, 2) := by decide +kernel
theorem dL_law_756 : decode cL_law 756 = .ok (.if_icmp .ne 7, 3) := by decide +kernel
theorem dL_law_759 : decode cL_law 759 = .ok (.iconst 1, 1) := by decide +kernel
theorem dL_law_760 : decode cL_law 760 = .ok (.goto 4, 3) := by decide +kernel
theorem dL_law_763 : decode cL_law 763 = .ok (.iconst 0, 1) := by decide +kernel
theorem dL_law_764 : decode cL_law 764 = .ok (.iand, 1) := by decide +kernel
theorem dL_law_765 : decode cL_law 765 = .ok (.istore_n 2, 1) := by decide +kernel
theorem dL_law_766 : decode cL_law 766 = .ok (.iinc 3 1, 3) := by decide +kernel
theorem dL_law_769 : decode cL_law 769 = .ok (.goto (-695), 3) := by decide +kernel
theorem dL_law_772 : decode cL_law 772 = .ok (.iload_n 2, 1) := by decide +kernel
theorem dL_law_773 : decode cL_law 773 = .ok (.aload_n 1, 1) := by decide +kernel
theorem dL_law_774 : decode cL_law 774 = .ok (.sipush 256, 3) := by decide +kernel
theorem dL_law_777 : decode cL_law 777 = .ok (.iconst 0, 1) := by decide +kernel
theorem dL_law_778 : decode cL_law 778 = .ok (.invokestatic 82, 3) := by decide +kernel
theorem dL_law_781 : decode cL_law 781 = .ok (.ldc 23, 2) := by decide +kernel
theorem dL_law_783 : decode cL_law 783 = .ok (.if_icmp .ne 48, 3) := by decide +kernel
theorem dL_law_786 : decode cL_law 786 = .ok (.aload_n 1, 1) := by decide +kernel
theorem dL_law_787 : decode cL_law 787 = .ok (.iconst 0, 1) := by decide +kernel
theorem dL_law_788 : decode cL_law 788 = .ok (.iconst 2, 1) := by decide +kernel
theorem dL_law_789 : decode cL_law 789 = .ok (.invokestatic 82, 3) := by decide +kernel
theorem dL_law_792 : decode cL_law 792 = .ok (.ldc 23, 2) := by decide +kernel
theorem dL_law_794 : decode cL_law 794 = .ok (.if_icmp .ne 37, 3) := by decide +kernel
theorem dL_law_797 : decode cL_law 797 = .ok (.aload_n 1, 1) := by decide +kernel
theorem dL_law_798 : decode cL_law 798 = .ok (.ldc 59, 2) := by decide +kernel
theorem dL_law_800 : decode cL_law 800 = .ok (.iconst 0, 1) := by decide +kernel
theorem dL_law_801 : decode cL_law 801 = .ok (.invokestatic 85, 3) := by decide +kernel
theorem dL_law_804 : decode cL_law 804 = .ok (.ldc 23, 2) := by decide +kernel
theorem dL_law_806 : decode cL_law 806 = .ok (.if_icmp .ne 25, 3) := by decide +kernel
theorem dL_law_809 : decode cL_law 809 = .ok (.aload_n 1, 1) := by decide +kernel
theorem dL_law_810 : decode cL_law 810 = .ok (.invokevirtual 87, 3) := by decide +kernel
theorem dL_law_813 : decode cL_law 813 = .ok (.ifCond .ne 18, 3) := by decide +kernel
theorem dL_law_816 : decode cL_law 816 = .ok (.aload_n 1, 1) := by decide +kernel
