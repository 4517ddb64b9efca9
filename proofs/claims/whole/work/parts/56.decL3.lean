theorem d_L_law_564 : decode code 564 = .ok (.aload_n 0, 1) := by decide +kernel
theorem d_L_law_565 : decode code 565 = .ok (.iload 4, 2) := by decide +kernel
theorem d_L_law_567 : decode code 567 = .ok (.iconst 2, 1) := by decide +kernel
theorem d_L_law_568 : decode code 568 = .ok (.iadd, 1) := by decide +kernel
theorem d_L_law_569 : decode code 569 = .ok (.iaload, 1) := by decide +kernel
theorem d_L_law_570 : decode code 570 = .ok (.invokevirtual 124, 3) := by decide +kernel
theorem d_L_law_573 : decode code 573 = .ok (.lstore 6, 2) := by decide +kernel
theorem d_L_law_575 : decode code 575 = .ok (.aload_n 2, 1) := by decide +kernel
theorem d_L_law_576 : decode code 576 = .ok (.invokevirtual 100, 3) := by decide +kernel
theorem d_L_law_579 : decode code 579 = .ok (.iload 5, 2) := by decide +kernel
theorem d_L_law_581 : decode code 581 = .ok (.if_icmp .eq 5, 3) := by decide +kernel
theorem d_L_law_584 : decode code 584 = .ok (.iconst 0, 1) := by decide +kernel
theorem d_L_law_585 : decode code 585 = .ok (.ireturn, 1) := by decide +kernel
theorem d_L_law_586 : decode code 586 = .ok (.iload 5, 2) := by decide +kernel
theorem d_L_law_588 : decode code 588 = .ok (.ifCond .ne 14, 3) := by decide +kernel
theorem d_L_law_591 : decode code 591 = .ok (.aload_n 3, 1) := by decide +kernel
theorem d_L_law_592 : decode code 592 = .ok (.iconst 0, 1) := by decide +kernel
theorem d_L_law_593 : decode code 593 = .ok (.laload, 1) := by decide +kernel
theorem d_L_law_594 : decode code 594 = .ok (.lload 6, 2) := by decide +kernel
theorem d_L_law_596 : decode code 596 = .ok (.lcmp, 1) := by decide +kernel
theorem d_L_law_597 : decode code 597 = .ok (.ifCond .eq 5, 3) := by decide +kernel
theorem d_L_law_600 : decode code 600 = .ok (.iconst 0, 1) := by decide +kernel
theorem d_L_law_601 : decode code 601 = .ok (.ireturn, 1) := by decide +kernel
theorem d_L_law_602 : decode code 602 = .ok (.goto 909, 3) := by decide +kernel
theorem d_L_law_605 : decode code 605 = .ok (.aload_n 1, 1) := by decide +kernel
theorem d_L_law_606 : decode code 606 = .ok (.aload_n 0, 1) := by decide +kernel
theorem d_L_law_607 : decode code 607 = .ok (.iload 4, 2) := by decide +kernel
theorem d_L_law_609 : decode code 609 = .ok (.iconst 1, 1) := by decide +kernel
theorem d_L_law_610 : decode code 610 = .ok (.iadd, 1) := by decide +kernel
theorem d_L_law_611 : decode code 611 = .ok (.iaload, 1) := by decide +kernel
theorem d_L_law_612 : decode code 612 = .ok (.aload_n 3, 1) := by decide +kernel
theorem d_L_law_613 : decode code 613 = .ok (.invokestatic 125, 3) := by decide +kernel
theorem d_L_law_616 : decode code 616 = .ok (.istore 5, 2) := by decide +kernel
theorem d_L_law_618 : decode code 618 = .ok (.aload_n 2, 1) := by decide +kernel
theorem d_L_law_619 : decode code 619 = .ok (.aload_n 0, 1) := by decide +kernel
theorem d_L_law_620 : decode code 620 = .ok (.iload 4, 2) := by decide +kernel
theorem d_L_law_622 : decode code 622 = .ok (.iconst 1, 1) := by decide +kernel
theorem d_L_law_623 : decode code 623 = .ok (.iadd, 1) := by decide +kernel
theorem d_L_law_624 : decode code 624 = .ok (.iaload, 1) := by decide +kernel
theorem d_L_law_625 : decode code 625 = .ok (.invokevirtual 128, 3) := by decide +kernel
theorem d_L_law_628 : decode code 628 = .ok (.istore 6, 2) := by decide +kernel
theorem d_L_law_630 : decode code 630 = .ok (.aload_n 2, 1) := by decide +kernel
theorem d_L_law_631 : decode code 631 = .ok (.invokevirtual 100, 3) := by decide +kernel
theorem d_L_law_634 : decode code 634 = .ok (.iload 5, 2) := by decide +kernel
theorem d_L_law_636 : decode code 636 = .ok (.if_icmp .eq 5, 3) := by decide +kernel
theorem d_L_law_639 : decode code 639 = .ok (.iconst 0, 1) := by decide +kernel
theorem d_L_law_640 : decode code 640 = .ok (.ireturn, 1) := by decide +kernel
theorem d_L_law_641 : decode code 641 = .ok (.iload 5, 2) := by decide +kernel
theorem d_L_law_643 : decode code 643 = .ok (.ifCond .ne 15, 3) := by decide +kernel
theorem d_L_law_646 : decode code 646 = .ok (.aload_n 3, 1) := by decide +kernel
theorem d_L_law_647 : decode code 647 = .ok (.iconst 0, 1) := by decide +kernel
theorem d_L_law_648 : decode code 648 = .ok (.laload, 1) := by decide +kernel
theorem d_L_law_649 : decode code 649 = .ok (.iload 6, 2) := by decide +kernel
theorem d_L_law_651 : decode code 651 = .ok (.i2l, 1) := by decide +kernel
theorem d_L_law_652 : decode code 652 = .ok (.lcmp, 1) := by decide +kernel
theorem d_L_law_653 : decode code 653 = .ok (.ifCond .eq 5, 3) := by decide +kernel
theorem d_L_law_656 : decode code 656 = .ok (.iconst 0, 1) := by decide +kernel
theorem d_L_law_657 : decode code 657 = .ok (.ireturn, 1) := by decide +kernel
theorem d_L_law_658 : decode code 658 = .ok (.goto 853, 3) := by decide +kernel
theorem d_L_law_661 : decode code 661 = .ok (.aload_n 1, 1) := by decide +kernel
theorem d_L_law_662 : decode code 662 = .ok (.aload_n 0, 1) := by decide +kernel
theorem d_L_law_663 : decode code 663 = .ok (.iload 4, 2) := by decide +kernel
theorem d_L_law_665 : decode code 665 = .ok (.iconst 1, 1) := by decide +kernel
theorem d_L_law_666 : decode code 666 = .ok (.iadd, 1) := by decide +kernel
theorem d_L_law_667 : decode code 667 = .ok (.iaload, 1) := by decide +kernel
theorem d_L_law_668 : decode code 668 = .ok (.aload_n 3, 1) := by decide +kernel
theorem d_L_law_669 : decode code 669 = .ok (.invokestatic 129, 3) := by decide +kernel
theorem d_L_law_672 : decode code 672 = .ok (.istore 5, 2) := by decide +kernel
theorem d_L_law_674 : decode code 674 = .ok (.aload_n 2, 1) := by decide +kernel
theorem d_L_law_675 : decode code 675 = .ok (.aload_n 0, 1) := by decide +kernel
theorem d_L_law_676 : decode code 676 = .ok (.iload 4, 2) := by decide +kernel
theorem d_L_law_678 : decode code 678 = .ok (.iconst 1, 1) := by decide +kernel
theorem d_L_law_679 : decode code 679 = .ok (.iadd, 1) := by decide +kernel
theorem d_L_law_680 : decode code 680 = .ok (.iaload, 1) := by decide +kernel
theorem d_L_law_681 : decode code 681 = .ok (.invokevirtual 131, 3) := by decide +kernel
theorem d_L_law_684 : decode code 684 = .ok (.istore 6, 2) := by decide +kernel
theorem d_L_law_686 : decode code 686 = .ok (.aload_n 2, 1) := by decide +kernel
theorem d_L_law_687 : decode code 687 = .ok (.invokevirtual 100, 3) := by decide +kernel
theorem d_L_law_690 : decode code 690 = .ok (.iload 5, 2) := by decide +kernel
theorem d_L_law_692 : decode code 692 = .ok (.if_icmp .eq 5, 3) := by decide +kernel
theorem d_L_law_695 : decode code 695 = .ok (.iconst 0, 1) := by decide +kernel
theorem d_L_law_696 : decode code 696 = .ok (.ireturn, 1) := by decide +kernel
theorem d_L_law_697 : decode code 697 = .ok (.iload 5, 2) := by decide +kernel
theorem d_L_law_699 : decode code 699 = .ok (.ifCond .ne 15, 3) := by decide +kernel
theorem d_L_law_702 : decode code 702 = .ok (.aload_n 3, 1) := by decide +kernel
theorem d_L_law_703 : decode code 703 = .ok (.iconst 0, 1) := by decide +kernel
theorem d_L_law_704 : decode code 704 = .ok (.laload, 1) := by decide +kernel
theorem d_L_law_705 : decode code 705 = .ok (.iload 6, 2) := by decide +kernel
theorem d_L_law_707 : decode code 707 = .ok (.i2l, 1) := by decide +kernel
theorem d_L_law_708 : decode code 708 = .ok (.lcmp, 1) := by decide +kernel
theorem d_L_law_709 : decode code 709 = .ok (.ifCond .eq 5, 3) := by decide +kernel
theorem d_L_law_712 : decode code 712 = .ok (.iconst 0, 1) := by decide +kernel
theorem d_L_law_713 : decode code 713 = .ok (.ireturn, 1) := by decide +kernel
theorem d_L_law_714 : decode code 714 = .ok (.goto 797, 3) := by decide +kernel
theorem d_L_law_717 : decode code 717 = .ok (.aload_n 1, 1) := by decide +kernel
theorem d_L_law_718 : decode code 718 = .ok (.aload_n 0, 1) := by decide +kernel
theorem d_L_law_719 : decode code 719 = .ok (.iload 4, 2) := by decide +kernel
theorem d_L_law_721 : decode code 721 = .ok (.iconst 1, 1) := by decide +kernel
theorem d_L_law_722 : decode code 722 = .ok (.iadd, 1) := by decide +kernel
theorem d_L_law_723 : decode code 723 = .ok (.iaload, 1) := by decide +kernel
theorem d_L_law_724 : decode code 724 = .ok (.aload_n 3, 1) := by decide +kernel
theorem d_L_law_725 : decode code 725 = .ok (.invokestatic 132, 3) := by decide +kernel
theorem d_L_law_728 : decode code 728 = .ok (.istore 5, 2) := by decide +kernel
theorem d_L_law_730 : decode code 730 = .ok (.aload_n 2, 1) := by decide +kernel
theorem d_L_law_731 : decode code 731 = .ok (.aload_n 0, 1) := by decide +kernel
theorem d_L_law_732 : decode code 732 = .ok (.iload 4, 2) := by decide +kernel
theorem d_L_law_734 : decode code 734 = .ok (.iconst 1, 1) := by decide +kernel
theorem d_L_law_735 : decode code 735 = .ok (.iadd, 1) := by decide +kernel
theorem d_L_law_736 : decode code 736 = .ok (.iaload, 1) := by decide +kernel
theorem d_L_law_737 : decode code 737 = .ok (.invokevirtual 134, 3) := by decide +kernel
theorem d_L_law_740 : decode code 740 = .ok (.istore 6, 2) := by decide +kernel
theorem d_L_law_742 : decode code 742 = .ok (.aload_n 2, 1) := by decide +kernel
theorem d_L_law_743 : decode code 743 = .ok (.invokevirtual 100, 3) := by decide +kernel
theorem d_L_law_746 : decode code 746 = .ok (.iload 5, 2) := by decide +kernel
theorem d_L_law_748 : decode code 748 = .ok (.if_icmp .eq 5, 3) := by decide +kernel
theorem d_L_law_751 : decode code 751 = .ok (.iconst 0, 1) := by decide +kernel
theorem d_L_law_752 : decode code 752 = .ok (.ireturn, 1) := by decide +kernel
theorem d_L_law_753 : decode code 753 = .ok (.iload 5, 2) := by decide +kernel
theorem d_L_law_755 : decode code 755 = .ok (.ifCond .ne 22, 3) := by decide +kernel
theorem d_L_law_758 : decode code 758 = .ok (.aload_n 3, 1) := by decide +kernel
theorem d_L_law_759 : decode code 759 = .ok (.iconst 0, 1) := by decide +kernel
theorem d_L_law_760 : decode code 760 = .ok (.laload, 1) := by decide +kernel
theorem d_L_law_761 : decode code 761 = .ok (.iload 6, 2) := by decide +kernel
theorem d_L_law_763 : decode code 763 = .ok (.ifCond .eq 7, 3) := by decide +kernel
theorem d_L_law_766 : decode code 766 = .ok (.lconst 1, 1) := by decide +kernel
theorem d_L_law_767 : decode code 767 = .ok (.goto 4, 3) := by decide +kernel
theorem d_L_law_770 : decode code 770 = .ok (.lconst 0, 1) := by decide +kernel
theorem d_L_law_771 : decode code 771 = .ok (.lcmp, 1) := by decide +kernel
theorem d_L_law_772 : decode code 772 = .ok (.ifCond .eq 5, 3) := by decide +kernel
theorem d_L_law_775 : decode code 775 = .ok (.iconst 0, 1) := by decide +kernel
theorem d_L_law_776 : decode code 776 = .ok (.ireturn, 1) := by decide +kernel
theorem d_L_law_777 : decode code 777 = .ok (.goto 734, 3) := by decide +kernel
theorem d_L_law_780 : decode code 780 = .ok (.aload_n 1, 1) := by decide +kernel
theorem d_L_law_781 : decode code 781 = .ok (.aload_n 0, 1) := by decide +kernel
theorem d_L_law_782 : decode code 782 = .ok (.iload 4, 2) := by decide +kernel
theorem d_L_law_784 : decode code 784 = .ok (.iconst 1, 1) := by decide +kernel
theorem d_L_law_785 : decode code 785 = .ok (.iadd, 1) := by decide +kernel
theorem d_L_law_786 : decode code 786 = .ok (.iaload, 1) := by decide +kernel
theorem d_L_law_787 : decode code 787 = .ok (.aload_n 0, 1) := by decide +kernel
theorem d_L_law_788 : decode code 788 = .ok (.iload 4, 2) := by decide +kernel
theorem d_L_law_790 : decode code 790 = .ok (.iconst 2, 1) := by decide +kernel
theorem d_L_law_791 : decode code 791 = .ok (.iadd, 1) := by decide +kernel
theorem d_L_law_792 : decode code 792 = .ok (.iaload, 1) := by decide +kernel
theorem d_L_law_793 : decode code 793 = .ok (.aload_n 3, 1) := by decide +kernel
theorem d_L_law_794 : decode code 794 = .ok (.invokestatic 135, 3) := by decide +kernel
theorem d_L_law_797 : decode code 797 = .ok (.istore 5, 2) := by decide +kernel
theorem d_L_law_799 : decode code 799 = .ok (.aload_n 2, 1) := by decide +kernel
theorem d_L_law_800 : decode code 800 = .ok (.aload_n 0, 1) := by decide +kernel
theorem d_L_law_801 : decode code 801 = .ok (.iload 4, 2) := by decide +kernel
theorem d_L_law_803 : decode code 803 = .ok (.iconst 1, 1) := by decide +kernel
theorem d_L_law_804 : decode code 804 = .ok (.iadd, 1) := by decide +kernel
theorem d_L_law_805 : decode code 805 = .ok (.iaload, 1) := by decide +kernel
theorem d_L_law_806 : decode code 806 = .ok (.aload_n 0, 1) := by decide +kernel
theorem d_L_law_807 : decode code 807 = .ok (.iload 4, 2) := by decide +kernel
theorem d_L_law_809 : decode code 809 = .ok (.iconst 2, 1) := by decide +kernel
theorem d_L_law_810 : decode code 810 = .ok (.iadd, 1) := by decide +kernel
theorem d_L_law_811 : decode code 811 = .ok (.iaload, 1) := by decide +kernel
theorem d_L_law_812 : decode code 812 = .ok (.invokevirtual 137, 3) := by decide +kernel
theorem d_L_law_815 : decode code 815 = .ok (.istore 6, 2) := by decide +kernel
theorem d_L_law_817 : decode code 817 = .ok (.aload_n 2, 1) := by decide +kernel
