/-! The law's instructions. -/
theorem zqd_550 : decode code 550 = .ok (.aload_n 0, 1) := by decide +kernel
theorem zqd_551 : decode code 551 = .ok (.iload_n 3, 1) := by decide +kernel
theorem zqd_552 : decode code 552 = .ok (.iconst 4, 1) := by decide +kernel
theorem zqd_553 : decode code 553 = .ok (.iadd, 1) := by decide +kernel
theorem zqd_554 : decode code 554 = .ok (.iaload, 1) := by decide +kernel
theorem zqd_555 : decode code 555 = .ok (.aload_n 0, 1) := by decide +kernel
theorem zqd_556 : decode code 556 = .ok (.iload_n 3, 1) := by decide +kernel
theorem zqd_557 : decode code 557 = .ok (.iconst 5, 1) := by decide +kernel
theorem zqd_558 : decode code 558 = .ok (.iadd, 1) := by decide +kernel
theorem zqd_559 : decode code 559 = .ok (.iaload, 1) := by decide +kernel
theorem zqd_560 : decode code 560 = .ok (.invokevirtual 54, 3) := by decide +kernel
theorem zqd_563 : decode code 563 = .ok (.pop, 1) := by decide +kernel
theorem zqd_564 : decode code 564 = .ok (.goto 1029, 3) := by decide +kernel
theorem zqd_567 : decode code 567 = .ok (.aload_n 1, 1) := by decide +kernel
theorem zqd_568 : decode code 568 = .ok (.aload_n 0, 1) := by decide +kernel
theorem zqd_569 : decode code 569 = .ok (.iload_n 3, 1) := by decide +kernel
theorem zqd_570 : decode code 570 = .ok (.iconst 1, 1) := by decide +kernel
theorem zqd_571 : decode code 571 = .ok (.iadd, 1) := by decide +kernel
theorem zqd_572 : decode code 572 = .ok (.iaload, 1) := by decide +kernel
theorem zqd_573 : decode code 573 = .ok (.invokevirtual 55, 3) := by decide +kernel
theorem zqd_576 : decode code 576 = .ok (.pop, 1) := by decide +kernel
theorem zqd_577 : decode code 577 = .ok (.aload_n 2, 1) := by decide +kernel
theorem zqd_578 : decode code 578 = .ok (.aload_n 0, 1) := by decide +kernel
theorem zqd_579 : decode code 579 = .ok (.iload_n 3, 1) := by decide +kernel
theorem zqd_580 : decode code 580 = .ok (.iconst 1, 1) := by decide +kernel
theorem zqd_581 : decode code 581 = .ok (.iadd, 1) := by decide +kernel
theorem zqd_582 : decode code 582 = .ok (.iaload, 1) := by decide +kernel
theorem zqd_583 : decode code 583 = .ok (.invokevirtual 59, 3) := by decide +kernel
theorem zqd_586 : decode code 586 = .ok (.pop, 1) := by decide +kernel
theorem zqd_587 : decode code 587 = .ok (.goto 1006, 3) := by decide +kernel
theorem zqd_590 : decode code 590 = .ok (.aload_n 1, 1) := by decide +kernel
theorem zqd_591 : decode code 591 = .ok (.aload_n 0, 1) := by decide +kernel
theorem zqd_592 : decode code 592 = .ok (.iload_n 3, 1) := by decide +kernel
theorem zqd_593 : decode code 593 = .ok (.iconst 1, 1) := by decide +kernel
theorem zqd_594 : decode code 594 = .ok (.iadd, 1) := by decide +kernel
theorem zqd_595 : decode code 595 = .ok (.iaload, 1) := by decide +kernel
theorem zqd_596 : decode code 596 = .ok (.invokevirtual 60, 3) := by decide +kernel
theorem zqd_599 : decode code 599 = .ok (.pop, 1) := by decide +kernel
theorem zqd_600 : decode code 600 = .ok (.aload_n 2, 1) := by decide +kernel
theorem zqd_601 : decode code 601 = .ok (.aload_n 0, 1) := by decide +kernel
theorem zqd_602 : decode code 602 = .ok (.iload_n 3, 1) := by decide +kernel
theorem zqd_603 : decode code 603 = .ok (.iconst 1, 1) := by decide +kernel
theorem zqd_604 : decode code 604 = .ok (.iadd, 1) := by decide +kernel
theorem zqd_605 : decode code 605 = .ok (.iaload, 1) := by decide +kernel
theorem zqd_606 : decode code 606 = .ok (.invokevirtual 63, 3) := by decide +kernel
theorem zqd_609 : decode code 609 = .ok (.pop, 1) := by decide +kernel
theorem zqd_610 : decode code 610 = .ok (.goto 983, 3) := by decide +kernel
theorem zqd_613 : decode code 613 = .ok (.aload_n 1, 1) := by decide +kernel
theorem zqd_614 : decode code 614 = .ok (.aload_n 0, 1) := by decide +kernel
theorem zqd_615 : decode code 615 = .ok (.iload_n 3, 1) := by decide +kernel
theorem zqd_616 : decode code 616 = .ok (.iconst 1, 1) := by decide +kernel
theorem zqd_617 : decode code 617 = .ok (.iadd, 1) := by decide +kernel
theorem zqd_618 : decode code 618 = .ok (.iaload, 1) := by decide +kernel
theorem zqd_619 : decode code 619 = .ok (.aload_n 0, 1) := by decide +kernel
theorem zqd_620 : decode code 620 = .ok (.iload_n 3, 1) := by decide +kernel
theorem zqd_621 : decode code 621 = .ok (.iconst 2, 1) := by decide +kernel
theorem zqd_622 : decode code 622 = .ok (.iadd, 1) := by decide +kernel
theorem zqd_623 : decode code 623 = .ok (.iaload, 1) := by decide +kernel
theorem zqd_624 : decode code 624 = .ok (.invokevirtual 64, 3) := by decide +kernel
theorem zqd_627 : decode code 627 = .ok (.pop, 1) := by decide +kernel
theorem zqd_628 : decode code 628 = .ok (.aload_n 2, 1) := by decide +kernel
theorem zqd_629 : decode code 629 = .ok (.aload_n 0, 1) := by decide +kernel
theorem zqd_630 : decode code 630 = .ok (.iload_n 3, 1) := by decide +kernel
theorem zqd_631 : decode code 631 = .ok (.iconst 1, 1) := by decide +kernel
theorem zqd_632 : decode code 632 = .ok (.iadd, 1) := by decide +kernel
theorem zqd_633 : decode code 633 = .ok (.iaload, 1) := by decide +kernel
theorem zqd_634 : decode code 634 = .ok (.aload_n 0, 1) := by decide +kernel
theorem zqd_635 : decode code 635 = .ok (.iload_n 3, 1) := by decide +kernel
theorem zqd_636 : decode code 636 = .ok (.iconst 2, 1) := by decide +kernel
theorem zqd_637 : decode code 637 = .ok (.iadd, 1) := by decide +kernel
theorem zqd_638 : decode code 638 = .ok (.iaload, 1) := by decide +kernel
theorem zqd_639 : decode code 639 = .ok (.invokevirtual 68, 3) := by decide +kernel
theorem zqd_642 : decode code 642 = .ok (.pop, 1) := by decide +kernel
theorem zqd_643 : decode code 643 = .ok (.goto 950, 3) := by decide +kernel
theorem zqd_646 : decode code 646 = .ok (.aload_n 1, 1) := by decide +kernel
theorem zqd_647 : decode code 647 = .ok (.aload_n 0, 1) := by decide +kernel
theorem zqd_648 : decode code 648 = .ok (.iload_n 3, 1) := by decide +kernel
theorem zqd_649 : decode code 649 = .ok (.iconst 1, 1) := by decide +kernel
theorem zqd_650 : decode code 650 = .ok (.iadd, 1) := by decide +kernel
theorem zqd_651 : decode code 651 = .ok (.iaload, 1) := by decide +kernel
theorem zqd_652 : decode code 652 = .ok (.aload_n 0, 1) := by decide +kernel
theorem zqd_653 : decode code 653 = .ok (.iload_n 3, 1) := by decide +kernel
theorem zqd_654 : decode code 654 = .ok (.iconst 2, 1) := by decide +kernel
theorem zqd_655 : decode code 655 = .ok (.iadd, 1) := by decide +kernel
theorem zqd_656 : decode code 656 = .ok (.iaload, 1) := by decide +kernel
theorem zqd_657 : decode code 657 = .ok (.invokevirtual 69, 3) := by decide +kernel
theorem zqd_660 : decode code 660 = .ok (.pop, 1) := by decide +kernel
theorem zqd_661 : decode code 661 = .ok (.aload_n 2, 1) := by decide +kernel
theorem zqd_662 : decode code 662 = .ok (.aload_n 0, 1) := by decide +kernel
theorem zqd_663 : decode code 663 = .ok (.iload_n 3, 1) := by decide +kernel
theorem zqd_664 : decode code 664 = .ok (.iconst 1, 1) := by decide +kernel
theorem zqd_665 : decode code 665 = .ok (.iadd, 1) := by decide +kernel
theorem zqd_666 : decode code 666 = .ok (.iaload, 1) := by decide +kernel
theorem zqd_667 : decode code 667 = .ok (.aload_n 0, 1) := by decide +kernel
theorem zqd_668 : decode code 668 = .ok (.iload_n 3, 1) := by decide +kernel
theorem zqd_669 : decode code 669 = .ok (.iconst 2, 1) := by decide +kernel
theorem zqd_670 : decode code 670 = .ok (.iadd, 1) := by decide +kernel
theorem zqd_671 : decode code 671 = .ok (.iaload, 1) := by decide +kernel
theorem zqd_672 : decode code 672 = .ok (.invokevirtual 72, 3) := by decide +kernel
theorem zqd_675 : decode code 675 = .ok (.pop, 1) := by decide +kernel
theorem zqd_676 : decode code 676 = .ok (.goto 917, 3) := by decide +kernel
theorem zqd_679 : decode code 679 = .ok (.aload_n 1, 1) := by decide +kernel
theorem zqd_680 : decode code 680 = .ok (.aload_n 0, 1) := by decide +kernel
theorem zqd_681 : decode code 681 = .ok (.iload_n 3, 1) := by decide +kernel
theorem zqd_682 : decode code 682 = .ok (.iconst 1, 1) := by decide +kernel
theorem zqd_683 : decode code 683 = .ok (.iadd, 1) := by decide +kernel
theorem zqd_684 : decode code 684 = .ok (.iaload, 1) := by decide +kernel
theorem zqd_685 : decode code 685 = .ok (.aload_n 0, 1) := by decide +kernel
theorem zqd_686 : decode code 686 = .ok (.iload_n 3, 1) := by decide +kernel
theorem zqd_687 : decode code 687 = .ok (.iconst 2, 1) := by decide +kernel
theorem zqd_688 : decode code 688 = .ok (.iadd, 1) := by decide +kernel
theorem zqd_689 : decode code 689 = .ok (.iaload, 1) := by decide +kernel
theorem zqd_690 : decode code 690 = .ok (.aload_n 0, 1) := by decide +kernel
theorem zqd_691 : decode code 691 = .ok (.iload_n 3, 1) := by decide +kernel
theorem zqd_692 : decode code 692 = .ok (.iconst 3, 1) := by decide +kernel
theorem zqd_693 : decode code 693 = .ok (.iadd, 1) := by decide +kernel
theorem zqd_694 : decode code 694 = .ok (.iaload, 1) := by decide +kernel
theorem zqd_695 : decode code 695 = .ok (.aload_n 0, 1) := by decide +kernel
theorem zqd_696 : decode code 696 = .ok (.iload_n 3, 1) := by decide +kernel
theorem zqd_697 : decode code 697 = .ok (.iconst 4, 1) := by decide +kernel
theorem zqd_698 : decode code 698 = .ok (.iadd, 1) := by decide +kernel
theorem zqd_699 : decode code 699 = .ok (.iaload, 1) := by decide +kernel
theorem zqd_700 : decode code 700 = .ok (.invokevirtual 73, 3) := by decide +kernel
theorem zqd_703 : decode code 703 = .ok (.pop, 1) := by decide +kernel
theorem zqd_704 : decode code 704 = .ok (.aload_n 2, 1) := by decide +kernel
theorem zqd_705 : decode code 705 = .ok (.aload_n 0, 1) := by decide +kernel
theorem zqd_706 : decode code 706 = .ok (.iload_n 3, 1) := by decide +kernel
theorem zqd_707 : decode code 707 = .ok (.iconst 1, 1) := by decide +kernel
theorem zqd_708 : decode code 708 = .ok (.iadd, 1) := by decide +kernel
theorem zqd_709 : decode code 709 = .ok (.iaload, 1) := by decide +kernel
theorem zqd_710 : decode code 710 = .ok (.aload_n 0, 1) := by decide +kernel
theorem zqd_711 : decode code 711 = .ok (.iload_n 3, 1) := by decide +kernel
theorem zqd_712 : decode code 712 = .ok (.iconst 2, 1) := by decide +kernel
theorem zqd_713 : decode code 713 = .ok (.iadd, 1) := by decide +kernel
theorem zqd_714 : decode code 714 = .ok (.iaload, 1) := by decide +kernel
theorem zqd_715 : decode code 715 = .ok (.aload_n 0, 1) := by decide +kernel
theorem zqd_716 : decode code 716 = .ok (.iload_n 3, 1) := by decide +kernel
theorem zqd_717 : decode code 717 = .ok (.iconst 3, 1) := by decide +kernel
theorem zqd_718 : decode code 718 = .ok (.iadd, 1) := by decide +kernel
theorem zqd_719 : decode code 719 = .ok (.iaload, 1) := by decide +kernel
theorem zqd_720 : decode code 720 = .ok (.aload_n 0, 1) := by decide +kernel
theorem zqd_721 : decode code 721 = .ok (.iload_n 3, 1) := by decide +kernel
theorem zqd_722 : decode code 722 = .ok (.iconst 4, 1) := by decide +kernel
theorem zqd_723 : decode code 723 = .ok (.iadd, 1) := by decide +kernel
theorem zqd_724 : decode code 724 = .ok (.iaload, 1) := by decide +kernel
theorem zqd_725 : decode code 725 = .ok (.invokevirtual 77, 3) := by decide +kernel
theorem zqd_728 : decode code 728 = .ok (.pop, 1) := by decide +kernel
theorem zqd_729 : decode code 729 = .ok (.goto 864, 3) := by decide +kernel
theorem zqd_732 : decode code 732 = .ok (.aload_n 1, 1) := by decide +kernel
theorem zqd_733 : decode code 733 = .ok (.aload_n 0, 1) := by decide +kernel
theorem zqd_734 : decode code 734 = .ok (.iload_n 3, 1) := by decide +kernel
theorem zqd_735 : decode code 735 = .ok (.iconst 1, 1) := by decide +kernel
theorem zqd_736 : decode code 736 = .ok (.iadd, 1) := by decide +kernel
theorem zqd_737 : decode code 737 = .ok (.iaload, 1) := by decide +kernel
theorem zqd_738 : decode code 738 = .ok (.aload_n 0, 1) := by decide +kernel
theorem zqd_739 : decode code 739 = .ok (.iload_n 3, 1) := by decide +kernel
theorem zqd_740 : decode code 740 = .ok (.iconst 2, 1) := by decide +kernel
theorem zqd_741 : decode code 741 = .ok (.iadd, 1) := by decide +kernel
theorem zqd_742 : decode code 742 = .ok (.iaload, 1) := by decide +kernel
theorem zqd_743 : decode code 743 = .ok (.aload_n 0, 1) := by decide +kernel
theorem zqd_744 : decode code 744 = .ok (.iload_n 3, 1) := by decide +kernel
theorem zqd_745 : decode code 745 = .ok (.iconst 3, 1) := by decide +kernel
theorem zqd_746 : decode code 746 = .ok (.iadd, 1) := by decide +kernel
theorem zqd_747 : decode code 747 = .ok (.iaload, 1) := by decide +kernel
theorem zqd_748 : decode code 748 = .ok (.invokevirtual 78, 3) := by decide +kernel
theorem zqd_751 : decode code 751 = .ok (.pop, 1) := by decide +kernel
theorem zqd_752 : decode code 752 = .ok (.aload_n 2, 1) := by decide +kernel
theorem zqd_753 : decode code 753 = .ok (.aload_n 0, 1) := by decide +kernel
theorem zqd_754 : decode code 754 = .ok (.iload_n 3, 1) := by decide +kernel
theorem zqd_755 : decode code 755 = .ok (.iconst 1, 1) := by decide +kernel
theorem zqd_756 : decode code 756 = .ok (.iadd, 1) := by decide +kernel
theorem zqd_757 : decode code 757 = .ok (.iaload, 1) := by decide +kernel
theorem zqd_758 : decode code 758 = .ok (.aload_n 0, 1) := by decide +kernel
theorem zqd_759 : decode code 759 = .ok (.iload_n 3, 1) := by decide +kernel
theorem zqd_760 : decode code 760 = .ok (.iconst 2, 1) := by decide +kernel
theorem zqd_761 : decode code 761 = .ok (.iadd, 1) := by decide +kernel
theorem zqd_762 : decode code 762 = .ok (.iaload, 1) := by decide +kernel
theorem zqd_763 : decode code 763 = .ok (.aload_n 0, 1) := by decide +kernel
theorem zqd_764 : decode code 764 = .ok (.iload_n 3, 1) := by decide +kernel
theorem zqd_765 : decode code 765 = .ok (.iconst 3, 1) := by decide +kernel
theorem zqd_766 : decode code 766 = .ok (.iadd, 1) := by decide +kernel
theorem zqd_767 : decode code 767 = .ok (.iaload, 1) := by decide +kernel
theorem zqd_768 : decode code 768 = .ok (.invokevirtual 82, 3) := by decide +kernel
theorem zqd_771 : decode code 771 = .ok (.pop, 1) := by decide +kernel
theorem zqd_772 : decode code 772 = .ok (.goto 821, 3) := by decide +kernel
theorem zqd_775 : decode code 775 = .ok (.aload_n 1, 1) := by decide +kernel
theorem zqd_776 : decode code 776 = .ok (.aload_n 0, 1) := by decide +kernel
theorem zqd_777 : decode code 777 = .ok (.iload_n 3, 1) := by decide +kernel
theorem zqd_778 : decode code 778 = .ok (.iconst 1, 1) := by decide +kernel
theorem zqd_779 : decode code 779 = .ok (.iadd, 1) := by decide +kernel
theorem zqd_780 : decode code 780 = .ok (.iaload, 1) := by decide +kernel
theorem zqd_781 : decode code 781 = .ok (.aload_n 0, 1) := by decide +kernel
theorem zqd_782 : decode code 782 = .ok (.iload_n 3, 1) := by decide +kernel
theorem zqd_783 : decode code 783 = .ok (.iconst 2, 1) := by decide +kernel
theorem zqd_784 : decode code 784 = .ok (.iadd, 1) := by decide +kernel
theorem zqd_785 : decode code 785 = .ok (.iaload, 1) := by decide +kernel
theorem zqd_786 : decode code 786 = .ok (.aload_n 0, 1) := by decide +kernel
theorem zqd_787 : decode code 787 = .ok (.iload_n 3, 1) := by decide +kernel
theorem zqd_788 : decode code 788 = .ok (.iconst 3, 1) := by decide +kernel
theorem zqd_789 : decode code 789 = .ok (.iadd, 1) := by decide +kernel
theorem zqd_790 : decode code 790 = .ok (.iaload, 1) := by decide +kernel
theorem zqd_791 : decode code 791 = .ok (.invokevirtual 83, 3) := by decide +kernel
theorem zqd_794 : decode code 794 = .ok (.pop, 1) := by decide +kernel
theorem zqd_795 : decode code 795 = .ok (.aload_n 2, 1) := by decide +kernel
theorem zqd_796 : decode code 796 = .ok (.aload_n 0, 1) := by decide +kernel
theorem zqd_797 : decode code 797 = .ok (.iload_n 3, 1) := by decide +kernel
theorem zqd_798 : decode code 798 = .ok (.iconst 1, 1) := by decide +kernel
theorem zqd_799 : decode code 799 = .ok (.iadd, 1) := by decide +kernel
theorem zqd_800 : decode code 800 = .ok (.iaload, 1) := by decide +kernel
theorem zqd_801 : decode code 801 = .ok (.aload_n 0, 1) := by decide +kernel
theorem zqd_802 : decode code 802 = .ok (.iload_n 3, 1) := by decide +kernel
theorem zqd_803 : decode code 803 = .ok (.iconst 2, 1) := by decide +kernel
theorem zqd_804 : decode code 804 = .ok (.iadd, 1) := by decide +kernel
theorem zqd_805 : decode code 805 = .ok (.iaload, 1) := by decide +kernel
theorem zqd_806 : decode code 806 = .ok (.aload_n 0, 1) := by decide +kernel
theorem zqd_807 : decode code 807 = .ok (.iload_n 3, 1) := by decide +kernel
theorem zqd_808 : decode code 808 = .ok (.iconst 3, 1) := by decide +kernel
theorem zqd_809 : decode code 809 = .ok (.iadd, 1) := by decide +kernel
theorem zqd_810 : decode code 810 = .ok (.iaload, 1) := by decide +kernel
theorem zqd_811 : decode code 811 = .ok (.invokevirtual 86, 3) := by decide +kernel
theorem zqd_814 : decode code 814 = .ok (.pop, 1) := by decide +kernel
theorem zqd_815 : decode code 815 = .ok (.goto 778, 3) := by decide +kernel
theorem zqd_818 : decode code 818 = .ok (.aload_n 1, 1) := by decide +kernel
theorem zqd_819 : decode code 819 = .ok (.aload_n 0, 1) := by decide +kernel
theorem zqd_820 : decode code 820 = .ok (.iload_n 3, 1) := by decide +kernel
theorem zqd_821 : decode code 821 = .ok (.iconst 1, 1) := by decide +kernel
theorem zqd_822 : decode code 822 = .ok (.iadd, 1) := by decide +kernel
theorem zqd_823 : decode code 823 = .ok (.iaload, 1) := by decide +kernel
theorem zqd_824 : decode code 824 = .ok (.aload_n 0, 1) := by decide +kernel
theorem zqd_825 : decode code 825 = .ok (.iload_n 3, 1) := by decide +kernel
theorem zqd_826 : decode code 826 = .ok (.iconst 2, 1) := by decide +kernel
theorem zqd_827 : decode code 827 = .ok (.iadd, 1) := by decide +kernel
theorem zqd_828 : decode code 828 = .ok (.iaload, 1) := by decide +kernel
theorem zqd_829 : decode code 829 = .ok (.aload_n 0, 1) := by decide +kernel
theorem zqd_830 : decode code 830 = .ok (.iload_n 3, 1) := by decide +kernel
theorem zqd_831 : decode code 831 = .ok (.iconst 3, 1) := by decide +kernel
theorem zqd_832 : decode code 832 = .ok (.iadd, 1) := by decide +kernel
theorem zqd_833 : decode code 833 = .ok (.iaload, 1) := by decide +kernel
theorem zqd_834 : decode code 834 = .ok (.invokevirtual 87, 3) := by decide +kernel
theorem zqd_837 : decode code 837 = .ok (.pop, 1) := by decide +kernel
theorem zqd_838 : decode code 838 = .ok (.aload_n 2, 1) := by decide +kernel
theorem zqd_839 : decode code 839 = .ok (.aload_n 0, 1) := by decide +kernel
theorem zqd_840 : decode code 840 = .ok (.iload_n 3, 1) := by decide +kernel
theorem zqd_841 : decode code 841 = .ok (.iconst 1, 1) := by decide +kernel
theorem zqd_842 : decode code 842 = .ok (.iadd, 1) := by decide +kernel
theorem zqd_843 : decode code 843 = .ok (.iaload, 1) := by decide +kernel
theorem zqd_844 : decode code 844 = .ok (.aload_n 0, 1) := by decide +kernel
theorem zqd_845 : decode code 845 = .ok (.iload_n 3, 1) := by decide +kernel
theorem zqd_846 : decode code 846 = .ok (.iconst 2, 1) := by decide +kernel
theorem zqd_847 : decode code 847 = .ok (.iadd, 1) := by decide +kernel
theorem zqd_848 : decode code 848 = .ok (.iaload, 1) := by decide +kernel
theorem zqd_849 : decode code 849 = .ok (.aload_n 0, 1) := by decide +kernel
theorem zqd_850 : decode code 850 = .ok (.iload_n 3, 1) := by decide +kernel
theorem zqd_851 : decode code 851 = .ok (.iconst 3, 1) := by decide +kernel
theorem zqd_852 : decode code 852 = .ok (.iadd, 1) := by decide +kernel
theorem zqd_853 : decode code 853 = .ok (.iaload, 1) := by decide +kernel
theorem zqd_854 : decode code 854 = .ok (.invokevirtual 90, 3) := by decide +kernel
theorem zqd_857 : decode code 857 = .ok (.pop, 1) := by decide +kernel
theorem zqd_858 : decode code 858 = .ok (.goto 735, 3) := by decide +kernel
theorem zqd_861 : decode code 861 = .ok (.aload_n 1, 1) := by decide +kernel
theorem zqd_862 : decode code 862 = .ok (.aload_n 0, 1) := by decide +kernel
theorem zqd_863 : decode code 863 = .ok (.iload_n 3, 1) := by decide +kernel
theorem zqd_864 : decode code 864 = .ok (.iconst 1, 1) := by decide +kernel
theorem zqd_865 : decode code 865 = .ok (.iadd, 1) := by decide +kernel
theorem zqd_866 : decode code 866 = .ok (.iaload, 1) := by decide +kernel
theorem zqd_867 : decode code 867 = .ok (.invokevirtual 91, 3) := by decide +kernel
theorem zqd_870 : decode code 870 = .ok (.pop, 1) := by decide +kernel
theorem zqd_871 : decode code 871 = .ok (.aload_n 2, 1) := by decide +kernel
theorem zqd_872 : decode code 872 = .ok (.aload_n 0, 1) := by decide +kernel
theorem zqd_873 : decode code 873 = .ok (.iload_n 3, 1) := by decide +kernel
theorem zqd_874 : decode code 874 = .ok (.iconst 1, 1) := by decide +kernel
theorem zqd_875 : decode code 875 = .ok (.iadd, 1) := by decide +kernel
theorem zqd_876 : decode code 876 = .ok (.iaload, 1) := by decide +kernel
theorem zqd_877 : decode code 877 = .ok (.invokevirtual 94, 3) := by decide +kernel
theorem zqd_880 : decode code 880 = .ok (.pop, 1) := by decide +kernel
theorem zqd_881 : decode code 881 = .ok (.goto 712, 3) := by decide +kernel
theorem zqd_884 : decode code 884 = .ok (.aload_n 1, 1) := by decide +kernel
theorem zqd_885 : decode code 885 = .ok (.aload_n 0, 1) := by decide +kernel
theorem zqd_886 : decode code 886 = .ok (.iload_n 3, 1) := by decide +kernel
theorem zqd_887 : decode code 887 = .ok (.iconst 1, 1) := by decide +kernel
theorem zqd_888 : decode code 888 = .ok (.iadd, 1) := by decide +kernel
theorem zqd_889 : decode code 889 = .ok (.iaload, 1) := by decide +kernel
theorem zqd_890 : decode code 890 = .ok (.aload_n 0, 1) := by decide +kernel
theorem zqd_891 : decode code 891 = .ok (.iload_n 3, 1) := by decide +kernel
theorem zqd_892 : decode code 892 = .ok (.iconst 2, 1) := by decide +kernel
theorem zqd_893 : decode code 893 = .ok (.iadd, 1) := by decide +kernel
theorem zqd_894 : decode code 894 = .ok (.iaload, 1) := by decide +kernel
theorem zqd_895 : decode code 895 = .ok (.invokevirtual 95, 3) := by decide +kernel
theorem zqd_898 : decode code 898 = .ok (.pop, 1) := by decide +kernel
theorem zqd_899 : decode code 899 = .ok (.aload_n 2, 1) := by decide +kernel
theorem zqd_900 : decode code 900 = .ok (.aload_n 0, 1) := by decide +kernel
theorem zqd_901 : decode code 901 = .ok (.iload_n 3, 1) := by decide +kernel
theorem zqd_902 : decode code 902 = .ok (.iconst 1, 1) := by decide +kernel
theorem zqd_903 : decode code 903 = .ok (.iadd, 1) := by decide +kernel
theorem zqd_904 : decode code 904 = .ok (.iaload, 1) := by decide +kernel
theorem zqd_905 : decode code 905 = .ok (.aload_n 0, 1) := by decide +kernel
theorem zqd_906 : decode code 906 = .ok (.iload_n 3, 1) := by decide +kernel
theorem zqd_907 : decode code 907 = .ok (.iconst 2, 1) := by decide +kernel
theorem zqd_908 : decode code 908 = .ok (.iadd, 1) := by decide +kernel
theorem zqd_909 : decode code 909 = .ok (.iaload, 1) := by decide +kernel
