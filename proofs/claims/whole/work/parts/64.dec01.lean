theorem dL_law_555 : decode code 555 = .ok (.aload_n 2, 1) := by decide +kernel
theorem dL_law_556 : decode code 556 = .ok (.invokevirtual 122, 3) := by decide +kernel
theorem dL_law_559 : decode code 559 = .ok (.iload 5, 2) := by decide +kernel
theorem dL_law_561 : decode code 561 = .ok (.if_icmp .eq 5, 3) := by decide +kernel
theorem dL_law_566 : decode code 566 = .ok (.iload 5, 2) := by decide +kernel
theorem dL_law_568 : decode code 568 = .ok (.ifCond .ne 15, 3) := by decide +kernel
theorem dL_law_571 : decode code 571 = .ok (.aload_n 3, 1) := by decide +kernel
theorem dL_law_572 : decode code 572 = .ok (.iconst 0, 1) := by decide +kernel
theorem dL_law_573 : decode code 573 = .ok (.laload, 1) := by decide +kernel
theorem dL_law_574 : decode code 574 = .ok (.iload 6, 2) := by decide +kernel
theorem dL_law_576 : decode code 576 = .ok (.i2l, 1) := by decide +kernel
theorem dL_law_577 : decode code 577 = .ok (.lcmp, 1) := by decide +kernel
theorem dL_law_578 : decode code 578 = .ok (.ifCond .eq 5, 3) := by decide +kernel
theorem dL_law_583 : decode code 583 = .ok (.goto 1664, 3) := by decide +kernel
theorem dL_law_586 : decode code 586 = .ok (.aload_n 1, 1) := by decide +kernel
theorem dL_law_587 : decode code 587 = .ok (.aload_n 0, 1) := by decide +kernel
theorem dL_law_588 : decode code 588 = .ok (.iload 4, 2) := by decide +kernel
theorem dL_law_590 : decode code 590 = .ok (.iconst 1, 1) := by decide +kernel
theorem dL_law_591 : decode code 591 = .ok (.iadd, 1) := by decide +kernel
theorem dL_law_592 : decode code 592 = .ok (.iaload, 1) := by decide +kernel
theorem dL_law_593 : decode code 593 = .ok (.aload_n 0, 1) := by decide +kernel
theorem dL_law_594 : decode code 594 = .ok (.iload 4, 2) := by decide +kernel
theorem dL_law_596 : decode code 596 = .ok (.iconst 2, 1) := by decide +kernel
theorem dL_law_597 : decode code 597 = .ok (.iadd, 1) := by decide +kernel
theorem dL_law_598 : decode code 598 = .ok (.iaload, 1) := by decide +kernel
theorem dL_law_599 : decode code 599 = .ok (.aload_n 3, 1) := by decide +kernel
theorem dL_law_600 : decode code 600 = .ok (.invokestatic 141, 3) := by decide +kernel
theorem dL_law_603 : decode code 603 = .ok (.istore 5, 2) := by decide +kernel
theorem dL_law_605 : decode code 605 = .ok (.aload_n 2, 1) := by decide +kernel
theorem dL_law_606 : decode code 606 = .ok (.aload_n 0, 1) := by decide +kernel
theorem dL_law_607 : decode code 607 = .ok (.iload 4, 2) := by decide +kernel
theorem dL_law_609 : decode code 609 = .ok (.iconst 1, 1) := by decide +kernel
theorem dL_law_610 : decode code 610 = .ok (.iadd, 1) := by decide +kernel
theorem dL_law_611 : decode code 611 = .ok (.iaload, 1) := by decide +kernel
theorem dL_law_612 : decode code 612 = .ok (.aload_n 0, 1) := by decide +kernel
theorem dL_law_613 : decode code 613 = .ok (.iload 4, 2) := by decide +kernel
theorem dL_law_615 : decode code 615 = .ok (.iconst 2, 1) := by decide +kernel
theorem dL_law_616 : decode code 616 = .ok (.iadd, 1) := by decide +kernel
theorem dL_law_617 : decode code 617 = .ok (.iaload, 1) := by decide +kernel
theorem dL_law_618 : decode code 618 = .ok (.invokevirtual 143, 3) := by decide +kernel
theorem dL_law_621 : decode code 621 = .ok (.istore 6, 2) := by decide +kernel
theorem dL_law_623 : decode code 623 = .ok (.aload_n 2, 1) := by decide +kernel
theorem dL_law_624 : decode code 624 = .ok (.invokevirtual 122, 3) := by decide +kernel
theorem dL_law_627 : decode code 627 = .ok (.iload 5, 2) := by decide +kernel
theorem dL_law_629 : decode code 629 = .ok (.if_icmp .eq 5, 3) := by decide +kernel
theorem dL_law_634 : decode code 634 = .ok (.iload 5, 2) := by decide +kernel
theorem dL_law_636 : decode code 636 = .ok (.ifCond .ne 15, 3) := by decide +kernel
theorem dL_law_639 : decode code 639 = .ok (.aload_n 3, 1) := by decide +kernel
theorem dL_law_640 : decode code 640 = .ok (.iconst 0, 1) := by decide +kernel
theorem dL_law_641 : decode code 641 = .ok (.laload, 1) := by decide +kernel
theorem dL_law_642 : decode code 642 = .ok (.iload 6, 2) := by decide +kernel
theorem dL_law_644 : decode code 644 = .ok (.i2l, 1) := by decide +kernel
theorem dL_law_645 : decode code 645 = .ok (.lcmp, 1) := by decide +kernel
theorem dL_law_646 : decode code 646 = .ok (.ifCond .eq 5, 3) := by decide +kernel
theorem dL_law_651 : decode code 651 = .ok (.goto 1596, 3) := by decide +kernel
theorem dL_law_654 : decode code 654 = .ok (.aload_n 1, 1) := by decide +kernel
theorem dL_law_655 : decode code 655 = .ok (.aload_n 0, 1) := by decide +kernel
theorem dL_law_656 : decode code 656 = .ok (.iload 4, 2) := by decide +kernel
theorem dL_law_658 : decode code 658 = .ok (.iconst 1, 1) := by decide +kernel
theorem dL_law_659 : decode code 659 = .ok (.iadd, 1) := by decide +kernel
theorem dL_law_660 : decode code 660 = .ok (.iaload, 1) := by decide +kernel
theorem dL_law_661 : decode code 661 = .ok (.aload_n 0, 1) := by decide +kernel
theorem dL_law_662 : decode code 662 = .ok (.iload 4, 2) := by decide +kernel
theorem dL_law_664 : decode code 664 = .ok (.iconst 2, 1) := by decide +kernel
theorem dL_law_665 : decode code 665 = .ok (.iadd, 1) := by decide +kernel
theorem dL_law_666 : decode code 666 = .ok (.iaload, 1) := by decide +kernel
theorem dL_law_667 : decode code 667 = .ok (.aload_n 3, 1) := by decide +kernel
theorem dL_law_668 : decode code 668 = .ok (.invokestatic 144, 3) := by decide +kernel
theorem dL_law_671 : decode code 671 = .ok (.istore 5, 2) := by decide +kernel
theorem dL_law_673 : decode code 673 = .ok (.aload_n 2, 1) := by decide +kernel
theorem dL_law_674 : decode code 674 = .ok (.aload_n 0, 1) := by decide +kernel
theorem dL_law_675 : decode code 675 = .ok (.iload 4, 2) := by decide +kernel
theorem dL_law_677 : decode code 677 = .ok (.iconst 1, 1) := by decide +kernel
theorem dL_law_678 : decode code 678 = .ok (.iadd, 1) := by decide +kernel
theorem dL_law_679 : decode code 679 = .ok (.iaload, 1) := by decide +kernel
theorem dL_law_680 : decode code 680 = .ok (.aload_n 0, 1) := by decide +kernel
theorem dL_law_681 : decode code 681 = .ok (.iload 4, 2) := by decide +kernel
theorem dL_law_683 : decode code 683 = .ok (.iconst 2, 1) := by decide +kernel
theorem dL_law_684 : decode code 684 = .ok (.iadd, 1) := by decide +kernel
theorem dL_law_685 : decode code 685 = .ok (.iaload, 1) := by decide +kernel
theorem dL_law_686 : decode code 686 = .ok (.invokevirtual 146, 3) := by decide +kernel
theorem dL_law_689 : decode code 689 = .ok (.istore 6, 2) := by decide +kernel
theorem dL_law_691 : decode code 691 = .ok (.aload_n 2, 1) := by decide +kernel
theorem dL_law_692 : decode code 692 = .ok (.invokevirtual 122, 3) := by decide +kernel
theorem dL_law_695 : decode code 695 = .ok (.iload 5, 2) := by decide +kernel
theorem dL_law_697 : decode code 697 = .ok (.if_icmp .eq 5, 3) := by decide +kernel
theorem dL_law_702 : decode code 702 = .ok (.iload 5, 2) := by decide +kernel
theorem dL_law_704 : decode code 704 = .ok (.ifCond .ne 15, 3) := by decide +kernel
theorem dL_law_707 : decode code 707 = .ok (.aload_n 3, 1) := by decide +kernel
theorem dL_law_708 : decode code 708 = .ok (.iconst 0, 1) := by decide +kernel
theorem dL_law_709 : decode code 709 = .ok (.laload, 1) := by decide +kernel
theorem dL_law_710 : decode code 710 = .ok (.iload 6, 2) := by decide +kernel
theorem dL_law_712 : decode code 712 = .ok (.i2l, 1) := by decide +kernel
theorem dL_law_713 : decode code 713 = .ok (.lcmp, 1) := by decide +kernel
theorem dL_law_714 : decode code 714 = .ok (.ifCond .eq 5, 3) := by decide +kernel
theorem dL_law_719 : decode code 719 = .ok (.goto 1528, 3) := by decide +kernel
theorem dL_law_722 : decode code 722 = .ok (.aload_n 1, 1) := by decide +kernel
theorem dL_law_723 : decode code 723 = .ok (.aload_n 0, 1) := by decide +kernel
theorem dL_law_724 : decode code 724 = .ok (.iload 4, 2) := by decide +kernel
theorem dL_law_726 : decode code 726 = .ok (.iconst 1, 1) := by decide +kernel
theorem dL_law_727 : decode code 727 = .ok (.iadd, 1) := by decide +kernel
theorem dL_law_728 : decode code 728 = .ok (.iaload, 1) := by decide +kernel
theorem dL_law_729 : decode code 729 = .ok (.aload_n 0, 1) := by decide +kernel
theorem dL_law_730 : decode code 730 = .ok (.iload 4, 2) := by decide +kernel
theorem dL_law_732 : decode code 732 = .ok (.iconst 2, 1) := by decide +kernel
theorem dL_law_733 : decode code 733 = .ok (.iadd, 1) := by decide +kernel
theorem dL_law_734 : decode code 734 = .ok (.iaload, 1) := by decide +kernel
theorem dL_law_735 : decode code 735 = .ok (.aload_n 3, 1) := by decide +kernel
theorem dL_law_736 : decode code 736 = .ok (.invokestatic 147, 3) := by decide +kernel
theorem dL_law_739 : decode code 739 = .ok (.istore 5, 2) := by decide +kernel
theorem dL_law_741 : decode code 741 = .ok (.aload_n 2, 1) := by decide +kernel
theorem dL_law_742 : decode code 742 = .ok (.aload_n 0, 1) := by decide +kernel
theorem dL_law_743 : decode code 743 = .ok (.iload 4, 2) := by decide +kernel
theorem dL_law_745 : decode code 745 = .ok (.iconst 1, 1) := by decide +kernel
theorem dL_law_746 : decode code 746 = .ok (.iadd, 1) := by decide +kernel
theorem dL_law_747 : decode code 747 = .ok (.iaload, 1) := by decide +kernel
theorem dL_law_748 : decode code 748 = .ok (.aload_n 0, 1) := by decide +kernel
theorem dL_law_749 : decode code 749 = .ok (.iload 4, 2) := by decide +kernel
theorem dL_law_751 : decode code 751 = .ok (.iconst 2, 1) := by decide +kernel
theorem dL_law_752 : decode code 752 = .ok (.iadd, 1) := by decide +kernel
theorem dL_law_753 : decode code 753 = .ok (.iaload, 1) := by decide +kernel
theorem dL_law_754 : decode code 754 = .ok (.invokevirtual 149, 3) := by decide +kernel
theorem dL_law_757 : decode code 757 = .ok (.istore 6, 2) := by decide +kernel
theorem dL_law_759 : decode code 759 = .ok (.aload_n 2, 1) := by decide +kernel
theorem dL_law_760 : decode code 760 = .ok (.invokevirtual 122, 3) := by decide +kernel
theorem dL_law_763 : decode code 763 = .ok (.iload 5, 2) := by decide +kernel
theorem dL_law_765 : decode code 765 = .ok (.if_icmp .eq 5, 3) := by decide +kernel
theorem dL_law_770 : decode code 770 = .ok (.iload 5, 2) := by decide +kernel
theorem dL_law_772 : decode code 772 = .ok (.ifCond .ne 15, 3) := by decide +kernel
theorem dL_law_775 : decode code 775 = .ok (.aload_n 3, 1) := by decide +kernel
theorem dL_law_776 : decode code 776 = .ok (.iconst 0, 1) := by decide +kernel
theorem dL_law_777 : decode code 777 = .ok (.laload, 1) := by decide +kernel
theorem dL_law_778 : decode code 778 = .ok (.iload 6, 2) := by decide +kernel
theorem dL_law_780 : decode code 780 = .ok (.i2l, 1) := by decide +kernel
theorem dL_law_781 : decode code 781 = .ok (.lcmp, 1) := by decide +kernel
theorem dL_law_782 : decode code 782 = .ok (.ifCond .eq 5, 3) := by decide +kernel
theorem dL_law_787 : decode code 787 = .ok (.goto 1460, 3) := by decide +kernel
theorem dL_law_790 : decode code 790 = .ok (.aload_n 1, 1) := by decide +kernel
theorem dL_law_791 : decode code 791 = .ok (.aload_n 0, 1) := by decide +kernel
theorem dL_law_792 : decode code 792 = .ok (.iload 4, 2) := by decide +kernel
theorem dL_law_794 : decode code 794 = .ok (.iconst 1, 1) := by decide +kernel
theorem dL_law_795 : decode code 795 = .ok (.iadd, 1) := by decide +kernel
theorem dL_law_796 : decode code 796 = .ok (.iaload, 1) := by decide +kernel
theorem dL_law_797 : decode code 797 = .ok (.aload_n 3, 1) := by decide +kernel
theorem dL_law_798 : decode code 798 = .ok (.invokestatic 150, 3) := by decide +kernel
theorem dL_law_801 : decode code 801 = .ok (.istore 5, 2) := by decide +kernel
theorem dL_law_803 : decode code 803 = .ok (.aload_n 2, 1) := by decide +kernel
theorem dL_law_804 : decode code 804 = .ok (.aload_n 0, 1) := by decide +kernel
theorem dL_law_805 : decode code 805 = .ok (.iload 4, 2) := by decide +kernel
theorem dL_law_807 : decode code 807 = .ok (.iconst 1, 1) := by decide +kernel
theorem dL_law_808 : decode code 808 = .ok (.iadd, 1) := by decide +kernel
theorem dL_law_809 : decode code 809 = .ok (.iaload, 1) := by decide +kernel
theorem dL_law_810 : decode code 810 = .ok (.invokevirtual 152, 3) := by decide +kernel
theorem dL_law_813 : decode code 813 = .ok (.istore 6, 2) := by decide +kernel
theorem dL_law_815 : decode code 815 = .ok (.aload_n 2, 1) := by decide +kernel
theorem dL_law_816 : decode code 816 = .ok (.invokevirtual 122, 3) := by decide +kernel
theorem dL_law_819 : decode code 819 = .ok (.iload 5, 2) := by decide +kernel
theorem dL_law_821 : decode code 821 = .ok (.if_icmp .eq 5, 3) := by decide +kernel
theorem dL_law_826 : decode code 826 = .ok (.iload 5, 2) := by decide +kernel
theorem dL_law_828 : decode code 828 = .ok (.ifCond .ne 15, 3) := by decide +kernel
theorem dL_law_831 : decode code 831 = .ok (.aload_n 3, 1) := by decide +kernel
theorem dL_law_832 : decode code 832 = .ok (.iconst 0, 1) := by decide +kernel
theorem dL_law_833 : decode code 833 = .ok (.laload, 1) := by decide +kernel
theorem dL_law_834 : decode code 834 = .ok (.iload 6, 2) := by decide +kernel
theorem dL_law_836 : decode code 836 = .ok (.i2l, 1) := by decide +kernel
theorem dL_law_837 : decode code 837 = .ok (.lcmp, 1) := by decide +kernel
theorem dL_law_838 : decode code 838 = .ok (.ifCond .eq 5, 3) := by decide +kernel
theorem dL_law_843 : decode code 843 = .ok (.goto 1404, 3) := by decide +kernel
theorem dL_law_846 : decode code 846 = .ok (.aload_n 1, 1) := by decide +kernel
theorem dL_law_847 : decode code 847 = .ok (.aload_n 0, 1) := by decide +kernel
theorem dL_law_848 : decode code 848 = .ok (.iload 4, 2) := by decide +kernel
theorem dL_law_850 : decode code 850 = .ok (.iconst 1, 1) := by decide +kernel
theorem dL_law_851 : decode code 851 = .ok (.iadd, 1) := by decide +kernel
theorem dL_law_852 : decode code 852 = .ok (.iaload, 1) := by decide +kernel
theorem dL_law_853 : decode code 853 = .ok (.aload_n 3, 1) := by decide +kernel
theorem dL_law_854 : decode code 854 = .ok (.invokestatic 153, 3) := by decide +kernel
theorem dL_law_857 : decode code 857 = .ok (.istore 5, 2) := by decide +kernel
theorem dL_law_859 : decode code 859 = .ok (.aload_n 2, 1) := by decide +kernel
theorem dL_law_860 : decode code 860 = .ok (.aload_n 0, 1) := by decide +kernel
theorem dL_law_861 : decode code 861 = .ok (.iload 4, 2) := by decide +kernel
theorem dL_law_863 : decode code 863 = .ok (.iconst 1, 1) := by decide +kernel
theorem dL_law_864 : decode code 864 = .ok (.iadd, 1) := by decide +kernel
theorem dL_law_865 : decode code 865 = .ok (.iaload, 1) := by decide +kernel
theorem dL_law_866 : decode code 866 = .ok (.invokevirtual 155, 3) := by decide +kernel
theorem dL_law_869 : decode code 869 = .ok (.istore 6, 2) := by decide +kernel
theorem dL_law_871 : decode code 871 = .ok (.aload_n 2, 1) := by decide +kernel
theorem dL_law_872 : decode code 872 = .ok (.invokevirtual 122, 3) := by decide +kernel
theorem dL_law_875 : decode code 875 = .ok (.iload 5, 2) := by decide +kernel
theorem dL_law_877 : decode code 877 = .ok (.if_icmp .eq 5, 3) := by decide +kernel
theorem dL_law_882 : decode code 882 = .ok (.iload 5, 2) := by decide +kernel
theorem dL_law_884 : decode code 884 = .ok (.ifCond .ne 15, 3) := by decide +kernel
theorem dL_law_887 : decode code 887 = .ok (.aload_n 3, 1) := by decide +kernel
theorem dL_law_888 : decode code 888 = .ok (.iconst 0, 1) := by decide +kernel
theorem dL_law_889 : decode code 889 = .ok (.laload, 1) := by decide +kernel
theorem dL_law_890 : decode code 890 = .ok (.iload 6, 2) := by decide +kernel
theorem dL_law_892 : decode code 892 = .ok (.i2l, 1) := by decide +kernel
theorem dL_law_893 : decode code 893 = .ok (.lcmp, 1) := by decide +kernel
theorem dL_law_894 : decode code 894 = .ok (.ifCond .eq 5, 3) := by decide +kernel
theorem dL_law_899 : decode code 899 = .ok (.goto 1348, 3) := by decide +kernel
theorem dL_law_902 : decode code 902 = .ok (.aload_n 1, 1) := by decide +kernel
theorem dL_law_903 : decode code 903 = .ok (.invokevirtual 156, 3) := by decide +kernel
theorem dL_law_906 : decode code 906 = .ok (.aload_n 2, 1) := by decide +kernel
theorem dL_law_907 : decode code 907 = .ok (.invokevirtual 159, 3) := by decide +kernel
theorem dL_law_910 : decode code 910 = .ok (.if_icmp .eq 1337, 3) := by decide +kernel
theorem dL_law_915 : decode code 915 = .ok (.aload_n 1, 1) := by decide +kernel
theorem dL_law_916 : decode code 916 = .ok (.aload_n 0, 1) := by decide +kernel
theorem dL_law_917 : decode code 917 = .ok (.iload 4, 2) := by decide +kernel
theorem dL_law_919 : decode code 919 = .ok (.iconst 1, 1) := by decide +kernel
theorem dL_law_920 : decode code 920 = .ok (.iadd, 1) := by decide +kernel
theorem dL_law_921 : decode code 921 = .ok (.iaload, 1) := by decide +kernel
theorem dL_law_922 : decode code 922 = .ok (.aload_n 3, 1) := by decide +kernel
theorem dL_law_923 : decode code 923 = .ok (.invokestatic 160, 3) := by decide +kernel
theorem dL_law_926 : decode code 926 = .ok (.istore 5, 2) := by decide +kernel
theorem dL_law_928 : decode code 928 = .ok (.aload_n 2, 1) := by decide +kernel
theorem dL_law_929 : decode code 929 = .ok (.aload_n 0, 1) := by decide +kernel
theorem dL_law_930 : decode code 930 = .ok (.iload 4, 2) := by decide +kernel
theorem dL_law_932 : decode code 932 = .ok (.iconst 1, 1) := by decide +kernel
theorem dL_law_933 : decode code 933 = .ok (.iadd, 1) := by decide +kernel
theorem dL_law_934 : decode code 934 = .ok (.iaload, 1) := by decide +kernel
theorem dL_law_935 : decode code 935 = .ok (.invokevirtual 162, 3) := by decide +kernel
theorem dL_law_938 : decode code 938 = .ok (.istore 6, 2) := by decide +kernel
theorem dL_law_940 : decode code 940 = .ok (.aload_n 2, 1) := by decide +kernel
theorem dL_law_941 : decode code 941 = .ok (.invokevirtual 122, 3) := by decide +kernel
theorem dL_law_944 : decode code 944 = .ok (.iload 5, 2) := by decide +kernel
theorem dL_law_946 : decode code 946 = .ok (.if_icmp .eq 5, 3) := by decide +kernel
theorem dL_law_951 : decode code 951 = .ok (.iload 5, 2) := by decide +kernel
theorem dL_law_953 : decode code 953 = .ok (.ifCond .ne 15, 3) := by decide +kernel
theorem dL_law_956 : decode code 956 = .ok (.aload_n 3, 1) := by decide +kernel
theorem dL_law_957 : decode code 957 = .ok (.iconst 0, 1) := by decide +kernel
theorem dL_law_958 : decode code 958 = .ok (.laload, 1) := by decide +kernel
theorem dL_law_959 : decode code 959 = .ok (.iload 6, 2) := by decide +kernel
theorem dL_law_961 : decode code 961 = .ok (.i2l, 1) := by decide +kernel
theorem dL_law_962 : decode code 962 = .ok (.lcmp, 1) := by decide +kernel
theorem dL_law_963 : decode code 963 = .ok (.ifCond .eq 5, 3) := by decide +kernel
theorem dL_law_968 : decode code 968 = .ok (.goto 1279, 3) := by decide +kernel
theorem dL_law_971 : decode code 971 = .ok (.aload_n 1, 1) := by decide +kernel
theorem dL_law_972 : decode code 972 = .ok (.aload_n 0, 1) := by decide +kernel
theorem dL_law_973 : decode code 973 = .ok (.iload 4, 2) := by decide +kernel
theorem dL_law_975 : decode code 975 = .ok (.iconst 1, 1) := by decide +kernel
theorem dL_law_976 : decode code 976 = .ok (.iadd, 1) := by decide +kernel
theorem dL_law_977 : decode code 977 = .ok (.iaload, 1) := by decide +kernel
theorem dL_law_978 : decode code 978 = .ok (.aload_n 0, 1) := by decide +kernel
theorem dL_law_979 : decode code 979 = .ok (.iload 4, 2) := by decide +kernel
theorem dL_law_981 : decode code 981 = .ok (.iconst 2, 1) := by decide +kernel
theorem dL_law_982 : decode code 982 = .ok (.iadd, 1) := by decide +kernel
theorem dL_law_983 : decode code 983 = .ok (.iaload, 1) := by decide +kernel
theorem dL_law_984 : decode code 984 = .ok (.aload_n 3, 1) := by decide +kernel
theorem dL_law_985 : decode code 985 = .ok (.invokestatic 163, 3) := by decide +kernel
theorem dL_law_988 : decode code 988 = .ok (.istore 5, 2) := by decide +kernel
theorem dL_law_990 : decode code 990 = .ok (.aload_n 2, 1) := by decide +kernel
theorem dL_law_991 : decode code 991 = .ok (.aload_n 0, 1) := by decide +kernel
theorem dL_law_992 : decode code 992 = .ok (.iload 4, 2) := by decide +kernel
theorem dL_law_994 : decode code 994 = .ok (.iconst 1, 1) := by decide +kernel
theorem dL_law_995 : decode code 995 = .ok (.iadd, 1) := by decide +kernel
theorem dL_law_996 : decode code 996 = .ok (.iaload, 1) := by decide +kernel
theorem dL_law_997 : decode code 997 = .ok (.aload_n 0, 1) := by decide +kernel
theorem dL_law_998 : decode code 998 = .ok (.iload 4, 2) := by decide +kernel
theorem dL_law_1000 : decode code 1000 = .ok (.iconst 2, 1) := by decide +kernel
theorem dL_law_1001 : decode code 1001 = .ok (.iadd, 1) := by decide +kernel
theorem dL_law_1002 : decode code 1002 = .ok (.iaload, 1) := by decide +kernel
