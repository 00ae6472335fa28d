theorem dL_law_598 : decode cL_law 598 = .ok (.aload_n 1, 1) := by decide +kernel
theorem dL_law_599 : decode cL_law 599 = .ok (.iload 14, 2) := by decide +kernel
theorem dL_law_601 : decode cL_law 601 = .ok (.iload 4, 2) := by decide +kernel
theorem dL_law_603 : decode cL_law 603 = .ok (.iconst 4, 1) := by decide +kernel
theorem dL_law_604 : decode cL_law 604 = .ok (.ishr, 1) := by decide +kernel
theorem dL_law_605 : decode cL_law 605 = .ok (.iconst 4, 1) := by decide +kernel
theorem dL_law_606 : decode cL_law 606 = .ok (.invokestatic 18, 3) := by decide +kernel
theorem dL_law_609 : decode cL_law 609 = .ok (.iload 4, 2) := by decide +kernel
theorem dL_law_611 : decode cL_law 611 = .ok (.bipush 6, 2) := by decide +kernel
theorem dL_law_613 : decode cL_law 613 = .ok (.ishr, 1) := by decide +kernel
theorem dL_law_614 : decode cL_law 614 = .ok (.iload 7, 2) := by decide +kernel
theorem dL_law_616 : decode cL_law 616 = .ok (.invokestatic 18, 3) := by decide +kernel
theorem dL_law_619 : decode cL_law 619 = .ok (.iload 4, 2) := by decide +kernel
theorem dL_law_621 : decode cL_law 621 = .ok (.iconst 2, 1) := by decide +kernel
theorem dL_law_622 : decode cL_law 622 = .ok (.ishr, 1) := by decide +kernel
theorem dL_law_623 : decode cL_law 623 = .ok (.bipush 8, 2) := by decide +kernel
theorem dL_law_625 : decode cL_law 625 = .ok (.invokestatic 18, 3) := by decide +kernel
theorem dL_law_628 : decode cL_law 628 = .ok (.invokestatic 47, 3) := by decide +kernel
theorem dL_law_631 : decode cL_law 631 = .ok (.istore 15, 2) := by decide +kernel
theorem dL_law_633 : decode cL_law 633 = .ok (.iload 15, 2) := by decide +kernel
theorem dL_law_635 : decode cL_law 635 = .ok (.iconst 4, 1) := by decide +kernel
theorem dL_law_636 : decode cL_law 636 = .ok (.if_icmp .gt 38, 3) := by decide +kernel
theorem dL_law_639 : decode cL_law 639 = .ok (.iload 15, 2) := by decide +kernel
theorem dL_law_641 : decode cL_law 641 = .ok (.ifCond .lt 35, 3) := by decide +kernel
theorem dL_law_644 : decode cL_law 644 = .ok (.aload_n 1, 1) := by decide +kernel
theorem dL_law_645 : decode cL_law 645 = .ok (.iload 4, 2) := by decide +kernel
theorem dL_law_647 : decode cL_law 647 = .ok (.bipush 6, 2) := by decide +kernel
theorem dL_law_649 : decode cL_law 649 = .ok (.ishr, 1) := by decide +kernel
theorem dL_law_650 : decode cL_law 650 = .ok (.iload 7, 2) := by decide +kernel
theorem dL_law_652 : decode cL_law 652 = .ok (.invokestatic 18, 3) := by decide +kernel
theorem dL_law_655 : decode cL_law 655 = .ok (.invokevirtual 92, 3) := by decide +kernel
theorem dL_law_658 : decode cL_law 658 = .ok (.iconst 4, 1) := by decide +kernel
theorem dL_law_659 : decode cL_law 659 = .ok (.iload 14, 2) := by decide +kernel
theorem dL_law_661 : decode cL_law 661 = .ok (.imul, 1) := by decide +kernel
theorem dL_law_662 : decode cL_law 662 = .ok (.iload 4, 2) := by decide +kernel
theorem dL_law_664 : decode cL_law 664 = .ok (.iconst 4, 1) := by decide +kernel
theorem dL_law_665 : decode cL_law 665 = .ok (.ishr, 1) := by decide +kernel
theorem dL_law_666 : decode cL_law 666 = .ok (.iconst 4, 1) := by decide +kernel
theorem dL_law_667 : decode cL_law 667 = .ok (.invokestatic 18, 3) := by decide +kernel
theorem dL_law_670 : decode cL_law 670 = .ok (.iadd, 1) := by decide +kernel
theorem dL_law_671 : decode cL_law 671 = .ok (.if_icmp .eq 5, 3) := by decide +kernel
theorem dL_law_674 : decode cL_law 674 = .ok (.iconst 0, 1) := by decide +kernel
theorem dL_law_675 : decode cL_law 675 = .ok (.ireturn, 1) := by decide +kernel
theorem dL_law_676 : decode cL_law 676 = .ok (.aload_n 1, 1) := by decide +kernel
theorem dL_law_677 : decode cL_law 677 = .ok (.iconst 0, 1) := by decide +kernel
theorem dL_law_678 : decode cL_law 678 = .ok (.invokevirtual 44, 3) := by decide +kernel
theorem dL_law_681 : decode cL_law 681 = .ok (.iload 6, 2) := by decide +kernel
theorem dL_law_683 : decode cL_law 683 = .ok (.iload 13, 2) := by decide +kernel
theorem dL_law_685 : decode cL_law 685 = .ok (.iadd, 1) := by decide +kernel
theorem dL_law_686 : decode cL_law 686 = .ok (.if_icmp .eq 5, 3) := by decide +kernel
theorem dL_law_689 : decode cL_law 689 = .ok (.iconst 0, 1) := by decide +kernel
theorem dL_law_690 : decode cL_law 690 = .ok (.ireturn, 1) := by decide +kernel
theorem dL_law_691 : decode cL_law 691 = .ok (.iconst 0, 1) := by decide +kernel
theorem dL_law_692 : decode cL_law 692 = .ok (.istore 14, 2) := by decide +kernel
theorem dL_law_694 : decode cL_law 694 = .ok (.iconst 0, 1) := by decide +kernel
theorem dL_law_695 : decode cL_law 695 = .ok (.istore 15, 2) := by decide +kernel
theorem dL_law_697 : decode cL_law 697 = .ok (.iload 15, 2) := by decide +kernel
theorem dL_law_699 : decode cL_law 699 = .ok (.iload_n 2, 1) := by decide +kernel
theorem dL_law_700 : decode cL_law 700 = .ok (.if_icmp .ge 133, 3) := by decide +kernel
theorem dL_law_703 : decode cL_law 703 = .ok (.aload_n 1, 1) := by decide +kernel
theorem dL_law_704 : decode cL_law 704 = .ok (.iload 15, 2) := by decide +kernel
theorem dL_law_706 : decode cL_law 706 = .ok (.iconst 2, 1) := by decide +kernel
theorem dL_law_707 : decode cL_law 707 = .ok (.invokevirtual 76, 3) := by decide +kernel
theorem dL_law_710 : decode cL_law 710 = .ok (.istore 16, 2) := by decide +kernel
theorem dL_law_712 : decode cL_law 712 = .ok (.iload 14, 2) := by decide +kernel
theorem dL_law_714 : decode cL_law 714 = .ok (.iload 16, 2) := by decide +kernel
theorem dL_law_716 : decode cL_law 716 = .ok (.iadd, 1) := by decide +kernel
theorem dL_law_717 : decode cL_law 717 = .ok (.istore 14, 2) := by decide +kernel
theorem dL_law_719 : decode cL_law 719 = .ok (.iload 16, 2) := by decide +kernel
theorem dL_law_721 : decode cL_law 721 = .ok (.ifCond .lt 104, 3) := by decide +kernel
theorem dL_law_724 : decode cL_law 724 = .ok (.iload 16, 2) := by decide +kernel
theorem dL_law_726 : decode cL_law 726 = .ok (.bipush 10, 2) := by decide +kernel
theorem dL_law_728 : decode cL_law 728 = .ok (.if_icmp .gt 97, 3) := by decide +kernel
theorem dL_law_731 : decode cL_law 731 = .ok (.iload 16, 2) := by decide +kernel
theorem dL_law_733 : decode cL_law 733 = .ok (.aload 9, 2) := by decide +kernel
theorem dL_law_735 : decode cL_law 735 = .ok (.iload 15, 2) := by decide +kernel
theorem dL_law_737 : decode cL_law 737 = .ok (.aaload, 1) := by decide +kernel
theorem dL_law_738 : decode cL_law 738 = .ok (.iconst 2, 1) := by decide +kernel
theorem dL_law_739 : decode cL_law 739 = .ok (.iaload, 1) := by decide +kernel
theorem dL_law_740 : decode cL_law 740 = .ok (.iconst 3, 1) := by decide +kernel
theorem dL_law_741 : decode cL_law 741 = .ok (.iload 13, 2) := by decide +kernel
theorem dL_law_743 : decode cL_law 743 = .ok (.imul, 1) := by decide +kernel
theorem dL_law_744 : decode cL_law 744 = .ok (.iadd, 1) := by decide +kernel
theorem dL_law_745 : decode cL_law 745 = .ok (.if_icmp .gt 80, 3) := by decide +kernel
theorem dL_law_748 : decode cL_law 748 = .ok (.iload 16, 2) := by decide +kernel
theorem dL_law_750 : decode cL_law 750 = .ok (.aload 9, 2) := by decide +kernel
theorem dL_law_752 : decode cL_law 752 = .ok (.iload 15, 2) := by decide +kernel
theorem dL_law_754 : decode cL_law 754 = .ok (.aaload, 1) := by decide +kernel
theorem dL_law_755 : decode cL_law 755 = .ok (.iconst 2, 1) := by decide +kernel
theorem dL_law_756 : decode cL_law 756 = .ok (.iaload, 1) := by decide +kernel
theorem dL_law_757 : decode cL_law 757 = .ok (.iload 13, 2) := by decide +kernel
theorem dL_law_759 : decode cL_law 759 = .ok (.isub, 1) := by decide +kernel
theorem dL_law_760 : decode cL_law 760 = .ok (.iconst 1, 1) := by decide +kernel
theorem dL_law_761 : decode cL_law 761 = .ok (.isub, 1) := by decide +kernel
theorem dL_law_762 : decode cL_law 762 = .ok (.if_icmp .lt 63, 3) := by decide +kernel
theorem dL_law_765 : decode cL_law 765 = .ok (.iload 13, 2) := by decide +kernel
theorem dL_law_767 : decode cL_law 767 = .ok (.ifCond .ne 15, 3) := by decide +kernel
theorem dL_law_770 : decode cL_law 770 = .ok (.iload 16, 2) := by decide +kernel
theorem dL_law_772 : decode cL_law 772 = .ok (.aload 9, 2) := by decide +kernel
theorem dL_law_774 : decode cL_law 774 = .ok (.iload 15, 2) := by decide +kernel
theorem dL_law_776 : decode cL_law 776 = .ok (.aaload, 1) := by decide +kernel
theorem dL_law_777 : decode cL_law 777 = .ok (.iconst 2, 1) := by decide +kernel
theorem dL_law_778 : decode cL_law 778 = .ok (.iaload, 1) := by decide +kernel
theorem dL_law_779 : decode cL_law 779 = .ok (.if_icmp .ne 46, 3) := by decide +kernel
theorem dL_law_782 : decode cL_law 782 = .ok (.aload_n 1, 1) := by decide +kernel
theorem dL_law_783 : decode cL_law 783 = .ok (.iload 15, 2) := by decide +kernel
theorem dL_law_785 : decode cL_law 785 = .ok (.iconst 3, 1) := by decide +kernel
theorem dL_law_786 : decode cL_law 786 = .ok (.invokevirtual 76, 3) := by decide +kernel
theorem dL_law_789 : decode cL_law 789 = .ok (.aload 9, 2) := by decide +kernel
theorem dL_law_791 : decode cL_law 791 = .ok (.iload 15, 2) := by decide +kernel
theorem dL_law_793 : decode cL_law 793 = .ok (.aaload, 1) := by decide +kernel
theorem dL_law_794 : decode cL_law 794 = .ok (.iconst 3, 1) := by decide +kernel
theorem dL_law_795 : decode cL_law 795 = .ok (.iaload, 1) := by decide +kernel
theorem dL_law_796 : decode cL_law 796 = .ok (.if_icmp .gt 29, 3) := by decide +kernel
theorem dL_law_799 : decode cL_law 799 = .ok (.aload_n 1, 1) := by decide +kernel
theorem dL_law_800 : decode cL_law 800 = .ok (.iload 15, 2) := by decide +kernel
theorem dL_law_802 : decode cL_law 802 = .ok (.iconst 1, 1) := by decide +kernel
theorem dL_law_803 : decode cL_law 803 = .ok (.invokevirtual 76, 3) := by decide +kernel
theorem dL_law_806 : decode cL_law 806 = .ok (.invokestatic 101, 3) := by decide +kernel
theorem dL_law_809 : decode cL_law 809 = .ok (.iconst 4, 1) := by decide +kernel
theorem dL_law_810 : decode cL_law 810 = .ok (.if_icmp .gt 15, 3) := by decide +kernel
theorem dL_law_813 : decode cL_law 813 = .ok (.aload_n 1, 1) := by decide +kernel
theorem dL_law_814 : decode cL_law 814 = .ok (.iload 15, 2) := by decide +kernel
theorem dL_law_816 : decode cL_law 816 = .ok (.iconst 0, 1) := by decide +kernel
theorem dL_law_817 : decode cL_law 817 = .ok (.invokevirtual 76, 3) := by decide +kernel
theorem dL_law_820 : decode cL_law 820 = .ok (.bipush 60, 2) := by decide +kernel
theorem dL_law_822 : decode cL_law 822 = .ok (.if_icmp .le 5, 3) := by decide +kernel
theorem dL_law_825 : decode cL_law 825 = .ok (.iconst 0, 1) := by decide +kernel
theorem dL_law_826 : decode cL_law 826 = .ok (.ireturn, 1) := by decide +kernel
theorem dL_law_827 : decode cL_law 827 = .ok (.iinc 15 1, 3) := by decide +kernel
theorem dL_law_830 : decode cL_law 830 = .ok (.goto (-133), 3) := by decide +kernel
theorem dL_law_833 : decode cL_law 833 = .ok (.aload_n 1, 1) := by decide +kernel
theorem dL_law_834 : decode cL_law 834 = .ok (.invokevirtual 106, 3) := by decide +kernel
theorem dL_law_837 : decode cL_law 837 = .ok (.iload 14, 2) := by decide +kernel
theorem dL_law_839 : decode cL_law 839 = .ok (.i2d, 1) := by decide +kernel
theorem dL_law_840 : decode cL_law 840 = .ok (.iload_n 2, 1) := by decide +kernel
theorem dL_law_841 : decode cL_law 841 = .ok (.i2d, 1) := by decide +kernel
theorem dL_law_842 : decode cL_law 842 = .ok (.ddiv, 1) := by decide +kernel
theorem dL_law_843 : decode cL_law 843 = .ok (.dcmp .l, 1) := by decide +kernel
theorem dL_law_844 : decode cL_law 844 = .ok (.ifCond .eq 5, 3) := by decide +kernel
theorem dL_law_847 : decode cL_law 847 = .ok (.iconst 0, 1) := by decide +kernel
theorem dL_law_848 : decode cL_law 848 = .ok (.ireturn, 1) := by decide +kernel
theorem dL_law_849 : decode cL_law 849 = .ok (.iload_n 3, 1) := by decide +kernel
theorem dL_law_850 : decode cL_law 850 = .ok (.iconst 5, 1) := by decide +kernel
theorem dL_law_851 : decode cL_law 851 = .ok (.irem, 1) := by decide +kernel
theorem dL_law_852 : decode cL_law 852 = .ok (.istore 15, 2) := by decide +kernel
theorem dL_law_854 : decode cL_law 854 = .ok (.iload 15, 2) := by decide +kernel
theorem dL_law_856 : decode cL_law 856 = .ok (.iload 7, 2) := by decide +kernel
theorem dL_law_858 : decode cL_law 858 = .ok (.if_icmp .ge 28, 3) := by decide +kernel
theorem dL_law_861 : decode cL_law 861 = .ok (.aload_n 1, 1) := by decide +kernel
theorem dL_law_862 : decode cL_law 862 = .ok (.iload 15, 2) := by decide +kernel
theorem dL_law_864 : decode cL_law 864 = .ok (.invokestatic 81, 3) := by decide +kernel
theorem dL_law_867 : decode cL_law 867 = .ok (.aload 10, 2) := by decide +kernel
theorem dL_law_869 : decode cL_law 869 = .ok (.iload 15, 2) := by decide +kernel
theorem dL_law_871 : decode cL_law 871 = .ok (.aaload, 1) := by decide +kernel
theorem dL_law_872 : decode cL_law 872 = .ok (.invokestatic 95, 3) := by decide +kernel
theorem dL_law_875 : decode cL_law 875 = .ok (.ifCond .ne 5, 3) := by decide +kernel
theorem dL_law_878 : decode cL_law 878 = .ok (.iconst 0, 1) := by decide +kernel
theorem dL_law_879 : decode cL_law 879 = .ok (.ireturn, 1) := by decide +kernel
theorem dL_law_880 : decode cL_law 880 = .ok (.iinc 15 5, 3) := by decide +kernel
theorem dL_law_883 : decode cL_law 883 = .ok (.goto (-29), 3) := by decide +kernel
theorem dL_law_886 : decode cL_law 886 = .ok (.iconst 0, 1) := by decide +kernel
theorem dL_law_887 : decode cL_law 887 = .ok (.istore 15, 2) := by decide +kernel
theorem dL_law_889 : decode cL_law 889 = .ok (.bipush 24, 2) := by decide +kernel
theorem dL_law_891 : decode cL_law 891 = .ok (.newarray .boolean, 2) := by decide +kernel
theorem dL_law_893 : decode cL_law 893 = .ok (.astore 16, 2) := by decide +kernel
theorem dL_law_895 : decode cL_law 895 = .ok (.iconst 0, 1) := by decide +kernel
theorem dL_law_896 : decode cL_law 896 = .ok (.istore 17, 2) := by decide +kernel
theorem dL_law_898 : decode cL_law 898 = .ok (.iload 17, 2) := by decide +kernel
theorem dL_law_900 : decode cL_law 900 = .ok (.aload_n 1, 1) := by decide +kernel
theorem dL_law_901 : decode cL_law 901 = .ok (.iconst 3, 1) := by decide +kernel
theorem dL_law_902 : decode cL_law 902 = .ok (.invokevirtual 44, 3) := by decide +kernel
theorem dL_law_905 : decode cL_law 905 = .ok (.if_icmp .ge 64, 3) := by decide +kernel
theorem dL_law_908 : decode cL_law 908 = .ok (.aload_n 1, 1) := by decide +kernel
theorem dL_law_909 : decode cL_law 909 = .ok (.iload 17, 2) := by decide +kernel
theorem dL_law_911 : decode cL_law 911 = .ok (.invokevirtual 92, 3) := by decide +kernel
theorem dL_law_914 : decode cL_law 914 = .ok (.istore 18, 2) := by decide +kernel
theorem dL_law_916 : decode cL_law 916 = .ok (.iload 18, 2) := by decide +kernel
theorem dL_law_918 : decode cL_law 918 = .ok (.iconst (-1), 1) := by decide +kernel
theorem dL_law_919 : decode cL_law 919 = .ok (.if_icmp .lt 25, 3) := by decide +kernel
theorem dL_law_922 : decode cL_law 922 = .ok (.iload 18, 2) := by decide +kernel
theorem dL_law_924 : decode cL_law 924 = .ok (.iconst 4, 1) := by decide +kernel
theorem dL_law_925 : decode cL_law 925 = .ok (.iload 8, 2) := by decide +kernel
theorem dL_law_927 : decode cL_law 927 = .ok (.imul, 1) := by decide +kernel
theorem dL_law_928 : decode cL_law 928 = .ok (.if_icmp .ge 16, 3) := by decide +kernel
theorem dL_law_931 : decode cL_law 931 = .ok (.iload 18, 2) := by decide +kernel
theorem dL_law_933 : decode cL_law 933 = .ok (.ifCond .lt 13, 3) := by decide +kernel
theorem dL_law_936 : decode cL_law 936 = .ok (.aload 16, 2) := by decide +kernel
theorem dL_law_938 : decode cL_law 938 = .ok (.iload 18, 2) := by decide +kernel
theorem dL_law_940 : decode cL_law 940 = .ok (.baload, 1) := by decide +kernel
theorem dL_law_941 : decode cL_law 941 = .ok (.ifCond .eq 5, 3) := by decide +kernel
theorem dL_law_944 : decode cL_law 944 = .ok (.iconst 0, 1) := by decide +kernel
theorem dL_law_945 : decode cL_law 945 = .ok (.ireturn, 1) := by decide +kernel
theorem dL_law_946 : decode cL_law 946 = .ok (.iload 18, 2) := by decide +kernel
theorem dL_law_948 : decode cL_law 948 = .ok (.ifCond .ge 6, 3) := by decide +kernel
theorem dL_law_951 : decode cL_law 951 = .ok (.goto 12, 3) := by decide +kernel
theorem dL_law_954 : decode cL_law 954 = .ok (.aload 16, 2) := by decide +kernel
theorem dL_law_956 : decode cL_law 956 = .ok (.iload 18, 2) := by decide +kernel
theorem dL_law_958 : decode cL_law 958 = .ok (.iconst 1, 1) := by decide +kernel
theorem dL_law_959 : decode cL_law 959 = .ok (.bastore, 1) := by decide +kernel
theorem dL_law_960 : decode cL_law 960 = .ok (.iinc 15 1, 3) := by decide +kernel
theorem dL_law_963 : decode cL_law 963 = .ok (.iinc 17 1, 3) := by decide +kernel
theorem dL_law_966 : decode cL_law 966 = .ok (.goto (-68), 3) := by decide +kernel
theorem dL_law_969 : decode cL_law 969 = .ok (.iload 15, 2) := by decide +kernel
theorem dL_law_971 : decode cL_law 971 = .ok (.aload_n 1, 1) := by decide +kernel
theorem dL_law_972 : decode cL_law 972 = .ok (.iconst 4, 1) := by decide +kernel
theorem dL_law_973 : decode cL_law 973 = .ok (.invokevirtual 44, 3) := by decide +kernel
theorem dL_law_976 : decode cL_law 976 = .ok (.if_icmp .eq 5, 3) := by decide +kernel
theorem dL_law_979 : decode cL_law 979 = .ok (.iconst 0, 1) := by decide +kernel
theorem dL_law_980 : decode cL_law 980 = .ok (.ireturn, 1) := by decide +kernel
theorem dL_law_981 : decode cL_law 981 = .ok (.aload_n 1, 1) := by decide +kernel
theorem dL_law_982 : decode cL_law 982 = .ok (.invokevirtual 85, 3) := by decide +kernel
theorem dL_law_985 : decode cL_law 985 = .ok (.lstore 11, 2) := by decide +kernel
theorem dL_law_987 : decode cL_law 987 = .ok (.iconst 0, 1) := by decide +kernel
theorem dL_law_988 : decode cL_law 988 = .ok (.istore 17, 2) := by decide +kernel
theorem dL_law_990 : decode cL_law 990 = .ok (.iconst 0, 1) := by decide +kernel
theorem dL_law_991 : decode cL_law 991 = .ok (.istore 18, 2) := by decide +kernel
theorem dL_law_993 : decode cL_law 993 = .ok (.iload 18, 2) := by decide +kernel
theorem dL_law_995 : decode cL_law 995 = .ok (.iload 8, 2) := by decide +kernel
theorem dL_law_997 : decode cL_law 997 = .ok (.if_icmp .ge 116, 3) := by decide +kernel
theorem dL_law_1000 : decode cL_law 1000 = .ok (.aload_n 1, 1) := by decide +kernel
theorem dL_law_1001 : decode cL_law 1001 = .ok (.iload 18, 2) := by decide +kernel
theorem dL_law_1003 : decode cL_law 1003 = .ok (.invokevirtual 110, 3) := by decide +kernel
theorem dL_law_1006 : decode cL_law 1006 = .ok (.istore 19, 2) := by decide +kernel
theorem dL_law_1008 : decode cL_law 1008 = .ok (.iconst 0, 1) := by decide +kernel
theorem dL_law_1009 : decode cL_law 1009 = .ok (.istore 20, 2) := by decide +kernel
theorem dL_law_1011 : decode cL_law 1011 = .ok (.iconst 0, 1) := by decide +kernel
theorem dL_law_1012 : decode cL_law 1012 = .ok (.istore 21, 2) := by decide +kernel
theorem dL_law_1014 : decode cL_law 1014 = .ok (.iload 21, 2) := by decide +kernel
theorem dL_law_1016 : decode cL_law 1016 = .ok (.iconst 4, 1) := by decide +kernel
theorem dL_law_1017 : decode cL_law 1017 = .ok (.if_icmp .ge 32, 3) := by decide +kernel
theorem dL_law_1020 : decode cL_law 1020 = .ok (.iload 20, 2) := by decide +kernel
theorem dL_law_1022 : decode cL_law 1022 = .ok (.aload_n 1, 1) := by decide +kernel
theorem dL_law_1023 : decode cL_law 1023 = .ok (.iload 18, 2) := by decide +kernel
theorem dL_law_1025 : decode cL_law 1025 = .ok (.iload 21, 2) := by decide +kernel
theorem dL_law_1027 : decode cL_law 1027 = .ok (.iconst 0, 1) := by decide +kernel
theorem dL_law_1028 : decode cL_law 1028 = .ok (.iconst 0, 1) := by decide +kernel
theorem dL_law_1029 : decode cL_law 1029 = .ok (.invokevirtual 113, 3) := by decide +kernel
theorem dL_law_1032 : decode cL_law 1032 = .ok (.ifCond .ge 7, 3) := by decide +kernel
theorem dL_law_1035 : decode cL_law 1035 = .ok (.iconst 1, 1) := by decide +kernel
theorem dL_law_1036 : decode cL_law 1036 = .ok (.goto 4, 3) := by decide +kernel
theorem dL_law_1039 : decode cL_law 1039 = .ok (.iconst 0, 1) := by decide +kernel
theorem dL_law_1040 : decode cL_law 1040 = .ok (.iadd, 1) := by decide +kernel
theorem dL_law_1041 : decode cL_law 1041 = .ok (.istore 20, 2) := by decide +kernel
theorem dL_law_1043 : decode cL_law 1043 = .ok (.iinc 21 1, 3) := by decide +kernel
theorem dL_law_1046 : decode cL_law 1046 = .ok (.goto (-32), 3) := by decide +kernel
theorem dL_law_1049 : decode cL_law 1049 = .ok (.iload 19, 2) := by decide +kernel
theorem dL_law_1051 : decode cL_law 1051 = .ok (.iconst 4, 1) := by decide +kernel
theorem dL_law_1052 : decode cL_law 1052 = .ok (.if_icmp .gt 38, 3) := by decide +kernel
theorem dL_law_1055 : decode cL_law 1055 = .ok (.iload 19, 2) := by decide +kernel
theorem dL_law_1057 : decode cL_law 1057 = .ok (.ifCond .lt 10, 3) := by decide +kernel
theorem dL_law_1060 : decode cL_law 1060 = .ok (.iload 19, 2) := by decide +kernel
theorem dL_law_1062 : decode cL_law 1062 = .ok (.iload 20, 2) := by decide +kernel
theorem dL_law_1064 : decode cL_law 1064 = .ok (.if_icmp .lt 26, 3) := by decide +kernel
theorem dL_law_1067 : decode cL_law 1067 = .ok (.iload 19, 2) := by decide +kernel
theorem dL_law_1069 : decode cL_law 1069 = .ok (.aload_n 1, 1) := by decide +kernel
theorem dL_law_1070 : decode cL_law 1070 = .ok (.iconst 3, 1) := by decide +kernel
theorem dL_law_1071 : decode cL_law 1071 = .ok (.invokevirtual 44, 3) := by decide +kernel
theorem dL_law_1074 : decode cL_law 1074 = .ok (.iload 15, 2) := by decide +kernel
theorem dL_law_1076 : decode cL_law 1076 = .ok (.isub, 1) := by decide +kernel
theorem dL_law_1077 : decode cL_law 1077 = .ok (.if_icmp .gt 13, 3) := by decide +kernel
theorem dL_law_1080 : decode cL_law 1080 = .ok (.iload 20, 2) := by decide +kernel
theorem dL_law_1082 : decode cL_law 1082 = .ok (.ifCond .le 10, 3) := by decide +kernel
theorem dL_law_1085 : decode cL_law 1085 = .ok (.iload 19, 2) := by decide +kernel
theorem dL_law_1087 : decode cL_law 1087 = .ok (.ifCond .ne 5, 3) := by decide +kernel
theorem dL_law_1090 : decode cL_law 1090 = .ok (.iconst 0, 1) := by decide +kernel
theorem dL_law_1091 : decode cL_law 1091 = .ok (.ireturn, 1) := by decide +kernel
theorem dL_law_1092 : decode cL_law 1092 = .ok (.iload 17, 2) := by decide +kernel
theorem dL_law_1094 : decode cL_law 1094 = .ok (.iload 19, 2) := by decide +kernel
theorem dL_law_1096 : decode cL_law 1096 = .ok (.ifCond .ne 7, 3) := by decide +kernel
theorem dL_law_1099 : decode cL_law 1099 = .ok (.iconst 1, 1) := by decide +kernel
theorem dL_law_1100 : decode cL_law 1100 = .ok (.goto 4, 3) := by decide +kernel
theorem dL_law_1103 : decode cL_law 1103 = .ok (.iconst 0, 1) := by decide +kernel
theorem dL_law_1104 : decode cL_law 1104 = .ok (.iadd, 1) := by decide +kernel
theorem dL_law_1105 : decode cL_law 1105 = .ok (.istore 17, 2) := by decide +kernel
theorem dL_law_1107 : decode cL_law 1107 = .ok (.iinc 18 1, 3) := by decide +kernel
theorem dL_law_1110 : decode cL_law 1110 = .ok (.goto (-117), 3) := by decide +kernel
theorem dL_law_1113 : decode cL_law 1113 = .ok (.iload 17, 2) := by decide +kernel
theorem dL_law_1115 : decode cL_law 1115 = .ok (.aload_n 1, 1) := by decide +kernel
theorem dL_law_1116 : decode cL_law 1116 = .ok (.bipush 6, 2) := by decide +kernel
theorem dL_law_1118 : decode cL_law 1118 = .ok (.invokevirtual 44, 3) := by decide +kernel
theorem dL_law_1121 : decode cL_law 1121 = .ok (.if_icmp .ne 13, 3) := by decide +kernel
theorem dL_law_1124 : decode cL_law 1124 = .ok (.aload_n 1, 1) := by decide +kernel
theorem dL_law_1125 : decode cL_law 1125 = .ok (.invokevirtual 85, 3) := by decide +kernel
theorem dL_law_1128 : decode cL_law 1128 = .ok (.lload 11, 2) := by decide +kernel
theorem dL_law_1130 : decode cL_law 1130 = .ok (.lcmp, 1) := by decide +kernel
theorem dL_law_1131 : decode cL_law 1131 = .ok (.ifCond .eq 5, 3) := by decide +kernel
theorem dL_law_1134 : decode cL_law 1134 = .ok (.iconst 0, 1) := by decide +kernel
theorem dL_law_1135 : decode cL_law 1135 = .ok (.ireturn, 1) := by decide +kernel
theorem dL_law_1136 : decode cL_law 1136 = .ok (.aload_n 1, 1) := by decide +kernel
theorem dL_law_1137 : decode cL_law 1137 = .ok (.iconst 3, 1) := by decide +kernel
theorem dL_law_1138 : decode cL_law 1138 = .ok (.invokevirtual 44, 3) := by decide +kernel
theorem dL_law_1141 : decode cL_law 1141 = .ok (.iconst 2, 1) := by decide +kernel
theorem dL_law_1142 : decode cL_law 1142 = .ok (.if_icmp .ge 6, 3) := by decide +kernel
theorem dL_law_1145 : decode cL_law 1145 = .ok (.goto 138, 3) := by decide +kernel
theorem dL_law_1148 : decode cL_law 1148 = .ok (.iload 4, 2) := by decide +kernel
theorem dL_law_1150 : decode cL_law 1150 = .ok (.iconst 4, 1) := by decide +kernel
theorem dL_law_1151 : decode cL_law 1151 = .ok (.ishr, 1) := by decide +kernel
theorem dL_law_1152 : decode cL_law 1152 = .ok (.aload_n 1, 1) := by decide +kernel
theorem dL_law_1153 : decode cL_law 1153 = .ok (.iconst 3, 1) := by decide +kernel
theorem dL_law_1154 : decode cL_law 1154 = .ok (.invokevirtual 44, 3) := by decide +kernel
theorem dL_law_1157 : decode cL_law 1157 = .ok (.invokestatic 18, 3) := by decide +kernel
theorem dL_law_1160 : decode cL_law 1160 = .ok (.istore 18, 2) := by decide +kernel
theorem dL_law_1162 : decode cL_law 1162 = .ok (.iload 4, 2) := by decide +kernel
theorem dL_law_1164 : decode cL_law 1164 = .ok (.bipush 6, 2) := by decide +kernel
theorem dL_law_1166 : decode cL_law 1166 = .ok (.ishr, 1) := by decide +kernel
theorem dL_law_1167 : decode cL_law 1167 = .ok (.aload_n 1, 1) := by decide +kernel
theorem dL_law_1168 : decode cL_law 1168 = .ok (.iconst 3, 1) := by decide +kernel
theorem dL_law_1169 : decode cL_law 1169 = .ok (.invokevirtual 44, 3) := by decide +kernel
theorem dL_law_1172 : decode cL_law 1172 = .ok (.invokestatic 18, 3) := by decide +kernel
theorem dL_law_1175 : decode cL_law 1175 = .ok (.istore 19, 2) := by decide +kernel
theorem dL_law_1177 : decode cL_law 1177 = .ok (.aload_n 1, 1) := by decide +kernel
theorem dL_law_1178 : decode cL_law 1178 = .ok (.iload 18, 2) := by decide +kernel
theorem dL_law_1180 : decode cL_law 1180 = .ok (.iload 19, 2) := by decide +kernel
theorem dL_law_1182 : decode cL_law 1182 = .ok (.invokevirtual 116, 3) := by decide +kernel
theorem dL_law_1185 : decode cL_law 1185 = .ok (.istore 20, 2) := by decide +kernel
theorem dL_law_1187 : decode cL_law 1187 = .ok (.iload 20, 2) := by decide +kernel
theorem dL_law_1189 : decode cL_law 1189 = .ok (.bipush 7, 2) := by decide +kernel
theorem dL_law_1191 : decode cL_law 1191 = .ok (.if_icmp .gt 90, 3) := by decide +kernel
theorem dL_law_1194 : decode cL_law 1194 = .ok (.iload 20, 2) := by decide +kernel
theorem dL_law_1196 : decode cL_law 1196 = .ok (.ifCond .ge 7, 3) := by decide +kernel
theorem dL_law_1199 : decode cL_law 1199 = .ok (.iconst 1, 1) := by decide +kernel
theorem dL_law_1200 : decode cL_law 1200 = .ok (.goto 4, 3) := by decide +kernel
theorem dL_law_1203 : decode cL_law 1203 = .ok (.iconst 0, 1) := by decide +kernel
theorem dL_law_1204 : decode cL_law 1204 = .ok (.aload_n 1, 1) := by decide +kernel
theorem dL_law_1205 : decode cL_law 1205 = .ok (.iload 19, 2) := by decide +kernel
theorem dL_law_1207 : decode cL_law 1207 = .ok (.iload 18, 2) := by decide +kernel
theorem dL_law_1209 : decode cL_law 1209 = .ok (.invokevirtual 116, 3) := by decide +kernel
theorem dL_law_1212 : decode cL_law 1212 = .ok (.ifCond .ge 7, 3) := by decide +kernel
theorem dL_law_1215 : decode cL_law 1215 = .ok (.iconst 1, 1) := by decide +kernel
theorem dL_law_1216 : decode cL_law 1216 = .ok (.goto 4, 3) := by decide +kernel
theorem dL_law_1219 : decode cL_law 1219 = .ok (.iconst 0, 1) := by decide +kernel
theorem dL_law_1220 : decode cL_law 1220 = .ok (.if_icmp .ne 61, 3) := by decide +kernel
theorem dL_law_1223 : decode cL_law 1223 = .ok (.iload 20, 2) := by decide +kernel
theorem dL_law_1225 : decode cL_law 1225 = .ok (.ifCond .ne 7, 3) := by decide +kernel
theorem dL_law_1228 : decode cL_law 1228 = .ok (.iconst 1, 1) := by decide +kernel
theorem dL_law_1229 : decode cL_law 1229 = .ok (.goto 4, 3) := by decide +kernel
theorem dL_law_1232 : decode cL_law 1232 = .ok (.iconst 0, 1) := by decide +kernel
theorem dL_law_1233 : decode cL_law 1233 = .ok (.aload_n 1, 1) := by decide +kernel
theorem dL_law_1234 : decode cL_law 1234 = .ok (.iload 19, 2) := by decide +kernel
theorem dL_law_1236 : decode cL_law 1236 = .ok (.iload 18, 2) := by decide +kernel
theorem dL_law_1238 : decode cL_law 1238 = .ok (.invokevirtual 116, 3) := by decide +kernel
theorem dL_law_1241 : decode cL_law 1241 = .ok (.ifCond .ne 7, 3) := by decide +kernel
theorem dL_law_1244 : decode cL_law 1244 = .ok (.iconst 1, 1) := by decide +kernel
theorem dL_law_1245 : decode cL_law 1245 = .ok (.goto 4, 3) := by decide +kernel
theorem dL_law_1248 : decode cL_law 1248 = .ok (.iconst 0, 1) := by decide +kernel
theorem dL_law_1249 : decode cL_law 1249 = .ok (.if_icmp .ne 32, 3) := by decide +kernel
theorem dL_law_1252 : decode cL_law 1252 = .ok (.aload_n 1, 1) := by decide +kernel
theorem dL_law_1253 : decode cL_law 1253 = .ok (.iload 5, 2) := by decide +kernel
theorem dL_law_1255 : decode cL_law 1255 = .ok (.iload 18, 2) := by decide +kernel
theorem dL_law_1257 : decode cL_law 1257 = .ok (.invokevirtual 119, 3) := by decide +kernel
theorem dL_law_1260 : decode cL_law 1260 = .ok (.aload_n 1, 1) := by decide +kernel
theorem dL_law_1261 : decode cL_law 1261 = .ok (.iload 5, 2) := by decide +kernel
theorem dL_law_1263 : decode cL_law 1263 = .ok (.iconst 0, 1) := by decide +kernel
theorem dL_law_1264 : decode cL_law 1264 = .ok (.invokevirtual 76, 3) := by decide +kernel
theorem dL_law_1267 : decode cL_law 1267 = .ok (.if_icmp .gt 14, 3) := by decide +kernel
theorem dL_law_1270 : decode cL_law 1270 = .ok (.aload_n 1, 1) := by decide +kernel
theorem dL_law_1271 : decode cL_law 1271 = .ok (.iload 5, 2) := by decide +kernel
theorem dL_law_1273 : decode cL_law 1273 = .ok (.iload 18, 2) := by decide +kernel
theorem dL_law_1275 : decode cL_law 1275 = .ok (.invokevirtual 119, 3) := by decide +kernel
theorem dL_law_1278 : decode cL_law 1278 = .ok (.ifCond .ne 5, 3) := by decide +kernel
theorem dL_law_1281 : decode cL_law 1281 = .ok (.iconst 0, 1) := by decide +kernel
theorem dL_law_1282 : decode cL_law 1282 = .ok (.ireturn, 1) := by decide +kernel
theorem dL_law_1283 : decode cL_law 1283 = .ok (.iinc 3 1, 3) := by decide +kernel
theorem dL_law_1286 : decode cL_law 1286 = .ok (.goto (-1273), 3) := by decide +kernel
theorem dL_law_1289 : decode cL_law 1289 = .ok (.iconst 1, 1) := by decide +kernel
theorem dL_law_1290 : decode cL_law 1290 = .ok (.ireturn, 1) := by decide +kernel
set_option maxRecDepth 20000 in
theorem ggL_look_X3_colour : GoodIn wsL_look wsX3_colour := goodIn_ca (goodIn_r _ [6, 7, 8, 9, 10, 11, 5, 12, 13, 14, 15, 16, 17, 18, 19, 20, 21, 22, 23, 24, 25, 26, 27, 28, 29, 30, 31, 32, 33, 34, 35, 36, 37, 38, 39, 40, 41, 42, 43, 44, 45, 46] (by decide +kernel) (by decide +kernel)) (goodIn_sub (fun _ h => List.mem_cons_of_mem _ (List.mem_append_right _ h)) (by decide +kernel))
set_option maxRecDepth 20000 in
theorem gL_look_X3_colour : GoodIn wsL_look (wsV RL 122 RX3 yX3_colour wsX3_colour) := goodIn_app (goodIn_of _ (by decide +kernel)) ggL_look_X3_colour
theorem dL_look_0 : decode cL_look 0 = .ok (.bipush 24, 2) := by decide +kernel
theorem dL_look_2 : decode cL_look 2 = .ok (.newarray .int, 2) := by decide +kernel
theorem dL_look_4 : decode cL_look 4 = .ok (.astore_n 2, 1) := by decide +kernel
theorem dL_look_5 : decode cL_look 5 = .ok (.iconst 0, 1) := by decide +kernel
theorem dL_look_6 : decode cL_look 6 = .ok (.istore_n 3, 1) := by decide +kernel
theorem dL_look_7 : decode cL_look 7 = .ok (.iload_n 3, 1) := by decide +kernel
theorem dL_look_8 : decode cL_look 8 = .ok (.bipush 24, 2) := by decide +kernel
theorem dL_look_10 : decode cL_look 10 = .ok (.if_icmp .ge 25, 3) := by decide +kernel
theorem dL_look_13 : decode cL_look 13 = .ok (.aload_n 2, 1) := by decide +kernel
theorem dL_look_14 : decode cL_look 14 = .ok (.iload_n 3, 1) := by decide +kernel
theorem dL_look_15 : decode cL_look 15 = .ok (.aload_n 0, 1) := by decide +kernel
theorem dL_look_16 : decode cL_look 16 = .ok (.iload_n 1, 1) := by decide +kernel
theorem dL_look_17 : decode cL_look 17 = .ok (.iload_n 3, 1) := by decide +kernel
theorem dL_look_18 : decode cL_look 18 = .ok (.bipush 8, 2) := by decide +kernel
theorem dL_look_20 : decode cL_look 20 = .ok (.idiv, 1) := by decide +kernel
theorem dL_look_21 : decode cL_look 21 = .ok (.iload_n 3, 1) := by decide +kernel
theorem dL_look_22 : decode cL_look 22 = .ok (.bipush 8, 2) := by decide +kernel
theorem dL_look_24 : decode cL_look 24 = .ok (.irem, 1) := by decide +kernel
theorem dL_look_25 : decode cL_look 25 = .ok (.invokevirtual 122, 3) := by decide +kernel
theorem dL_look_28 : decode cL_look 28 = .ok (.iastore, 1) := by decide +kernel
theorem dL_look_29 : decode cL_look 29 = .ok (.iinc 3 1, 3) := by decide +kernel
theorem dL_look_32 : decode cL_look 32 = .ok (.goto (-25), 3) := by decide +kernel
theorem dL_look_35 : decode cL_look 35 = .ok (.aload_n 2, 1) := by decide +kernel
theorem dL_look_36 : decode cL_look 36 = .ok (.areturn, 1) := by decide +kernel
abbrev vwCl : List vw_C := [(RX0, TX0, 5), (RX1, TX1, 1), (RX2, TX2, 5), (RX3, TX3, 8)]
