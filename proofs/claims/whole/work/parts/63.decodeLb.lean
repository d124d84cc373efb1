theorem d_law_613 : decode code 613 = .ok (.iaload, 1) := by decide +kernel
theorem d_law_614 : decode code 614 = .ok (.aload_n 0, 1) := by decide +kernel
theorem d_law_615 : decode code 615 = .ok (.iload 4, 2) := by decide +kernel
theorem d_law_617 : decode code 617 = .ok (.iconst 2, 1) := by decide +kernel
theorem d_law_618 : decode code 618 = .ok (.iadd, 1) := by decide +kernel
theorem d_law_619 : decode code 619 = .ok (.iaload, 1) := by decide +kernel
theorem d_law_620 : decode code 620 = .ok (.aload_n 0, 1) := by decide +kernel
theorem d_law_621 : decode code 621 = .ok (.iload 4, 2) := by decide +kernel
theorem d_law_623 : decode code 623 = .ok (.iconst 3, 1) := by decide +kernel
theorem d_law_624 : decode code 624 = .ok (.iadd, 1) := by decide +kernel
theorem d_law_625 : decode code 625 = .ok (.iaload, 1) := by decide +kernel
theorem d_law_626 : decode code 626 = .ok (.aload_n 3, 1) := by decide +kernel
theorem d_law_627 : decode code 627 = .ok (.invokestatic 112, 3) := by decide +kernel
theorem d_law_630 : decode code 630 = .ok (.istore 5, 2) := by decide +kernel
theorem d_law_632 : decode code 632 = .ok (.aload_n 2, 1) := by decide +kernel
theorem d_law_633 : decode code 633 = .ok (.aload_n 0, 1) := by decide +kernel
theorem d_law_634 : decode code 634 = .ok (.iload 4, 2) := by decide +kernel
theorem d_law_636 : decode code 636 = .ok (.iconst 1, 1) := by decide +kernel
theorem d_law_637 : decode code 637 = .ok (.iadd, 1) := by decide +kernel
theorem d_law_638 : decode code 638 = .ok (.iaload, 1) := by decide +kernel
theorem d_law_639 : decode code 639 = .ok (.aload_n 0, 1) := by decide +kernel
theorem d_law_640 : decode code 640 = .ok (.iload 4, 2) := by decide +kernel
theorem d_law_642 : decode code 642 = .ok (.iconst 2, 1) := by decide +kernel
theorem d_law_643 : decode code 643 = .ok (.iadd, 1) := by decide +kernel
theorem d_law_644 : decode code 644 = .ok (.iaload, 1) := by decide +kernel
theorem d_law_645 : decode code 645 = .ok (.aload_n 0, 1) := by decide +kernel
theorem d_law_646 : decode code 646 = .ok (.iload 4, 2) := by decide +kernel
theorem d_law_648 : decode code 648 = .ok (.iconst 3, 1) := by decide +kernel
theorem d_law_649 : decode code 649 = .ok (.iadd, 1) := by decide +kernel
theorem d_law_650 : decode code 650 = .ok (.iaload, 1) := by decide +kernel
theorem d_law_651 : decode code 651 = .ok (.invokevirtual 114, 3) := by decide +kernel
theorem d_law_654 : decode code 654 = .ok (.istore 6, 2) := by decide +kernel
theorem d_law_656 : decode code 656 = .ok (.aload_n 2, 1) := by decide +kernel
theorem d_law_657 : decode code 657 = .ok (.invokevirtual 90, 3) := by decide +kernel
theorem d_law_660 : decode code 660 = .ok (.iload 5, 2) := by decide +kernel
theorem d_law_662 : decode code 662 = .ok (.if_icmp .eq 5, 3) := by decide +kernel
theorem d_law_665 : decode code 665 = .ok (.iconst 0, 1) := by decide +kernel
theorem d_law_666 : decode code 666 = .ok (.ireturn, 1) := by decide +kernel
theorem d_law_667 : decode code 667 = .ok (.iload 5, 2) := by decide +kernel
theorem d_law_669 : decode code 669 = .ok (.ifCond .ne 15, 3) := by decide +kernel
theorem d_law_672 : decode code 672 = .ok (.aload_n 3, 1) := by decide +kernel
theorem d_law_673 : decode code 673 = .ok (.iconst 0, 1) := by decide +kernel
theorem d_law_674 : decode code 674 = .ok (.laload, 1) := by decide +kernel
theorem d_law_675 : decode code 675 = .ok (.iload 6, 2) := by decide +kernel
theorem d_law_677 : decode code 677 = .ok (.i2l, 1) := by decide +kernel
theorem d_law_678 : decode code 678 = .ok (.lcmp, 1) := by decide +kernel
theorem d_law_679 : decode code 679 = .ok (.ifCond .eq 5, 3) := by decide +kernel
theorem d_law_682 : decode code 682 = .ok (.iconst 0, 1) := by decide +kernel
theorem d_law_683 : decode code 683 = .ok (.ireturn, 1) := by decide +kernel
theorem d_law_684 : decode code 684 = .ok (.goto 925, 3) := by decide +kernel
theorem d_law_687 : decode code 687 = .ok (.aload_n 1, 1) := by decide +kernel
theorem d_law_688 : decode code 688 = .ok (.aload_n 0, 1) := by decide +kernel
theorem d_law_689 : decode code 689 = .ok (.iload 4, 2) := by decide +kernel
theorem d_law_691 : decode code 691 = .ok (.iconst 1, 1) := by decide +kernel
theorem d_law_692 : decode code 692 = .ok (.iadd, 1) := by decide +kernel
theorem d_law_693 : decode code 693 = .ok (.iaload, 1) := by decide +kernel
theorem d_law_694 : decode code 694 = .ok (.aload_n 0, 1) := by decide +kernel
theorem d_law_695 : decode code 695 = .ok (.iload 4, 2) := by decide +kernel
theorem d_law_697 : decode code 697 = .ok (.iconst 2, 1) := by decide +kernel
theorem d_law_698 : decode code 698 = .ok (.iadd, 1) := by decide +kernel
theorem d_law_699 : decode code 699 = .ok (.iaload, 1) := by decide +kernel
theorem d_law_700 : decode code 700 = .ok (.aload_n 3, 1) := by decide +kernel
theorem d_law_701 : decode code 701 = .ok (.invokestatic 115, 3) := by decide +kernel
theorem d_law_704 : decode code 704 = .ok (.istore 5, 2) := by decide +kernel
theorem d_law_706 : decode code 706 = .ok (.aload_n 2, 1) := by decide +kernel
theorem d_law_707 : decode code 707 = .ok (.aload_n 0, 1) := by decide +kernel
theorem d_law_708 : decode code 708 = .ok (.iload 4, 2) := by decide +kernel
theorem d_law_710 : decode code 710 = .ok (.iconst 1, 1) := by decide +kernel
theorem d_law_711 : decode code 711 = .ok (.iadd, 1) := by decide +kernel
theorem d_law_712 : decode code 712 = .ok (.iaload, 1) := by decide +kernel
theorem d_law_713 : decode code 713 = .ok (.aload_n 0, 1) := by decide +kernel
theorem d_law_714 : decode code 714 = .ok (.iload 4, 2) := by decide +kernel
theorem d_law_716 : decode code 716 = .ok (.iconst 2, 1) := by decide +kernel
theorem d_law_717 : decode code 717 = .ok (.iadd, 1) := by decide +kernel
theorem d_law_718 : decode code 718 = .ok (.iaload, 1) := by decide +kernel
theorem d_law_719 : decode code 719 = .ok (.invokevirtual 117, 3) := by decide +kernel
theorem d_law_722 : decode code 722 = .ok (.istore 6, 2) := by decide +kernel
theorem d_law_724 : decode code 724 = .ok (.aload_n 2, 1) := by decide +kernel
theorem d_law_725 : decode code 725 = .ok (.invokevirtual 90, 3) := by decide +kernel
theorem d_law_728 : decode code 728 = .ok (.iload 5, 2) := by decide +kernel
theorem d_law_730 : decode code 730 = .ok (.if_icmp .eq 5, 3) := by decide +kernel
theorem d_law_733 : decode code 733 = .ok (.iconst 0, 1) := by decide +kernel
theorem d_law_734 : decode code 734 = .ok (.ireturn, 1) := by decide +kernel
theorem d_law_735 : decode code 735 = .ok (.iload 5, 2) := by decide +kernel
theorem d_law_737 : decode code 737 = .ok (.ifCond .ne 15, 3) := by decide +kernel
theorem d_law_740 : decode code 740 = .ok (.aload_n 3, 1) := by decide +kernel
theorem d_law_741 : decode code 741 = .ok (.iconst 0, 1) := by decide +kernel
theorem d_law_742 : decode code 742 = .ok (.laload, 1) := by decide +kernel
theorem d_law_743 : decode code 743 = .ok (.iload 6, 2) := by decide +kernel
theorem d_law_745 : decode code 745 = .ok (.i2l, 1) := by decide +kernel
theorem d_law_746 : decode code 746 = .ok (.lcmp, 1) := by decide +kernel
theorem d_law_747 : decode code 747 = .ok (.ifCond .eq 5, 3) := by decide +kernel
theorem d_law_750 : decode code 750 = .ok (.iconst 0, 1) := by decide +kernel
theorem d_law_751 : decode code 751 = .ok (.ireturn, 1) := by decide +kernel
theorem d_law_752 : decode code 752 = .ok (.goto 857, 3) := by decide +kernel
theorem d_law_755 : decode code 755 = .ok (.aload_n 1, 1) := by decide +kernel
theorem d_law_756 : decode code 756 = .ok (.aload_n 0, 1) := by decide +kernel
theorem d_law_757 : decode code 757 = .ok (.iload 4, 2) := by decide +kernel
theorem d_law_759 : decode code 759 = .ok (.iconst 1, 1) := by decide +kernel
theorem d_law_760 : decode code 760 = .ok (.iadd, 1) := by decide +kernel
theorem d_law_761 : decode code 761 = .ok (.iaload, 1) := by decide +kernel
theorem d_law_762 : decode code 762 = .ok (.aload_n 0, 1) := by decide +kernel
theorem d_law_763 : decode code 763 = .ok (.iload 4, 2) := by decide +kernel
theorem d_law_765 : decode code 765 = .ok (.iconst 2, 1) := by decide +kernel
theorem d_law_766 : decode code 766 = .ok (.iadd, 1) := by decide +kernel
theorem d_law_767 : decode code 767 = .ok (.iaload, 1) := by decide +kernel
theorem d_law_768 : decode code 768 = .ok (.aload_n 3, 1) := by decide +kernel
theorem d_law_769 : decode code 769 = .ok (.invokestatic 118, 3) := by decide +kernel
theorem d_law_772 : decode code 772 = .ok (.istore 5, 2) := by decide +kernel
theorem d_law_774 : decode code 774 = .ok (.aload_n 2, 1) := by decide +kernel
theorem d_law_775 : decode code 775 = .ok (.aload_n 0, 1) := by decide +kernel
theorem d_law_776 : decode code 776 = .ok (.iload 4, 2) := by decide +kernel
theorem d_law_778 : decode code 778 = .ok (.iconst 1, 1) := by decide +kernel
theorem d_law_779 : decode code 779 = .ok (.iadd, 1) := by decide +kernel
theorem d_law_780 : decode code 780 = .ok (.iaload, 1) := by decide +kernel
theorem d_law_781 : decode code 781 = .ok (.aload_n 0, 1) := by decide +kernel
theorem d_law_782 : decode code 782 = .ok (.iload 4, 2) := by decide +kernel
theorem d_law_784 : decode code 784 = .ok (.iconst 2, 1) := by decide +kernel
theorem d_law_785 : decode code 785 = .ok (.iadd, 1) := by decide +kernel
theorem d_law_786 : decode code 786 = .ok (.iaload, 1) := by decide +kernel
theorem d_law_787 : decode code 787 = .ok (.invokevirtual 120, 3) := by decide +kernel
theorem d_law_790 : decode code 790 = .ok (.istore 6, 2) := by decide +kernel
theorem d_law_792 : decode code 792 = .ok (.aload_n 2, 1) := by decide +kernel
theorem d_law_793 : decode code 793 = .ok (.invokevirtual 90, 3) := by decide +kernel
theorem d_law_796 : decode code 796 = .ok (.iload 5, 2) := by decide +kernel
theorem d_law_798 : decode code 798 = .ok (.if_icmp .eq 5, 3) := by decide +kernel
theorem d_law_801 : decode code 801 = .ok (.iconst 0, 1) := by decide +kernel
theorem d_law_802 : decode code 802 = .ok (.ireturn, 1) := by decide +kernel
theorem d_law_803 : decode code 803 = .ok (.iload 5, 2) := by decide +kernel
theorem d_law_805 : decode code 805 = .ok (.ifCond .ne 15, 3) := by decide +kernel
theorem d_law_808 : decode code 808 = .ok (.aload_n 3, 1) := by decide +kernel
theorem d_law_809 : decode code 809 = .ok (.iconst 0, 1) := by decide +kernel
theorem d_law_810 : decode code 810 = .ok (.laload, 1) := by decide +kernel
theorem d_law_811 : decode code 811 = .ok (.iload 6, 2) := by decide +kernel
theorem d_law_813 : decode code 813 = .ok (.i2l, 1) := by decide +kernel
theorem d_law_814 : decode code 814 = .ok (.lcmp, 1) := by decide +kernel
theorem d_law_815 : decode code 815 = .ok (.ifCond .eq 5, 3) := by decide +kernel
theorem d_law_818 : decode code 818 = .ok (.iconst 0, 1) := by decide +kernel
theorem d_law_819 : decode code 819 = .ok (.ireturn, 1) := by decide +kernel
theorem d_law_820 : decode code 820 = .ok (.goto 789, 3) := by decide +kernel
theorem d_law_823 : decode code 823 = .ok (.aload_n 1, 1) := by decide +kernel
theorem d_law_824 : decode code 824 = .ok (.aload_n 0, 1) := by decide +kernel
theorem d_law_825 : decode code 825 = .ok (.iload 4, 2) := by decide +kernel
theorem d_law_827 : decode code 827 = .ok (.iconst 1, 1) := by decide +kernel
theorem d_law_828 : decode code 828 = .ok (.iadd, 1) := by decide +kernel
theorem d_law_829 : decode code 829 = .ok (.iaload, 1) := by decide +kernel
theorem d_law_830 : decode code 830 = .ok (.aload_n 0, 1) := by decide +kernel
theorem d_law_831 : decode code 831 = .ok (.iload 4, 2) := by decide +kernel
theorem d_law_833 : decode code 833 = .ok (.iconst 2, 1) := by decide +kernel
theorem d_law_834 : decode code 834 = .ok (.iadd, 1) := by decide +kernel
theorem d_law_835 : decode code 835 = .ok (.iaload, 1) := by decide +kernel
theorem d_law_836 : decode code 836 = .ok (.aload_n 3, 1) := by decide +kernel
theorem d_law_837 : decode code 837 = .ok (.invokestatic 121, 3) := by decide +kernel
theorem d_law_840 : decode code 840 = .ok (.istore 5, 2) := by decide +kernel
theorem d_law_842 : decode code 842 = .ok (.aload_n 2, 1) := by decide +kernel
theorem d_law_843 : decode code 843 = .ok (.aload_n 0, 1) := by decide +kernel
theorem d_law_844 : decode code 844 = .ok (.iload 4, 2) := by decide +kernel
theorem d_law_846 : decode code 846 = .ok (.iconst 1, 1) := by decide +kernel
theorem d_law_847 : decode code 847 = .ok (.iadd, 1) := by decide +kernel
theorem d_law_848 : decode code 848 = .ok (.iaload, 1) := by decide +kernel
theorem d_law_849 : decode code 849 = .ok (.aload_n 0, 1) := by decide +kernel
theorem d_law_850 : decode code 850 = .ok (.iload 4, 2) := by decide +kernel
theorem d_law_852 : decode code 852 = .ok (.iconst 2, 1) := by decide +kernel
theorem d_law_853 : decode code 853 = .ok (.iadd, 1) := by decide +kernel
theorem d_law_854 : decode code 854 = .ok (.iaload, 1) := by decide +kernel
theorem d_law_855 : decode code 855 = .ok (.invokevirtual 123, 3) := by decide +kernel
theorem d_law_858 : decode code 858 = .ok (.istore 6, 2) := by decide +kernel
theorem d_law_860 : decode code 860 = .ok (.aload_n 2, 1) := by decide +kernel
theorem d_law_861 : decode code 861 = .ok (.invokevirtual 90, 3) := by decide +kernel
theorem d_law_864 : decode code 864 = .ok (.iload 5, 2) := by decide +kernel
theorem d_law_866 : decode code 866 = .ok (.if_icmp .eq 5, 3) := by decide +kernel
theorem d_law_869 : decode code 869 = .ok (.iconst 0, 1) := by decide +kernel
theorem d_law_870 : decode code 870 = .ok (.ireturn, 1) := by decide +kernel
theorem d_law_871 : decode code 871 = .ok (.iload 5, 2) := by decide +kernel
theorem d_law_873 : decode code 873 = .ok (.ifCond .ne 15, 3) := by decide +kernel
theorem d_law_876 : decode code 876 = .ok (.aload_n 3, 1) := by decide +kernel
theorem d_law_877 : decode code 877 = .ok (.iconst 0, 1) := by decide +kernel
theorem d_law_878 : decode code 878 = .ok (.laload, 1) := by decide +kernel
theorem d_law_879 : decode code 879 = .ok (.iload 6, 2) := by decide +kernel
theorem d_law_881 : decode code 881 = .ok (.i2l, 1) := by decide +kernel
theorem d_law_882 : decode code 882 = .ok (.lcmp, 1) := by decide +kernel
theorem d_law_883 : decode code 883 = .ok (.ifCond .eq 5, 3) := by decide +kernel
theorem d_law_886 : decode code 886 = .ok (.iconst 0, 1) := by decide +kernel
theorem d_law_887 : decode code 887 = .ok (.ireturn, 1) := by decide +kernel
theorem d_law_888 : decode code 888 = .ok (.goto 721, 3) := by decide +kernel
theorem d_law_891 : decode code 891 = .ok (.aload_n 1, 1) := by decide +kernel
theorem d_law_892 : decode code 892 = .ok (.aload_n 0, 1) := by decide +kernel
theorem d_law_893 : decode code 893 = .ok (.iload 4, 2) := by decide +kernel
theorem d_law_895 : decode code 895 = .ok (.iconst 1, 1) := by decide +kernel
theorem d_law_896 : decode code 896 = .ok (.iadd, 1) := by decide +kernel
theorem d_law_897 : decode code 897 = .ok (.iaload, 1) := by decide +kernel
theorem d_law_898 : decode code 898 = .ok (.aload_n 3, 1) := by decide +kernel
theorem d_law_899 : decode code 899 = .ok (.invokestatic 124, 3) := by decide +kernel
theorem d_law_902 : decode code 902 = .ok (.istore 5, 2) := by decide +kernel
theorem d_law_904 : decode code 904 = .ok (.aload_n 2, 1) := by decide +kernel
theorem d_law_905 : decode code 905 = .ok (.aload_n 0, 1) := by decide +kernel
theorem d_law_906 : decode code 906 = .ok (.iload 4, 2) := by decide +kernel
theorem d_law_908 : decode code 908 = .ok (.iconst 1, 1) := by decide +kernel
theorem d_law_909 : decode code 909 = .ok (.iadd, 1) := by decide +kernel
theorem d_law_910 : decode code 910 = .ok (.iaload, 1) := by decide +kernel
theorem d_law_911 : decode code 911 = .ok (.invokevirtual 127, 3) := by decide +kernel
theorem d_law_914 : decode code 914 = .ok (.istore 6, 2) := by decide +kernel
theorem d_law_916 : decode code 916 = .ok (.aload_n 2, 1) := by decide +kernel
theorem d_law_917 : decode code 917 = .ok (.invokevirtual 90, 3) := by decide +kernel
theorem d_law_920 : decode code 920 = .ok (.iload 5, 2) := by decide +kernel
theorem d_law_922 : decode code 922 = .ok (.if_icmp .eq 5, 3) := by decide +kernel
theorem d_law_925 : decode code 925 = .ok (.iconst 0, 1) := by decide +kernel
theorem d_law_926 : decode code 926 = .ok (.ireturn, 1) := by decide +kernel
theorem d_law_927 : decode code 927 = .ok (.iload 5, 2) := by decide +kernel
theorem d_law_929 : decode code 929 = .ok (.ifCond .ne 15, 3) := by decide +kernel
theorem d_law_932 : decode code 932 = .ok (.aload_n 3, 1) := by decide +kernel
theorem d_law_933 : decode code 933 = .ok (.iconst 0, 1) := by decide +kernel
theorem d_law_934 : decode code 934 = .ok (.laload, 1) := by decide +kernel
theorem d_law_935 : decode code 935 = .ok (.iload 6, 2) := by decide +kernel
theorem d_law_937 : decode code 937 = .ok (.i2l, 1) := by decide +kernel
theorem d_law_938 : decode code 938 = .ok (.lcmp, 1) := by decide +kernel
theorem d_law_939 : decode code 939 = .ok (.ifCond .eq 5, 3) := by decide +kernel
theorem d_law_942 : decode code 942 = .ok (.iconst 0, 1) := by decide +kernel
theorem d_law_943 : decode code 943 = .ok (.ireturn, 1) := by decide +kernel
theorem d_law_944 : decode code 944 = .ok (.goto 665, 3) := by decide +kernel
theorem d_law_947 : decode code 947 = .ok (.aload_n 1, 1) := by decide +kernel
theorem d_law_948 : decode code 948 = .ok (.aload_n 0, 1) := by decide +kernel
theorem d_law_949 : decode code 949 = .ok (.iload 4, 2) := by decide +kernel
theorem d_law_951 : decode code 951 = .ok (.iconst 1, 1) := by decide +kernel
theorem d_law_952 : decode code 952 = .ok (.iadd, 1) := by decide +kernel
theorem d_law_953 : decode code 953 = .ok (.iaload, 1) := by decide +kernel
theorem d_law_954 : decode code 954 = .ok (.aload_n 0, 1) := by decide +kernel
theorem d_law_955 : decode code 955 = .ok (.iload 4, 2) := by decide +kernel
theorem d_law_957 : decode code 957 = .ok (.iconst 2, 1) := by decide +kernel
theorem d_law_958 : decode code 958 = .ok (.iadd, 1) := by decide +kernel
theorem d_law_959 : decode code 959 = .ok (.iaload, 1) := by decide +kernel
theorem d_law_960 : decode code 960 = .ok (.aload_n 0, 1) := by decide +kernel
theorem d_law_961 : decode code 961 = .ok (.iload 4, 2) := by decide +kernel
theorem d_law_963 : decode code 963 = .ok (.iconst 3, 1) := by decide +kernel
theorem d_law_964 : decode code 964 = .ok (.iadd, 1) := by decide +kernel
theorem d_law_965 : decode code 965 = .ok (.iaload, 1) := by decide +kernel
theorem d_law_966 : decode code 966 = .ok (.aload_n 0, 1) := by decide +kernel
theorem d_law_967 : decode code 967 = .ok (.iload 4, 2) := by decide +kernel
theorem d_law_969 : decode code 969 = .ok (.iconst 4, 1) := by decide +kernel
theorem d_law_970 : decode code 970 = .ok (.iadd, 1) := by decide +kernel
theorem d_law_971 : decode code 971 = .ok (.iaload, 1) := by decide +kernel
theorem d_law_972 : decode code 972 = .ok (.aload_n 3, 1) := by decide +kernel
theorem d_law_973 : decode code 973 = .ok (.invokestatic 128, 3) := by decide +kernel
theorem d_law_976 : decode code 976 = .ok (.istore 5, 2) := by decide +kernel
theorem d_law_978 : decode code 978 = .ok (.aload_n 2, 1) := by decide +kernel
theorem d_law_979 : decode code 979 = .ok (.aload_n 0, 1) := by decide +kernel
theorem d_law_980 : decode code 980 = .ok (.iload 4, 2) := by decide +kernel
theorem d_law_982 : decode code 982 = .ok (.iconst 1, 1) := by decide +kernel
theorem d_law_983 : decode code 983 = .ok (.iadd, 1) := by decide +kernel
theorem d_law_984 : decode code 984 = .ok (.iaload, 1) := by decide +kernel
theorem d_law_985 : decode code 985 = .ok (.aload_n 0, 1) := by decide +kernel
theorem d_law_986 : decode code 986 = .ok (.iload 4, 2) := by decide +kernel
theorem d_law_988 : decode code 988 = .ok (.iconst 2, 1) := by decide +kernel
theorem d_law_989 : decode code 989 = .ok (.iadd, 1) := by decide +kernel
theorem d_law_990 : decode code 990 = .ok (.iaload, 1) := by decide +kernel
theorem d_law_991 : decode code 991 = .ok (.aload_n 0, 1) := by decide +kernel
theorem d_law_992 : decode code 992 = .ok (.iload 4, 2) := by decide +kernel
theorem d_law_994 : decode code 994 = .ok (.iconst 3, 1) := by decide +kernel
theorem d_law_995 : decode code 995 = .ok (.iadd, 1) := by decide +kernel
theorem d_law_996 : decode code 996 = .ok (.iaload, 1) := by decide +kernel
theorem d_law_997 : decode code 997 = .ok (.aload_n 0, 1) := by decide +kernel
theorem d_law_998 : decode code 998 = .ok (.iload 4, 2) := by decide +kernel
theorem d_law_1000 : decode code 1000 = .ok (.iconst 4, 1) := by decide +kernel
theorem d_law_1001 : decode code 1001 = .ok (.iadd, 1) := by decide +kernel
theorem d_law_1002 : decode code 1002 = .ok (.iaload, 1) := by decide +kernel
theorem d_law_1003 : decode code 1003 = .ok (.invokevirtual 131, 3) := by decide +kernel
theorem d_law_1006 : decode code 1006 = .ok (.istore 6, 2) := by decide +kernel
theorem d_law_1008 : decode code 1008 = .ok (.aload_n 2, 1) := by decide +kernel
theorem d_law_1009 : decode code 1009 = .ok (.invokevirtual 90, 3) := by decide +kernel
theorem d_law_1012 : decode code 1012 = .ok (.iload 5, 2) := by decide +kernel
theorem d_law_1014 : decode code 1014 = .ok (.if_icmp .eq 5, 3) := by decide +kernel
theorem d_law_1017 : decode code 1017 = .ok (.iconst 0, 1) := by decide +kernel
theorem d_law_1018 : decode code 1018 = .ok (.ireturn, 1) := by decide +kernel
theorem d_law_1019 : decode code 1019 = .ok (.iload 5, 2) := by decide +kernel
theorem d_law_1021 : decode code 1021 = .ok (.ifCond .ne 15, 3) := by decide +kernel
theorem d_law_1024 : decode code 1024 = .ok (.aload_n 3, 1) := by decide +kernel
theorem d_law_1025 : decode code 1025 = .ok (.iconst 0, 1) := by decide +kernel
theorem d_law_1026 : decode code 1026 = .ok (.laload, 1) := by decide +kernel
theorem d_law_1027 : decode code 1027 = .ok (.iload 6, 2) := by decide +kernel
theorem d_law_1029 : decode code 1029 = .ok (.i2l, 1) := by decide +kernel
theorem d_law_1030 : decode code 1030 = .ok (.lcmp, 1) := by decide +kernel
theorem d_law_1031 : decode code 1031 = .ok (.ifCond .eq 5, 3) := by decide +kernel
theorem d_law_1034 : decode code 1034 = .ok (.iconst 0, 1) := by decide +kernel
theorem d_law_1035 : decode code 1035 = .ok (.ireturn, 1) := by decide +kernel
theorem d_law_1036 : decode code 1036 = .ok (.goto 573, 3) := by decide +kernel
theorem d_law_1039 : decode code 1039 = .ok (.aload_n 1, 1) := by decide +kernel
theorem d_law_1040 : decode code 1040 = .ok (.aload_n 0, 1) := by decide +kernel
theorem d_law_1041 : decode code 1041 = .ok (.iload 4, 2) := by decide +kernel
theorem d_law_1043 : decode code 1043 = .ok (.iconst 1, 1) := by decide +kernel
theorem d_law_1044 : decode code 1044 = .ok (.iadd, 1) := by decide +kernel
theorem d_law_1045 : decode code 1045 = .ok (.iaload, 1) := by decide +kernel
theorem d_law_1046 : decode code 1046 = .ok (.aload_n 0, 1) := by decide +kernel
theorem d_law_1047 : decode code 1047 = .ok (.iload 4, 2) := by decide +kernel
theorem d_law_1049 : decode code 1049 = .ok (.iconst 2, 1) := by decide +kernel
theorem d_law_1050 : decode code 1050 = .ok (.iadd, 1) := by decide +kernel
theorem d_law_1051 : decode code 1051 = .ok (.iaload, 1) := by decide +kernel
theorem d_law_1052 : decode code 1052 = .ok (.aload_n 0, 1) := by decide +kernel
theorem d_law_1053 : decode code 1053 = .ok (.iload 4, 2) := by decide +kernel
theorem d_law_1055 : decode code 1055 = .ok (.iconst 3, 1) := by decide +kernel
theorem d_law_1056 : decode code 1056 = .ok (.iadd, 1) := by decide +kernel
theorem d_law_1057 : decode code 1057 = .ok (.iaload, 1) := by decide +kernel
theorem d_law_1058 : decode code 1058 = .ok (.aload_n 3, 1) := by decide +kernel
theorem d_law_1059 : decode code 1059 = .ok (.invokestatic 132, 3) := by decide +kernel
theorem d_law_1062 : decode code 1062 = .ok (.istore 5, 2) := by decide +kernel
theorem d_law_1064 : decode code 1064 = .ok (.aload_n 2, 1) := by decide +kernel
theorem d_law_1065 : decode code 1065 = .ok (.aload_n 0, 1) := by decide +kernel
theorem d_law_1066 : decode code 1066 = .ok (.iload 4, 2) := by decide +kernel
theorem d_law_1068 : decode code 1068 = .ok (.iconst 1, 1) := by decide +kernel
theorem d_law_1069 : decode code 1069 = .ok (.iadd, 1) := by decide +kernel
theorem d_law_1070 : decode code 1070 = .ok (.iaload, 1) := by decide +kernel
theorem d_law_1071 : decode code 1071 = .ok (.aload_n 0, 1) := by decide +kernel
theorem d_law_1072 : decode code 1072 = .ok (.iload 4, 2) := by decide +kernel
theorem d_law_1074 : decode code 1074 = .ok (.iconst 2, 1) := by decide +kernel
theorem d_law_1075 : decode code 1075 = .ok (.iadd, 1) := by decide +kernel
theorem d_law_1076 : decode code 1076 = .ok (.iaload, 1) := by decide +kernel
theorem d_law_1077 : decode code 1077 = .ok (.aload_n 0, 1) := by decide +kernel
theorem d_law_1078 : decode code 1078 = .ok (.iload 4, 2) := by decide +kernel
theorem d_law_1080 : decode code 1080 = .ok (.iconst 3, 1) := by decide +kernel
theorem d_law_1081 : decode code 1081 = .ok (.iadd, 1) := by decide +kernel
theorem d_law_1082 : decode code 1082 = .ok (.iaload, 1) := by decide +kernel
theorem d_law_1083 : decode code 1083 = .ok (.invokevirtual 134, 3) := by decide +kernel
theorem d_law_1086 : decode code 1086 = .ok (.istore 6, 2) := by decide +kernel
theorem d_law_1088 : decode code 1088 = .ok (.aload_n 2, 1) := by decide +kernel
theorem d_law_1089 : decode code 1089 = .ok (.invokevirtual 90, 3) := by decide +kernel
theorem d_law_1092 : decode code 1092 = .ok (.iload 5, 2) := by decide +kernel
theorem d_law_1094 : decode code 1094 = .ok (.if_icmp .eq 5, 3) := by decide +kernel
theorem d_law_1097 : decode code 1097 = .ok (.iconst 0, 1) := by decide +kernel
theorem d_law_1098 : decode code 1098 = .ok (.ireturn, 1) := by decide +kernel
theorem d_law_1099 : decode code 1099 = .ok (.iload 5, 2) := by decide +kernel
theorem d_law_1101 : decode code 1101 = .ok (.ifCond .ne 15, 3) := by decide +kernel
theorem d_law_1104 : decode code 1104 = .ok (.aload_n 3, 1) := by decide +kernel
theorem d_law_1105 : decode code 1105 = .ok (.iconst 0, 1) := by decide +kernel
theorem d_law_1106 : decode code 1106 = .ok (.laload, 1) := by decide +kernel
theorem d_law_1107 : decode code 1107 = .ok (.iload 6, 2) := by decide +kernel
theorem d_law_1109 : decode code 1109 = .ok (.i2l, 1) := by decide +kernel
theorem d_law_1110 : decode code 1110 = .ok (.lcmp, 1) := by decide +kernel
theorem d_law_1111 : decode code 1111 = .ok (.ifCond .eq 5, 3) := by decide +kernel
theorem d_law_1114 : decode code 1114 = .ok (.iconst 0, 1) := by decide +kernel
theorem d_law_1115 : decode code 1115 = .ok (.ireturn, 1) := by decide +kernel
theorem d_law_1116 : decode code 1116 = .ok (.goto 493, 3) := by decide +kernel
