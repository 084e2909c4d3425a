theorem d_L_law_676 : decode code 676 = .ok (.lcmp, 1) := by decide +kernel
theorem d_L_law_677 : decode code 677 = .ok (.ifCond .eq 5, 3) := by decide +kernel
theorem d_L_law_680 : decode code 680 = .ok (.iconst 0, 1) := by decide +kernel
theorem d_L_law_681 : decode code 681 = .ok (.ireturn, 1) := by decide +kernel
theorem d_L_law_682 : decode code 682 = .ok (.goto 201, 3) := by decide +kernel
theorem d_L_law_685 : decode code 685 = .ok (.aload_n 1, 1) := by decide +kernel
theorem d_L_law_686 : decode code 686 = .ok (.aload_n 0, 1) := by decide +kernel
theorem d_L_law_687 : decode code 687 = .ok (.iload 4, 2) := by decide +kernel
theorem d_L_law_689 : decode code 689 = .ok (.iconst 1, 1) := by decide +kernel
theorem d_L_law_690 : decode code 690 = .ok (.iadd, 1) := by decide +kernel
theorem d_L_law_691 : decode code 691 = .ok (.iaload, 1) := by decide +kernel
theorem d_L_law_692 : decode code 692 = .ok (.aload_n 3, 1) := by decide +kernel
theorem d_L_law_693 : decode code 693 = .ok (.invokestatic 97, 3) := by decide +kernel
theorem d_L_law_696 : decode code 696 = .ok (.istore 5, 2) := by decide +kernel
theorem d_L_law_698 : decode code 698 = .ok (.aload_n 2, 1) := by decide +kernel
theorem d_L_law_699 : decode code 699 = .ok (.aload_n 0, 1) := by decide +kernel
theorem d_L_law_700 : decode code 700 = .ok (.iload 4, 2) := by decide +kernel
theorem d_L_law_702 : decode code 702 = .ok (.iconst 1, 1) := by decide +kernel
theorem d_L_law_703 : decode code 703 = .ok (.iadd, 1) := by decide +kernel
theorem d_L_law_704 : decode code 704 = .ok (.iaload, 1) := by decide +kernel
theorem d_L_law_705 : decode code 705 = .ok (.invokevirtual 99, 3) := by decide +kernel
theorem d_L_law_708 : decode code 708 = .ok (.istore 6, 2) := by decide +kernel
theorem d_L_law_710 : decode code 710 = .ok (.aload_n 2, 1) := by decide +kernel
theorem d_L_law_711 : decode code 711 = .ok (.invokevirtual 66, 3) := by decide +kernel
theorem d_L_law_714 : decode code 714 = .ok (.iload 5, 2) := by decide +kernel
theorem d_L_law_716 : decode code 716 = .ok (.if_icmp .eq 5, 3) := by decide +kernel
theorem d_L_law_719 : decode code 719 = .ok (.iconst 0, 1) := by decide +kernel
theorem d_L_law_720 : decode code 720 = .ok (.ireturn, 1) := by decide +kernel
theorem d_L_law_721 : decode code 721 = .ok (.iload 5, 2) := by decide +kernel
theorem d_L_law_723 : decode code 723 = .ok (.ifCond .ne 15, 3) := by decide +kernel
theorem d_L_law_726 : decode code 726 = .ok (.aload_n 3, 1) := by decide +kernel
theorem d_L_law_727 : decode code 727 = .ok (.iconst 0, 1) := by decide +kernel
theorem d_L_law_728 : decode code 728 = .ok (.laload, 1) := by decide +kernel
theorem d_L_law_729 : decode code 729 = .ok (.iload 6, 2) := by decide +kernel
theorem d_L_law_731 : decode code 731 = .ok (.i2l, 1) := by decide +kernel
theorem d_L_law_732 : decode code 732 = .ok (.lcmp, 1) := by decide +kernel
theorem d_L_law_733 : decode code 733 = .ok (.ifCond .eq 5, 3) := by decide +kernel
theorem d_L_law_736 : decode code 736 = .ok (.iconst 0, 1) := by decide +kernel
theorem d_L_law_737 : decode code 737 = .ok (.ireturn, 1) := by decide +kernel
theorem d_L_law_738 : decode code 738 = .ok (.goto 145, 3) := by decide +kernel
theorem d_L_law_741 : decode code 741 = .ok (.aload_n 1, 1) := by decide +kernel
theorem d_L_law_742 : decode code 742 = .ok (.aload_n 0, 1) := by decide +kernel
theorem d_L_law_743 : decode code 743 = .ok (.iload 4, 2) := by decide +kernel
theorem d_L_law_745 : decode code 745 = .ok (.iconst 1, 1) := by decide +kernel
theorem d_L_law_746 : decode code 746 = .ok (.iadd, 1) := by decide +kernel
theorem d_L_law_747 : decode code 747 = .ok (.iaload, 1) := by decide +kernel
theorem d_L_law_748 : decode code 748 = .ok (.aload_n 0, 1) := by decide +kernel
theorem d_L_law_749 : decode code 749 = .ok (.iload 4, 2) := by decide +kernel
theorem d_L_law_751 : decode code 751 = .ok (.iconst 2, 1) := by decide +kernel
theorem d_L_law_752 : decode code 752 = .ok (.iadd, 1) := by decide +kernel
theorem d_L_law_753 : decode code 753 = .ok (.iaload, 1) := by decide +kernel
theorem d_L_law_754 : decode code 754 = .ok (.aload_n 3, 1) := by decide +kernel
theorem d_L_law_755 : decode code 755 = .ok (.invokestatic 100, 3) := by decide +kernel
theorem d_L_law_758 : decode code 758 = .ok (.istore 5, 2) := by decide +kernel
theorem d_L_law_760 : decode code 760 = .ok (.aload_n 2, 1) := by decide +kernel
theorem d_L_law_761 : decode code 761 = .ok (.aload_n 0, 1) := by decide +kernel
theorem d_L_law_762 : decode code 762 = .ok (.iload 4, 2) := by decide +kernel
theorem d_L_law_764 : decode code 764 = .ok (.iconst 1, 1) := by decide +kernel
theorem d_L_law_765 : decode code 765 = .ok (.iadd, 1) := by decide +kernel
theorem d_L_law_766 : decode code 766 = .ok (.iaload, 1) := by decide +kernel
theorem d_L_law_767 : decode code 767 = .ok (.aload_n 0, 1) := by decide +kernel
theorem d_L_law_768 : decode code 768 = .ok (.iload 4, 2) := by decide +kernel
theorem d_L_law_770 : decode code 770 = .ok (.iconst 2, 1) := by decide +kernel
theorem d_L_law_771 : decode code 771 = .ok (.iadd, 1) := by decide +kernel
theorem d_L_law_772 : decode code 772 = .ok (.iaload, 1) := by decide +kernel
theorem d_L_law_773 : decode code 773 = .ok (.invokevirtual 102, 3) := by decide +kernel
theorem d_L_law_776 : decode code 776 = .ok (.istore 6, 2) := by decide +kernel
theorem d_L_law_778 : decode code 778 = .ok (.aload_n 2, 1) := by decide +kernel
theorem d_L_law_779 : decode code 779 = .ok (.invokevirtual 66, 3) := by decide +kernel
theorem d_L_law_782 : decode code 782 = .ok (.iload 5, 2) := by decide +kernel
theorem d_L_law_784 : decode code 784 = .ok (.if_icmp .eq 5, 3) := by decide +kernel
theorem d_L_law_787 : decode code 787 = .ok (.iconst 0, 1) := by decide +kernel
theorem d_L_law_788 : decode code 788 = .ok (.ireturn, 1) := by decide +kernel
theorem d_L_law_789 : decode code 789 = .ok (.iload 5, 2) := by decide +kernel
theorem d_L_law_791 : decode code 791 = .ok (.ifCond .ne 22, 3) := by decide +kernel
theorem d_L_law_794 : decode code 794 = .ok (.aload_n 3, 1) := by decide +kernel
theorem d_L_law_795 : decode code 795 = .ok (.iconst 0, 1) := by decide +kernel
theorem d_L_law_796 : decode code 796 = .ok (.laload, 1) := by decide +kernel
theorem d_L_law_797 : decode code 797 = .ok (.iload 6, 2) := by decide +kernel
theorem d_L_law_799 : decode code 799 = .ok (.ifCond .eq 7, 3) := by decide +kernel
theorem d_L_law_802 : decode code 802 = .ok (.lconst 1, 1) := by decide +kernel
theorem d_L_law_803 : decode code 803 = .ok (.goto 4, 3) := by decide +kernel
theorem d_L_law_806 : decode code 806 = .ok (.lconst 0, 1) := by decide +kernel
theorem d_L_law_807 : decode code 807 = .ok (.lcmp, 1) := by decide +kernel
theorem d_L_law_808 : decode code 808 = .ok (.ifCond .eq 5, 3) := by decide +kernel
theorem d_L_law_811 : decode code 811 = .ok (.iconst 0, 1) := by decide +kernel
theorem d_L_law_812 : decode code 812 = .ok (.ireturn, 1) := by decide +kernel
theorem d_L_law_813 : decode code 813 = .ok (.goto 70, 3) := by decide +kernel
theorem d_L_law_816 : decode code 816 = .ok (.aload_n 1, 1) := by decide +kernel
theorem d_L_law_817 : decode code 817 = .ok (.aload_n 0, 1) := by decide +kernel
theorem d_L_law_818 : decode code 818 = .ok (.iload 4, 2) := by decide +kernel
theorem d_L_law_820 : decode code 820 = .ok (.iconst 1, 1) := by decide +kernel
theorem d_L_law_821 : decode code 821 = .ok (.iadd, 1) := by decide +kernel
theorem d_L_law_822 : decode code 822 = .ok (.iaload, 1) := by decide +kernel
theorem d_L_law_823 : decode code 823 = .ok (.aload_n 0, 1) := by decide +kernel
theorem d_L_law_824 : decode code 824 = .ok (.iload 4, 2) := by decide +kernel
theorem d_L_law_826 : decode code 826 = .ok (.iconst 2, 1) := by decide +kernel
theorem d_L_law_827 : decode code 827 = .ok (.iadd, 1) := by decide +kernel
theorem d_L_law_828 : decode code 828 = .ok (.iaload, 1) := by decide +kernel
theorem d_L_law_829 : decode code 829 = .ok (.aload_n 3, 1) := by decide +kernel
theorem d_L_law_830 : decode code 830 = .ok (.invokestatic 103, 3) := by decide +kernel
theorem d_L_law_833 : decode code 833 = .ok (.istore 5, 2) := by decide +kernel
theorem d_L_law_835 : decode code 835 = .ok (.aload_n 2, 1) := by decide +kernel
theorem d_L_law_836 : decode code 836 = .ok (.aload_n 0, 1) := by decide +kernel
theorem d_L_law_837 : decode code 837 = .ok (.iload 4, 2) := by decide +kernel
theorem d_L_law_839 : decode code 839 = .ok (.iconst 1, 1) := by decide +kernel
theorem d_L_law_840 : decode code 840 = .ok (.iadd, 1) := by decide +kernel
theorem d_L_law_841 : decode code 841 = .ok (.iaload, 1) := by decide +kernel
theorem d_L_law_842 : decode code 842 = .ok (.aload_n 0, 1) := by decide +kernel
theorem d_L_law_843 : decode code 843 = .ok (.iload 4, 2) := by decide +kernel
theorem d_L_law_845 : decode code 845 = .ok (.iconst 2, 1) := by decide +kernel
theorem d_L_law_846 : decode code 846 = .ok (.iadd, 1) := by decide +kernel
theorem d_L_law_847 : decode code 847 = .ok (.iaload, 1) := by decide +kernel
theorem d_L_law_848 : decode code 848 = .ok (.invokevirtual 105, 3) := by decide +kernel
theorem d_L_law_851 : decode code 851 = .ok (.lstore 6, 2) := by decide +kernel
theorem d_L_law_853 : decode code 853 = .ok (.aload_n 2, 1) := by decide +kernel
theorem d_L_law_854 : decode code 854 = .ok (.invokevirtual 66, 3) := by decide +kernel
theorem d_L_law_857 : decode code 857 = .ok (.iload 5, 2) := by decide +kernel
theorem d_L_law_859 : decode code 859 = .ok (.if_icmp .eq 5, 3) := by decide +kernel
theorem d_L_law_862 : decode code 862 = .ok (.iconst 0, 1) := by decide +kernel
theorem d_L_law_863 : decode code 863 = .ok (.ireturn, 1) := by decide +kernel
theorem d_L_law_864 : decode code 864 = .ok (.iload 5, 2) := by decide +kernel
theorem d_L_law_866 : decode code 866 = .ok (.ifCond .ne 14, 3) := by decide +kernel
theorem d_L_law_869 : decode code 869 = .ok (.aload_n 3, 1) := by decide +kernel
theorem d_L_law_870 : decode code 870 = .ok (.iconst 0, 1) := by decide +kernel
theorem d_L_law_871 : decode code 871 = .ok (.laload, 1) := by decide +kernel
theorem d_L_law_872 : decode code 872 = .ok (.lload 6, 2) := by decide +kernel
theorem d_L_law_874 : decode code 874 = .ok (.lcmp, 1) := by decide +kernel
theorem d_L_law_875 : decode code 875 = .ok (.ifCond .eq 5, 3) := by decide +kernel
theorem d_L_law_878 : decode code 878 = .ok (.iconst 0, 1) := by decide +kernel
theorem d_L_law_879 : decode code 879 = .ok (.ireturn, 1) := by decide +kernel
theorem d_L_law_880 : decode code 880 = .ok (.goto 3, 3) := by decide +kernel
theorem d_L_law_883 : decode code 883 = .ok (.iinc 4 9, 3) := by decide +kernel
theorem d_L_law_886 : decode code 886 = .ok (.goto (-863), 3) := by decide +kernel
theorem d_L_law_889 : decode code 889 = .ok (.iconst 1, 1) := by decide +kernel
theorem d_L_law_890 : decode code 890 = .ok (.ireturn, 1) := by decide +kernel
theorem d_L_law_40 : decode code 40 = .ok (.tableswitch 843 0 10 #[60, 96, 282, 342, 398, 466, 534, 589, 645, 701, 776], 60) := by decide +kernel
