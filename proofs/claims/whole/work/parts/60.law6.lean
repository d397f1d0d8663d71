theorem d_L_law_779 : decode code 779 = .ok (.aload_n 2, 1) := by decide +kernel
theorem d_L_law_780 : decode code 780 = .ok (.aload_n 0, 1) := by decide +kernel
theorem d_L_law_781 : decode code 781 = .ok (.iload 4, 2) := by decide +kernel
theorem d_L_law_783 : decode code 783 = .ok (.iconst 1, 1) := by decide +kernel
theorem d_L_law_784 : decode code 784 = .ok (.iadd, 1) := by decide +kernel
theorem d_L_law_785 : decode code 785 = .ok (.iaload, 1) := by decide +kernel
theorem d_L_law_786 : decode code 786 = .ok (.aload_n 0, 1) := by decide +kernel
theorem d_L_law_787 : decode code 787 = .ok (.iload 4, 2) := by decide +kernel
theorem d_L_law_789 : decode code 789 = .ok (.iconst 2, 1) := by decide +kernel
theorem d_L_law_790 : decode code 790 = .ok (.iadd, 1) := by decide +kernel
theorem d_L_law_791 : decode code 791 = .ok (.iaload, 1) := by decide +kernel
theorem d_L_law_792 : decode code 792 = .ok (.i2l, 1) := by decide +kernel
theorem d_L_law_793 : decode code 793 = .ok (.bipush 32, 2) := by decide +kernel
theorem d_L_law_795 : decode code 795 = .ok (.lshl, 1) := by decide +kernel
theorem d_L_law_796 : decode code 796 = .ok (.aload_n 0, 1) := by decide +kernel
theorem d_L_law_797 : decode code 797 = .ok (.iload 4, 2) := by decide +kernel
theorem d_L_law_799 : decode code 799 = .ok (.iconst 3, 1) := by decide +kernel
theorem d_L_law_800 : decode code 800 = .ok (.iadd, 1) := by decide +kernel
theorem d_L_law_801 : decode code 801 = .ok (.iaload, 1) := by decide +kernel
theorem d_L_law_802 : decode code 802 = .ok (.i2l, 1) := by decide +kernel
theorem d_L_law_803 : decode code 803 = .ok (.ldc2_w 67, 3) := by decide +kernel
theorem d_L_law_806 : decode code 806 = .ok (.land, 1) := by decide +kernel
theorem d_L_law_807 : decode code 807 = .ok (.lor, 1) := by decide +kernel
theorem d_L_law_808 : decode code 808 = .ok (.aload_n 0, 1) := by decide +kernel
theorem d_L_law_809 : decode code 809 = .ok (.iload 4, 2) := by decide +kernel
theorem d_L_law_811 : decode code 811 = .ok (.iconst 4, 1) := by decide +kernel
theorem d_L_law_812 : decode code 812 = .ok (.iadd, 1) := by decide +kernel
theorem d_L_law_813 : decode code 813 = .ok (.iaload, 1) := by decide +kernel
theorem d_L_law_814 : decode code 814 = .ok (.i2l, 1) := by decide +kernel
theorem d_L_law_815 : decode code 815 = .ok (.bipush 32, 2) := by decide +kernel
theorem d_L_law_817 : decode code 817 = .ok (.lshl, 1) := by decide +kernel
theorem d_L_law_818 : decode code 818 = .ok (.aload_n 0, 1) := by decide +kernel
theorem d_L_law_819 : decode code 819 = .ok (.iload 4, 2) := by decide +kernel
theorem d_L_law_821 : decode code 821 = .ok (.iconst 5, 1) := by decide +kernel
theorem d_L_law_822 : decode code 822 = .ok (.iadd, 1) := by decide +kernel
theorem d_L_law_823 : decode code 823 = .ok (.iaload, 1) := by decide +kernel
theorem d_L_law_824 : decode code 824 = .ok (.i2l, 1) := by decide +kernel
theorem d_L_law_825 : decode code 825 = .ok (.ldc2_w 67, 3) := by decide +kernel
theorem d_L_law_828 : decode code 828 = .ok (.land, 1) := by decide +kernel
theorem d_L_law_829 : decode code 829 = .ok (.lor, 1) := by decide +kernel
theorem d_L_law_830 : decode code 830 = .ok (.aload_n 0, 1) := by decide +kernel
theorem d_L_law_831 : decode code 831 = .ok (.iload 4, 2) := by decide +kernel
theorem d_L_law_833 : decode code 833 = .ok (.bipush 6, 2) := by decide +kernel
theorem d_L_law_835 : decode code 835 = .ok (.iadd, 1) := by decide +kernel
theorem d_L_law_836 : decode code 836 = .ok (.iaload, 1) := by decide +kernel
theorem d_L_law_837 : decode code 837 = .ok (.invokevirtual 100, 3) := by decide +kernel
theorem d_L_law_840 : decode code 840 = .ok (.istore 6, 2) := by decide +kernel
theorem d_L_law_842 : decode code 842 = .ok (.aload_n 2, 1) := by decide +kernel
theorem d_L_law_843 : decode code 843 = .ok (.invokevirtual 80, 3) := by decide +kernel
theorem d_L_law_846 : decode code 846 = .ok (.iload 5, 2) := by decide +kernel
theorem d_L_law_848 : decode code 848 = .ok (.if_icmp .eq 5, 3) := by decide +kernel
theorem d_L_law_851 : decode code 851 = .ok (.iconst 0, 1) := by decide +kernel
theorem d_L_law_852 : decode code 852 = .ok (.ireturn, 1) := by decide +kernel
theorem d_L_law_853 : decode code 853 = .ok (.iload 5, 2) := by decide +kernel
theorem d_L_law_855 : decode code 855 = .ok (.ifCond .ne 15, 3) := by decide +kernel
theorem d_L_law_858 : decode code 858 = .ok (.aload_n 3, 1) := by decide +kernel
theorem d_L_law_859 : decode code 859 = .ok (.iconst 0, 1) := by decide +kernel
theorem d_L_law_860 : decode code 860 = .ok (.laload, 1) := by decide +kernel
theorem d_L_law_861 : decode code 861 = .ok (.iload 6, 2) := by decide +kernel
theorem d_L_law_863 : decode code 863 = .ok (.i2l, 1) := by decide +kernel
theorem d_L_law_864 : decode code 864 = .ok (.lcmp, 1) := by decide +kernel
theorem d_L_law_865 : decode code 865 = .ok (.ifCond .eq 5, 3) := by decide +kernel
theorem d_L_law_868 : decode code 868 = .ok (.iconst 0, 1) := by decide +kernel
theorem d_L_law_869 : decode code 869 = .ok (.ireturn, 1) := by decide +kernel
theorem d_L_law_870 : decode code 870 = .ok (.goto 450, 3) := by decide +kernel
theorem d_L_law_873 : decode code 873 = .ok (.aload_n 1, 1) := by decide +kernel
theorem d_L_law_874 : decode code 874 = .ok (.aload_n 0, 1) := by decide +kernel
theorem d_L_law_875 : decode code 875 = .ok (.iload 4, 2) := by decide +kernel
theorem d_L_law_877 : decode code 877 = .ok (.iconst 1, 1) := by decide +kernel
theorem d_L_law_878 : decode code 878 = .ok (.iadd, 1) := by decide +kernel
theorem d_L_law_879 : decode code 879 = .ok (.iaload, 1) := by decide +kernel
theorem d_L_law_880 : decode code 880 = .ok (.aload_n 0, 1) := by decide +kernel
theorem d_L_law_881 : decode code 881 = .ok (.iload 4, 2) := by decide +kernel
theorem d_L_law_883 : decode code 883 = .ok (.iconst 2, 1) := by decide +kernel
theorem d_L_law_884 : decode code 884 = .ok (.iadd, 1) := by decide +kernel
theorem d_L_law_885 : decode code 885 = .ok (.iaload, 1) := by decide +kernel
theorem d_L_law_886 : decode code 886 = .ok (.i2l, 1) := by decide +kernel
theorem d_L_law_887 : decode code 887 = .ok (.bipush 32, 2) := by decide +kernel
theorem d_L_law_889 : decode code 889 = .ok (.lshl, 1) := by decide +kernel
theorem d_L_law_890 : decode code 890 = .ok (.aload_n 0, 1) := by decide +kernel
theorem d_L_law_891 : decode code 891 = .ok (.iload 4, 2) := by decide +kernel
theorem d_L_law_893 : decode code 893 = .ok (.iconst 3, 1) := by decide +kernel
theorem d_L_law_894 : decode code 894 = .ok (.iadd, 1) := by decide +kernel
theorem d_L_law_895 : decode code 895 = .ok (.iaload, 1) := by decide +kernel
theorem d_L_law_896 : decode code 896 = .ok (.i2l, 1) := by decide +kernel
theorem d_L_law_897 : decode code 897 = .ok (.ldc2_w 67, 3) := by decide +kernel
theorem d_L_law_900 : decode code 900 = .ok (.land, 1) := by decide +kernel
theorem d_L_law_901 : decode code 901 = .ok (.lor, 1) := by decide +kernel
theorem d_L_law_902 : decode code 902 = .ok (.aload_n 0, 1) := by decide +kernel
theorem d_L_law_903 : decode code 903 = .ok (.iload 4, 2) := by decide +kernel
theorem d_L_law_905 : decode code 905 = .ok (.iconst 4, 1) := by decide +kernel
theorem d_L_law_906 : decode code 906 = .ok (.iadd, 1) := by decide +kernel
theorem d_L_law_907 : decode code 907 = .ok (.iaload, 1) := by decide +kernel
theorem d_L_law_908 : decode code 908 = .ok (.i2l, 1) := by decide +kernel
theorem d_L_law_909 : decode code 909 = .ok (.bipush 32, 2) := by decide +kernel
theorem d_L_law_911 : decode code 911 = .ok (.lshl, 1) := by decide +kernel
theorem d_L_law_912 : decode code 912 = .ok (.aload_n 0, 1) := by decide +kernel
theorem d_L_law_913 : decode code 913 = .ok (.iload 4, 2) := by decide +kernel
theorem d_L_law_915 : decode code 915 = .ok (.iconst 5, 1) := by decide +kernel
theorem d_L_law_916 : decode code 916 = .ok (.iadd, 1) := by decide +kernel
