theorem d_L_law_917 : decode code 917 = .ok (.iaload, 1) := by decide +kernel
theorem d_L_law_918 : decode code 918 = .ok (.i2l, 1) := by decide +kernel
theorem d_L_law_919 : decode code 919 = .ok (.ldc2_w 67, 3) := by decide +kernel
theorem d_L_law_922 : decode code 922 = .ok (.land, 1) := by decide +kernel
theorem d_L_law_923 : decode code 923 = .ok (.lor, 1) := by decide +kernel
theorem d_L_law_924 : decode code 924 = .ok (.aload_n 3, 1) := by decide +kernel
theorem d_L_law_925 : decode code 925 = .ok (.invokestatic 101, 3) := by decide +kernel
theorem d_L_law_928 : decode code 928 = .ok (.istore 5, 2) := by decide +kernel
theorem d_L_law_930 : decode code 930 = .ok (.aload_n 2, 1) := by decide +kernel
theorem d_L_law_931 : decode code 931 = .ok (.aload_n 0, 1) := by decide +kernel
theorem d_L_law_932 : decode code 932 = .ok (.iload 4, 2) := by decide +kernel
theorem d_L_law_934 : decode code 934 = .ok (.iconst 1, 1) := by decide +kernel
theorem d_L_law_935 : decode code 935 = .ok (.iadd, 1) := by decide +kernel
theorem d_L_law_936 : decode code 936 = .ok (.iaload, 1) := by decide +kernel
theorem d_L_law_937 : decode code 937 = .ok (.aload_n 0, 1) := by decide +kernel
theorem d_L_law_938 : decode code 938 = .ok (.iload 4, 2) := by decide +kernel
theorem d_L_law_940 : decode code 940 = .ok (.iconst 2, 1) := by decide +kernel
theorem d_L_law_941 : decode code 941 = .ok (.iadd, 1) := by decide +kernel
theorem d_L_law_942 : decode code 942 = .ok (.iaload, 1) := by decide +kernel
theorem d_L_law_943 : decode code 943 = .ok (.i2l, 1) := by decide +kernel
theorem d_L_law_944 : decode code 944 = .ok (.bipush 32, 2) := by decide +kernel
theorem d_L_law_946 : decode code 946 = .ok (.lshl, 1) := by decide +kernel
theorem d_L_law_947 : decode code 947 = .ok (.aload_n 0, 1) := by decide +kernel
theorem d_L_law_948 : decode code 948 = .ok (.iload 4, 2) := by decide +kernel
theorem d_L_law_950 : decode code 950 = .ok (.iconst 3, 1) := by decide +kernel
theorem d_L_law_951 : decode code 951 = .ok (.iadd, 1) := by decide +kernel
theorem d_L_law_952 : decode code 952 = .ok (.iaload, 1) := by decide +kernel
theorem d_L_law_953 : decode code 953 = .ok (.i2l, 1) := by decide +kernel
theorem d_L_law_954 : decode code 954 = .ok (.ldc2_w 67, 3) := by decide +kernel
theorem d_L_law_957 : decode code 957 = .ok (.land, 1) := by decide +kernel
theorem d_L_law_958 : decode code 958 = .ok (.lor, 1) := by decide +kernel
theorem d_L_law_959 : decode code 959 = .ok (.aload_n 0, 1) := by decide +kernel
theorem d_L_law_960 : decode code 960 = .ok (.iload 4, 2) := by decide +kernel
theorem d_L_law_962 : decode code 962 = .ok (.iconst 4, 1) := by decide +kernel
theorem d_L_law_963 : decode code 963 = .ok (.iadd, 1) := by decide +kernel
theorem d_L_law_964 : decode code 964 = .ok (.iaload, 1) := by decide +kernel
theorem d_L_law_965 : decode code 965 = .ok (.i2l, 1) := by decide +kernel
theorem d_L_law_966 : decode code 966 = .ok (.bipush 32, 2) := by decide +kernel
theorem d_L_law_968 : decode code 968 = .ok (.lshl, 1) := by decide +kernel
theorem d_L_law_969 : decode code 969 = .ok (.aload_n 0, 1) := by decide +kernel
theorem d_L_law_970 : decode code 970 = .ok (.iload 4, 2) := by decide +kernel
theorem d_L_law_972 : decode code 972 = .ok (.iconst 5, 1) := by decide +kernel
theorem d_L_law_973 : decode code 973 = .ok (.iadd, 1) := by decide +kernel
theorem d_L_law_974 : decode code 974 = .ok (.iaload, 1) := by decide +kernel
theorem d_L_law_975 : decode code 975 = .ok (.i2l, 1) := by decide +kernel
theorem d_L_law_976 : decode code 976 = .ok (.ldc2_w 67, 3) := by decide +kernel
theorem d_L_law_979 : decode code 979 = .ok (.land, 1) := by decide +kernel
theorem d_L_law_980 : decode code 980 = .ok (.lor, 1) := by decide +kernel
theorem d_L_law_981 : decode code 981 = .ok (.invokevirtual 104, 3) := by decide +kernel
theorem d_L_law_984 : decode code 984 = .ok (.istore 6, 2) := by decide +kernel
theorem d_L_law_986 : decode code 986 = .ok (.aload_n 2, 1) := by decide +kernel
theorem d_L_law_987 : decode code 987 = .ok (.invokevirtual 80, 3) := by decide +kernel
theorem d_L_law_990 : decode code 990 = .ok (.iload 5, 2) := by decide +kernel
theorem d_L_law_992 : decode code 992 = .ok (.if_icmp .eq 5, 3) := by decide +kernel
theorem d_L_law_995 : decode code 995 = .ok (.iconst 0, 1) := by decide +kernel
theorem d_L_law_996 : decode code 996 = .ok (.ireturn, 1) := by decide +kernel
theorem d_L_law_997 : decode code 997 = .ok (.iload 5, 2) := by decide +kernel
theorem d_L_law_999 : decode code 999 = .ok (.ifCond .ne 22, 3) := by decide +kernel
theorem d_L_law_1002 : decode code 1002 = .ok (.aload_n 3, 1) := by decide +kernel
theorem d_L_law_1003 : decode code 1003 = .ok (.iconst 0, 1) := by decide +kernel
theorem d_L_law_1004 : decode code 1004 = .ok (.laload, 1) := by decide +kernel
theorem d_L_law_1005 : decode code 1005 = .ok (.iload 6, 2) := by decide +kernel
theorem d_L_law_1007 : decode code 1007 = .ok (.ifCond .eq 7, 3) := by decide +kernel
theorem d_L_law_1010 : decode code 1010 = .ok (.lconst 1, 1) := by decide +kernel
theorem d_L_law_1011 : decode code 1011 = .ok (.goto 4, 3) := by decide +kernel
theorem d_L_law_1014 : decode code 1014 = .ok (.lconst 0, 1) := by decide +kernel
theorem d_L_law_1015 : decode code 1015 = .ok (.lcmp, 1) := by decide +kernel
theorem d_L_law_1016 : decode code 1016 = .ok (.ifCond .eq 5, 3) := by decide +kernel
theorem d_L_law_1019 : decode code 1019 = .ok (.iconst 0, 1) := by decide +kernel
theorem d_L_law_1020 : decode code 1020 = .ok (.ireturn, 1) := by decide +kernel
theorem d_L_law_1021 : decode code 1021 = .ok (.goto 299, 3) := by decide +kernel
theorem d_L_law_1024 : decode code 1024 = .ok (.aload_n 1, 1) := by decide +kernel
theorem d_L_law_1025 : decode code 1025 = .ok (.aload_n 0, 1) := by decide +kernel
theorem d_L_law_1026 : decode code 1026 = .ok (.iload 4, 2) := by decide +kernel
theorem d_L_law_1028 : decode code 1028 = .ok (.iconst 1, 1) := by decide +kernel
theorem d_L_law_1029 : decode code 1029 = .ok (.iadd, 1) := by decide +kernel
theorem d_L_law_1030 : decode code 1030 = .ok (.iaload, 1) := by decide +kernel
theorem d_L_law_1031 : decode code 1031 = .ok (.aload_n 0, 1) := by decide +kernel
theorem d_L_law_1032 : decode code 1032 = .ok (.iload 4, 2) := by decide +kernel
theorem d_L_law_1034 : decode code 1034 = .ok (.iconst 2, 1) := by decide +kernel
theorem d_L_law_1035 : decode code 1035 = .ok (.iadd, 1) := by decide +kernel
theorem d_L_law_1036 : decode code 1036 = .ok (.iaload, 1) := by decide +kernel
theorem d_L_law_1037 : decode code 1037 = .ok (.aload_n 3, 1) := by decide +kernel
theorem d_L_law_1038 : decode code 1038 = .ok (.invokestatic 105, 3) := by decide +kernel
theorem d_L_law_1041 : decode code 1041 = .ok (.istore 5, 2) := by decide +kernel
theorem d_L_law_1043 : decode code 1043 = .ok (.aload_n 2, 1) := by decide +kernel
theorem d_L_law_1044 : decode code 1044 = .ok (.aload_n 0, 1) := by decide +kernel
theorem d_L_law_1045 : decode code 1045 = .ok (.iload 4, 2) := by decide +kernel
theorem d_L_law_1047 : decode code 1047 = .ok (.iconst 1, 1) := by decide +kernel
theorem d_L_law_1048 : decode code 1048 = .ok (.iadd, 1) := by decide +kernel
theorem d_L_law_1049 : decode code 1049 = .ok (.iaload, 1) := by decide +kernel
theorem d_L_law_1050 : decode code 1050 = .ok (.aload_n 0, 1) := by decide +kernel
theorem d_L_law_1051 : decode code 1051 = .ok (.iload 4, 2) := by decide +kernel
theorem d_L_law_1053 : decode code 1053 = .ok (.iconst 2, 1) := by decide +kernel
theorem d_L_law_1054 : decode code 1054 = .ok (.iadd, 1) := by decide +kernel
theorem d_L_law_1055 : decode code 1055 = .ok (.iaload, 1) := by decide +kernel
theorem d_L_law_1056 : decode code 1056 = .ok (.invokevirtual 108, 3) := by decide +kernel
theorem d_L_law_1059 : decode code 1059 = .ok (.istore 6, 2) := by decide +kernel
theorem d_L_law_1061 : decode code 1061 = .ok (.aload_n 2, 1) := by decide +kernel
theorem d_L_law_1062 : decode code 1062 = .ok (.invokevirtual 80, 3) := by decide +kernel
