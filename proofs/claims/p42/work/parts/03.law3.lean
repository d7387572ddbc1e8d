theorem dL_law_817 : decode cL_law 817 = .ok (.bipush 41, 2) := by decide +kernel
theorem dL_law_819 : decode cL_law 819 = .ok (.invokestatic 91, 3) := by decide +kernel
theorem dL_law_822 : decode cL_law 822 = .ok (.ldc 23, 2) := by decide +kernel
theorem dL_law_824 : decode cL_law 824 = .ok (.if_icmp .ne 7, 3) := by decide +kernel
theorem dL_law_827 : decode cL_law 827 = .ok (.iconst 1, 1) := by decide +kernel
theorem dL_law_828 : decode cL_law 828 = .ok (.goto 4, 3) := by decide +kernel
theorem dL_law_831 : decode cL_law 831 = .ok (.iconst 0, 1) := by decide +kernel
theorem dL_law_832 : decode cL_law 832 = .ok (.iand, 1) := by decide +kernel
theorem dL_law_833 : decode cL_law 833 = .ok (.istore_n 2, 1) := by decide +kernel
theorem dL_law_834 : decode cL_law 834 = .ok (.aload_n 0, 1) := by decide +kernel
theorem dL_law_835 : decode cL_law 835 = .ok (.bipush 110, 2) := by decide +kernel
theorem dL_law_837 : decode cL_law 837 = .ok (.bipush 9, 2) := by decide +kernel
theorem dL_law_839 : decode cL_law 839 = .ok (.invokestatic 70, 3) := by decide +kernel
theorem dL_law_842 : decode cL_law 842 = .ok (.istore_n 3, 1) := by decide +kernel
theorem dL_law_843 : decode cL_law 843 = .ok (.iload_n 3, 1) := by decide +kernel
theorem dL_law_844 : decode cL_law 844 = .ok (.newarray .int, 2) := by decide +kernel
theorem dL_law_846 : decode cL_law 846 = .ok (.astore 4, 2) := by decide +kernel
theorem dL_law_848 : decode cL_law 848 = .ok (.iconst 0, 1) := by decide +kernel
theorem dL_law_849 : decode cL_law 849 = .ok (.istore 5, 2) := by decide +kernel
theorem dL_law_851 : decode cL_law 851 = .ok (.iload 5, 2) := by decide +kernel
theorem dL_law_853 : decode cL_law 853 = .ok (.iload_n 3, 1) := by decide +kernel
theorem dL_law_854 : decode cL_law 854 = .ok (.if_icmp .ge 52, 3) := by decide +kernel
theorem dL_law_857 : decode cL_law 857 = .ok (.aload 4, 2) := by decide +kernel
theorem dL_law_859 : decode cL_law 859 = .ok (.iload 5, 2) := by decide +kernel
theorem dL_law_861 : decode cL_law 861 = .ok (.aload_n 0, 1) := by decide +kernel
theorem dL_law_862 : decode cL_law 862 = .ok (.bipush 120, 2) := by decide +kernel
theorem dL_law_864 : decode cL_law 864 = .ok (.iload 5, 2) := by decide +kernel
theorem dL_law_866 : decode cL_law 866 = .ok (.iadd, 1) := by decide +kernel
theorem dL_law_867 : decode cL_law 867 = .ok (.bipush 81, 2) := by decide +kernel
theorem dL_law_869 : decode cL_law 869 = .ok (.invokestatic 70, 3) := by decide +kernel
theorem dL_law_872 : decode cL_law 872 = .ok (.bipush 40, 2) := by decide +kernel
theorem dL_law_874 : decode cL_law 874 = .ok (.isub, 1) := by decide +kernel
theorem dL_law_875 : decode cL_law 875 = .ok (.iastore, 1) := by decide +kernel
theorem dL_law_876 : decode cL_law 876 = .ok (.iload_n 2, 1) := by decide +kernel
theorem dL_law_877 : decode cL_law 877 = .ok (.aload_n 1, 1) := by decide +kernel
theorem dL_law_878 : decode cL_law 878 = .ok (.aload 4, 2) := by decide +kernel
theorem dL_law_880 : decode cL_law 880 = .ok (.iload 5, 2) := by decide +kernel
theorem dL_law_882 : decode cL_law 882 = .ok (.iaload, 1) := by decide +kernel
theorem dL_law_883 : decode cL_law 883 = .ok (.invokestatic 91, 3) := by decide +kernel
theorem dL_law_886 : decode cL_law 886 = .ok (.iload 5, 2) := by decide +kernel
theorem dL_law_888 : decode cL_law 888 = .ok (.iconst 1, 1) := by decide +kernel
theorem dL_law_889 : decode cL_law 889 = .ok (.iadd, 1) := by decide +kernel
theorem dL_law_890 : decode cL_law 890 = .ok (.if_icmp .ne 7, 3) := by decide +kernel
theorem dL_law_893 : decode cL_law 893 = .ok (.iconst 1, 1) := by decide +kernel
theorem dL_law_894 : decode cL_law 894 = .ok (.goto 4, 3) := by decide +kernel
theorem dL_law_897 : decode cL_law 897 = .ok (.iconst 0, 1) := by decide +kernel
theorem dL_law_898 : decode cL_law 898 = .ok (.iand, 1) := by decide +kernel
theorem dL_law_899 : decode cL_law 899 = .ok (.istore_n 2, 1) := by decide +kernel
theorem dL_law_900 : decode cL_law 900 = .ok (.iinc 5 1, 3) := by decide +kernel
theorem dL_law_903 : decode cL_law 903 = .ok (.goto (-52), 3) := by decide +kernel
theorem dL_law_906 : decode cL_law 906 = .ok (.iconst 0, 1) := by decide +kernel
theorem dL_law_907 : decode cL_law 907 = .ok (.istore 5, 2) := by decide +kernel
theorem dL_law_909 : decode cL_law 909 = .ok (.ldc 49, 2) := by decide +kernel
theorem dL_law_911 : decode cL_law 911 = .ok (.istore 6, 2) := by decide +kernel
theorem dL_law_913 : decode cL_law 913 = .ok (.iconst 1, 1) := by decide +kernel
theorem dL_law_914 : decode cL_law 914 = .ok (.iload_n 3, 1) := by decide +kernel
theorem dL_law_915 : decode cL_law 915 = .ok (.ishl, 1) := by decide +kernel
theorem dL_law_916 : decode cL_law 916 = .ok (.iconst 1, 1) := by decide +kernel
theorem dL_law_917 : decode cL_law 917 = .ok (.isub, 1) := by decide +kernel
theorem dL_law_918 : decode cL_law 918 = .ok (.istore 7, 2) := by decide +kernel
theorem dL_law_920 : decode cL_law 920 = .ok (.iload 7, 2) := by decide +kernel
theorem dL_law_922 : decode cL_law 922 = .ok (.ifCond .lt 135, 3) := by decide +kernel
theorem dL_law_925 : decode cL_law 925 = .ok (.iconst 0, 1) := by decide +kernel
theorem dL_law_926 : decode cL_law 926 = .ok (.istore 8, 2) := by decide +kernel
theorem dL_law_928 : decode cL_law 928 = .ok (.iconst 0, 1) := by decide +kernel
theorem dL_law_929 : decode cL_law 929 = .ok (.istore 9, 2) := by decide +kernel
theorem dL_law_931 : decode cL_law 931 = .ok (.iload 9, 2) := by decide +kernel
theorem dL_law_933 : decode cL_law 933 = .ok (.iload_n 3, 1) := by decide +kernel
theorem dL_law_934 : decode cL_law 934 = .ok (.if_icmp .ge 85, 3) := by decide +kernel
theorem dL_law_937 : decode cL_law 937 = .ok (.iload 7, 2) := by decide +kernel
theorem dL_law_939 : decode cL_law 939 = .ok (.iload_n 3, 1) := by decide +kernel
theorem dL_law_940 : decode cL_law 940 = .ok (.iconst 1, 1) := by decide +kernel
theorem dL_law_941 : decode cL_law 941 = .ok (.isub, 1) := by decide +kernel
theorem dL_law_942 : decode cL_law 942 = .ok (.iload 9, 2) := by decide +kernel
theorem dL_law_944 : decode cL_law 944 = .ok (.isub, 1) := by decide +kernel
theorem dL_law_945 : decode cL_law 945 = .ok (.ishr, 1) := by decide +kernel
theorem dL_law_946 : decode cL_law 946 = .ok (.iconst 1, 1) := by decide +kernel
theorem dL_law_947 : decode cL_law 947 = .ok (.iand, 1) := by decide +kernel
theorem dL_law_948 : decode cL_law 948 = .ok (.istore 10, 2) := by decide +kernel
theorem dL_law_950 : decode cL_law 950 = .ok (.iload 9, 2) := by decide +kernel
theorem dL_law_952 : decode cL_law 952 = .ok (.iconst 2, 1) := by decide +kernel
theorem dL_law_953 : decode cL_law 953 = .ok (.if_icmp .ge 7, 3) := by decide +kernel
theorem dL_law_956 : decode cL_law 956 = .ok (.iconst 0, 1) := by decide +kernel
theorem dL_law_957 : decode cL_law 957 = .ok (.goto 14, 3) := by decide +kernel
theorem dL_law_960 : decode cL_law 960 = .ok (.iload 7, 2) := by decide +kernel
theorem dL_law_962 : decode cL_law 962 = .ok (.iload_n 3, 1) := by decide +kernel
theorem dL_law_963 : decode cL_law 963 = .ok (.iconst 1, 1) := by decide +kernel
theorem dL_law_964 : decode cL_law 964 = .ok (.iadd, 1) := by decide +kernel
theorem dL_law_965 : decode cL_law 965 = .ok (.iload 9, 2) := by decide +kernel
theorem dL_law_967 : decode cL_law 967 = .ok (.isub, 1) := by decide +kernel
theorem dL_law_968 : decode cL_law 968 = .ok (.ishr, 1) := by decide +kernel
theorem dL_law_969 : decode cL_law 969 = .ok (.iconst 1, 1) := by decide +kernel
theorem dL_law_970 : decode cL_law 970 = .ok (.iand, 1) := by decide +kernel
theorem dL_law_971 : decode cL_law 971 = .ok (.istore 11, 2) := by decide +kernel
theorem dL_law_973 : decode cL_law 973 = .ok (.iload 8, 2) := by decide +kernel
theorem dL_law_975 : decode cL_law 975 = .ok (.aload 4, 2) := by decide +kernel
theorem dL_law_977 : decode cL_law 977 = .ok (.iload 9, 2) := by decide +kernel
theorem dL_law_979 : decode cL_law 979 = .ok (.iaload, 1) := by decide +kernel
theorem dL_law_980 : decode cL_law 980 = .ok (.bipush 10, 2) := by decide +kernel
theorem dL_law_982 : decode cL_law 982 = .ok (.iload 10, 2) := by decide +kernel
theorem dL_law_984 : decode cL_law 984 = .ok (.imul, 1) := by decide +kernel
theorem dL_law_985 : decode cL_law 985 = .ok (.isub, 1) := by decide +kernel
theorem dL_law_986 : decode cL_law 986 = .ok (.bipush 10, 2) := by decide +kernel
theorem dL_law_988 : decode cL_law 988 = .ok (.iload 11, 2) := by decide +kernel
theorem dL_law_990 : decode cL_law 990 = .ok (.imul, 1) := by decide +kernel
theorem dL_law_991 : decode cL_law 991 = .ok (.iadd, 1) := by decide +kernel
theorem dL_law_992 : decode cL_law 992 = .ok (.aload 4, 2) := by decide +kernel
theorem dL_law_994 : decode cL_law 994 = .ok (.iload 9, 2) := by decide +kernel
theorem dL_law_996 : decode cL_law 996 = .ok (.iaload, 1) := by decide +kernel
theorem dL_law_997 : decode cL_law 997 = .ok (.bipush 10, 2) := by decide +kernel
theorem dL_law_999 : decode cL_law 999 = .ok (.iload 10, 2) := by decide +kernel
theorem dL_law_1001 : decode cL_law 1001 = .ok (.imul, 1) := by decide +kernel
theorem dL_law_1002 : decode cL_law 1002 = .ok (.isub, 1) := by decide +kernel
theorem dL_law_1003 : decode cL_law 1003 = .ok (.bipush 10, 2) := by decide +kernel
theorem dL_law_1005 : decode cL_law 1005 = .ok (.iload 11, 2) := by decide +kernel
theorem dL_law_1007 : decode cL_law 1007 = .ok (.imul, 1) := by decide +kernel
theorem dL_law_1008 : decode cL_law 1008 = .ok (.iadd, 1) := by decide +kernel
theorem dL_law_1009 : decode cL_law 1009 = .ok (.imul, 1) := by decide +kernel
theorem dL_law_1010 : decode cL_law 1010 = .ok (.iadd, 1) := by decide +kernel
theorem dL_law_1011 : decode cL_law 1011 = .ok (.istore 8, 2) := by decide +kernel
theorem dL_law_1013 : decode cL_law 1013 = .ok (.iinc 9 1, 3) := by decide +kernel
theorem dL_law_1016 : decode cL_law 1016 = .ok (.goto (-85), 3) := by decide +kernel
theorem dL_law_1019 : decode cL_law 1019 = .ok (.iload 8, 2) := by decide +kernel
theorem dL_law_1021 : decode cL_law 1021 = .ok (.iload 6, 2) := by decide +kernel
theorem dL_law_1023 : decode cL_law 1023 = .ok (.if_icmp .gt 8, 3) := by decide +kernel
theorem dL_law_1026 : decode cL_law 1026 = .ok (.iload 7, 2) := by decide +kernel
theorem dL_law_1028 : decode cL_law 1028 = .ok (.goto 5, 3) := by decide +kernel
theorem dL_law_1031 : decode cL_law 1031 = .ok (.iload 5, 2) := by decide +kernel
theorem dL_law_1033 : decode cL_law 1033 = .ok (.istore 5, 2) := by decide +kernel
theorem dL_law_1035 : decode cL_law 1035 = .ok (.iload 8, 2) := by decide +kernel
theorem dL_law_1037 : decode cL_law 1037 = .ok (.iload 6, 2) := by decide +kernel
theorem dL_law_1039 : decode cL_law 1039 = .ok (.if_icmp .gt 8, 3) := by decide +kernel
theorem dL_law_1042 : decode cL_law 1042 = .ok (.iload 8, 2) := by decide +kernel
theorem dL_law_1044 : decode cL_law 1044 = .ok (.goto 5, 3) := by decide +kernel
theorem dL_law_1047 : decode cL_law 1047 = .ok (.iload 6, 2) := by decide +kernel
theorem dL_law_1049 : decode cL_law 1049 = .ok (.istore 6, 2) := by decide +kernel
theorem dL_law_1051 : decode cL_law 1051 = .ok (.iinc 7 (-1), 3) := by decide +kernel
theorem dL_law_1054 : decode cL_law 1054 = .ok (.goto (-134), 3) := by decide +kernel
theorem dL_law_1057 : decode cL_law 1057 = .ok (.iload_n 2, 1) := by decide +kernel
theorem dL_law_1058 : decode cL_law 1058 = .ok (.ifCond .eq 30, 3) := by decide +kernel
theorem dL_law_1061 : decode cL_law 1061 = .ok (.aload_n 1, 1) := by decide +kernel
theorem dL_law_1062 : decode cL_law 1062 = .ok (.invokevirtual 87, 3) := by decide +kernel
theorem dL_law_1065 : decode cL_law 1065 = .ok (.iload 5, 2) := by decide +kernel
theorem dL_law_1067 : decode cL_law 1067 = .ok (.if_icmp .ne 21, 3) := by decide +kernel
theorem dL_law_1070 : decode cL_law 1070 = .ok (.aload_n 1, 1) := by decide +kernel
theorem dL_law_1071 : decode cL_law 1071 = .ok (.invokevirtual 87, 3) := by decide +kernel
theorem dL_law_1074 : decode cL_law 1074 = .ok (.ifCond .ne 14, 3) := by decide +kernel
theorem dL_law_1077 : decode cL_law 1077 = .ok (.aload_n 1, 1) := by decide +kernel
theorem dL_law_1078 : decode cL_law 1078 = .ok (.invokevirtual 96, 3) := by decide +kernel
theorem dL_law_1081 : decode cL_law 1081 = .ok (.ifCond .eq 7, 3) := by decide +kernel
theorem dL_law_1084 : decode cL_law 1084 = .ok (.iconst 1, 1) := by decide +kernel
theorem dL_law_1085 : decode cL_law 1085 = .ok (.goto 4, 3) := by decide +kernel
theorem dL_law_1088 : decode cL_law 1088 = .ok (.iconst 0, 1) := by decide +kernel
theorem dL_law_1089 : decode cL_law 1089 = .ok (.ireturn, 1) := by decide +kernel
