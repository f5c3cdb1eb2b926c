theorem d_LW_law_807 : decode code 807 = .ok (.invokevirtual 88, 3) := by decide +kernel
theorem d_LW_law_810 : decode code 810 = .ok (.iload 5, 2) := by decide +kernel
theorem d_LW_law_812 : decode code 812 = .ok (.if_icmp .eq 5, 3) := by decide +kernel
theorem d_LW_law_815 : decode code 815 = .ok (.iconst 0, 1) := by decide +kernel
theorem d_LW_law_816 : decode code 816 = .ok (.ireturn, 1) := by decide +kernel
theorem d_LW_law_817 : decode code 817 = .ok (.iload 5, 2) := by decide +kernel
theorem d_LW_law_819 : decode code 819 = .ok (.ifCond .ne 15, 3) := by decide +kernel
theorem d_LW_law_822 : decode code 822 = .ok (.aload_n 3, 1) := by decide +kernel
theorem d_LW_law_823 : decode code 823 = .ok (.iconst 0, 1) := by decide +kernel
theorem d_LW_law_824 : decode code 824 = .ok (.laload, 1) := by decide +kernel
theorem d_LW_law_825 : decode code 825 = .ok (.iload 6, 2) := by decide +kernel
theorem d_LW_law_827 : decode code 827 = .ok (.i2l, 1) := by decide +kernel
theorem d_LW_law_828 : decode code 828 = .ok (.lcmp, 1) := by decide +kernel
theorem d_LW_law_829 : decode code 829 = .ok (.ifCond .eq 5, 3) := by decide +kernel
theorem d_LW_law_832 : decode code 832 = .ok (.iconst 0, 1) := by decide +kernel
theorem d_LW_law_833 : decode code 833 = .ok (.ireturn, 1) := by decide +kernel
theorem d_LW_law_834 : decode code 834 = .ok (.goto 650, 3) := by decide +kernel
theorem d_LW_law_837 : decode code 837 = .ok (.aload_n 1, 1) := by decide +kernel
theorem d_LW_law_838 : decode code 838 = .ok (.aload_n 0, 1) := by decide +kernel
theorem d_LW_law_839 : decode code 839 = .ok (.iload 4, 2) := by decide +kernel
theorem d_LW_law_841 : decode code 841 = .ok (.iconst 1, 1) := by decide +kernel
theorem d_LW_law_842 : decode code 842 = .ok (.iadd, 1) := by decide +kernel
theorem d_LW_law_843 : decode code 843 = .ok (.iaload, 1) := by decide +kernel
theorem d_LW_law_844 : decode code 844 = .ok (.aload_n 3, 1) := by decide +kernel
theorem d_LW_law_845 : decode code 845 = .ok (.invokestatic 121, 3) := by decide +kernel
theorem d_LW_law_848 : decode code 848 = .ok (.istore 5, 2) := by decide +kernel
theorem d_LW_law_850 : decode code 850 = .ok (.aload_n 2, 1) := by decide +kernel
theorem d_LW_law_851 : decode code 851 = .ok (.aload_n 0, 1) := by decide +kernel
theorem d_LW_law_852 : decode code 852 = .ok (.iload 4, 2) := by decide +kernel
theorem d_LW_law_854 : decode code 854 = .ok (.iconst 1, 1) := by decide +kernel
theorem d_LW_law_855 : decode code 855 = .ok (.iadd, 1) := by decide +kernel
theorem d_LW_law_856 : decode code 856 = .ok (.iaload, 1) := by decide +kernel
theorem d_LW_law_857 : decode code 857 = .ok (.invokevirtual 123, 3) := by decide +kernel
theorem d_LW_law_860 : decode code 860 = .ok (.istore 6, 2) := by decide +kernel
theorem d_LW_law_862 : decode code 862 = .ok (.aload_n 2, 1) := by decide +kernel
theorem d_LW_law_863 : decode code 863 = .ok (.invokevirtual 88, 3) := by decide +kernel
theorem d_LW_law_866 : decode code 866 = .ok (.iload 5, 2) := by decide +kernel
theorem d_LW_law_868 : decode code 868 = .ok (.if_icmp .eq 5, 3) := by decide +kernel
theorem d_LW_law_871 : decode code 871 = .ok (.iconst 0, 1) := by decide +kernel
theorem d_LW_law_872 : decode code 872 = .ok (.ireturn, 1) := by decide +kernel
theorem d_LW_law_873 : decode code 873 = .ok (.iload 5, 2) := by decide +kernel
theorem d_LW_law_875 : decode code 875 = .ok (.ifCond .ne 15, 3) := by decide +kernel
theorem d_LW_law_878 : decode code 878 = .ok (.aload_n 3, 1) := by decide +kernel
theorem d_LW_law_879 : decode code 879 = .ok (.iconst 0, 1) := by decide +kernel
theorem d_LW_law_880 : decode code 880 = .ok (.laload, 1) := by decide +kernel
theorem d_LW_law_881 : decode code 881 = .ok (.iload 6, 2) := by decide +kernel
theorem d_LW_law_883 : decode code 883 = .ok (.i2l, 1) := by decide +kernel
theorem d_LW_law_884 : decode code 884 = .ok (.lcmp, 1) := by decide +kernel
theorem d_LW_law_885 : decode code 885 = .ok (.ifCond .eq 5, 3) := by decide +kernel
theorem d_LW_law_888 : decode code 888 = .ok (.iconst 0, 1) := by decide +kernel
theorem d_LW_law_889 : decode code 889 = .ok (.ireturn, 1) := by decide +kernel
theorem d_LW_law_890 : decode code 890 = .ok (.goto 594, 3) := by decide +kernel
theorem d_LW_law_893 : decode code 893 = .ok (.aload_n 1, 1) := by decide +kernel
theorem d_LW_law_894 : decode code 894 = .ok (.aload_n 0, 1) := by decide +kernel
theorem d_LW_law_895 : decode code 895 = .ok (.iload 4, 2) := by decide +kernel
theorem d_LW_law_897 : decode code 897 = .ok (.iconst 1, 1) := by decide +kernel
theorem d_LW_law_898 : decode code 898 = .ok (.iadd, 1) := by decide +kernel
theorem d_LW_law_899 : decode code 899 = .ok (.iaload, 1) := by decide +kernel
theorem d_LW_law_900 : decode code 900 = .ok (.aload_n 0, 1) := by decide +kernel
theorem d_LW_law_901 : decode code 901 = .ok (.iload 4, 2) := by decide +kernel
theorem d_LW_law_903 : decode code 903 = .ok (.iconst 2, 1) := by decide +kernel
theorem d_LW_law_904 : decode code 904 = .ok (.iadd, 1) := by decide +kernel
theorem d_LW_law_905 : decode code 905 = .ok (.iaload, 1) := by decide +kernel
theorem d_LW_law_906 : decode code 906 = .ok (.aload_n 0, 1) := by decide +kernel
theorem d_LW_law_907 : decode code 907 = .ok (.iload 4, 2) := by decide +kernel
theorem d_LW_law_909 : decode code 909 = .ok (.iconst 3, 1) := by decide +kernel
theorem d_LW_law_910 : decode code 910 = .ok (.iadd, 1) := by decide +kernel
theorem d_LW_law_911 : decode code 911 = .ok (.iaload, 1) := by decide +kernel
theorem d_LW_law_912 : decode code 912 = .ok (.aload_n 3, 1) := by decide +kernel
theorem d_LW_law_913 : decode code 913 = .ok (.invokestatic 124, 3) := by decide +kernel
theorem d_LW_law_916 : decode code 916 = .ok (.istore 5, 2) := by decide +kernel
theorem d_LW_law_918 : decode code 918 = .ok (.aload_n 2, 1) := by decide +kernel
theorem d_LW_law_919 : decode code 919 = .ok (.aload_n 0, 1) := by decide +kernel
theorem d_LW_law_920 : decode code 920 = .ok (.iload 4, 2) := by decide +kernel
theorem d_LW_law_922 : decode code 922 = .ok (.iconst 1, 1) := by decide +kernel
theorem d_LW_law_923 : decode code 923 = .ok (.iadd, 1) := by decide +kernel
theorem d_LW_law_924 : decode code 924 = .ok (.iaload, 1) := by decide +kernel
theorem d_LW_law_925 : decode code 925 = .ok (.aload_n 0, 1) := by decide +kernel
theorem d_LW_law_926 : decode code 926 = .ok (.iload 4, 2) := by decide +kernel
theorem d_LW_law_928 : decode code 928 = .ok (.iconst 2, 1) := by decide +kernel
theorem d_LW_law_929 : decode code 929 = .ok (.iadd, 1) := by decide +kernel
theorem d_LW_law_930 : decode code 930 = .ok (.iaload, 1) := by decide +kernel
theorem d_LW_law_931 : decode code 931 = .ok (.aload_n 0, 1) := by decide +kernel
theorem d_LW_law_932 : decode code 932 = .ok (.iload 4, 2) := by decide +kernel
theorem d_LW_law_934 : decode code 934 = .ok (.iconst 3, 1) := by decide +kernel
theorem d_LW_law_935 : decode code 935 = .ok (.iadd, 1) := by decide +kernel
theorem d_LW_law_936 : decode code 936 = .ok (.iaload, 1) := by decide +kernel
theorem d_LW_law_937 : decode code 937 = .ok (.invokevirtual 126, 3) := by decide +kernel
theorem d_LW_law_940 : decode code 940 = .ok (.istore 6, 2) := by decide +kernel
theorem d_LW_law_942 : decode code 942 = .ok (.aload_n 2, 1) := by decide +kernel
theorem d_LW_law_943 : decode code 943 = .ok (.invokevirtual 88, 3) := by decide +kernel
theorem d_LW_law_946 : decode code 946 = .ok (.iload 5, 2) := by decide +kernel
theorem d_LW_law_948 : decode code 948 = .ok (.if_icmp .eq 5, 3) := by decide +kernel
theorem d_LW_law_951 : decode code 951 = .ok (.iconst 0, 1) := by decide +kernel
theorem d_LW_law_952 : decode code 952 = .ok (.ireturn, 1) := by decide +kernel
theorem d_LW_law_953 : decode code 953 = .ok (.iload 5, 2) := by decide +kernel
theorem d_LW_law_955 : decode code 955 = .ok (.ifCond .ne 15, 3) := by decide +kernel
theorem d_LW_law_958 : decode code 958 = .ok (.aload_n 3, 1) := by decide +kernel
theorem d_LW_law_959 : decode code 959 = .ok (.iconst 0, 1) := by decide +kernel
theorem d_LW_law_960 : decode code 960 = .ok (.laload, 1) := by decide +kernel
theorem d_LW_law_961 : decode code 961 = .ok (.iload 6, 2) := by decide +kernel
theorem d_LW_law_963 : decode code 963 = .ok (.i2l, 1) := by decide +kernel
theorem d_LW_law_964 : decode code 964 = .ok (.lcmp, 1) := by decide +kernel
theorem d_LW_law_965 : decode code 965 = .ok (.ifCond .eq 5, 3) := by decide +kernel
theorem d_LW_law_968 : decode code 968 = .ok (.iconst 0, 1) := by decide +kernel
theorem d_LW_law_969 : decode code 969 = .ok (.ireturn, 1) := by decide +kernel
theorem d_LW_law_970 : decode code 970 = .ok (.goto 514, 3) := by decide +kernel
theorem d_LW_law_973 : decode code 973 = .ok (.aload_n 1, 1) := by decide +kernel
theorem d_LW_law_974 : decode code 974 = .ok (.aload_n 0, 1) := by decide +kernel
theorem d_LW_law_975 : decode code 975 = .ok (.iload 4, 2) := by decide +kernel
theorem d_LW_law_977 : decode code 977 = .ok (.iconst 1, 1) := by decide +kernel
theorem d_LW_law_978 : decode code 978 = .ok (.iadd, 1) := by decide +kernel
theorem d_LW_law_979 : decode code 979 = .ok (.iaload, 1) := by decide +kernel
theorem d_LW_law_980 : decode code 980 = .ok (.aload_n 0, 1) := by decide +kernel
theorem d_LW_law_981 : decode code 981 = .ok (.iload 4, 2) := by decide +kernel
theorem d_LW_law_983 : decode code 983 = .ok (.iconst 2, 1) := by decide +kernel
theorem d_LW_law_984 : decode code 984 = .ok (.iadd, 1) := by decide +kernel
theorem d_LW_law_985 : decode code 985 = .ok (.iaload, 1) := by decide +kernel
theorem d_LW_law_986 : decode code 986 = .ok (.aload_n 0, 1) := by decide +kernel
theorem d_LW_law_987 : decode code 987 = .ok (.iload 4, 2) := by decide +kernel
theorem d_LW_law_989 : decode code 989 = .ok (.iconst 3, 1) := by decide +kernel
theorem d_LW_law_990 : decode code 990 = .ok (.iadd, 1) := by decide +kernel
theorem d_LW_law_991 : decode code 991 = .ok (.iaload, 1) := by decide +kernel
theorem d_LW_law_992 : decode code 992 = .ok (.aload_n 0, 1) := by decide +kernel
theorem d_LW_law_993 : decode code 993 = .ok (.iload 4, 2) := by decide +kernel
theorem d_LW_law_995 : decode code 995 = .ok (.iconst 4, 1) := by decide +kernel
theorem d_LW_law_996 : decode code 996 = .ok (.iadd, 1) := by decide +kernel
theorem d_LW_law_997 : decode code 997 = .ok (.iaload, 1) := by decide +kernel
theorem d_LW_law_998 : decode code 998 = .ok (.aload_n 3, 1) := by decide +kernel
theorem d_LW_law_999 : decode code 999 = .ok (.invokestatic 127, 3) := by decide +kernel
theorem d_LW_law_1002 : decode code 1002 = .ok (.istore 5, 2) := by decide +kernel
theorem d_LW_law_1004 : decode code 1004 = .ok (.aload_n 2, 1) := by decide +kernel
theorem d_LW_law_1005 : decode code 1005 = .ok (.aload_n 0, 1) := by decide +kernel
theorem d_LW_law_1006 : decode code 1006 = .ok (.iload 4, 2) := by decide +kernel
theorem d_LW_law_1008 : decode code 1008 = .ok (.iconst 1, 1) := by decide +kernel
theorem d_LW_law_1009 : decode code 1009 = .ok (.iadd, 1) := by decide +kernel
theorem d_LW_law_1010 : decode code 1010 = .ok (.iaload, 1) := by decide +kernel
theorem d_LW_law_1011 : decode code 1011 = .ok (.aload_n 0, 1) := by decide +kernel
theorem d_LW_law_1012 : decode code 1012 = .ok (.iload 4, 2) := by decide +kernel
theorem d_LW_law_1014 : decode code 1014 = .ok (.iconst 2, 1) := by decide +kernel
theorem d_LW_law_1015 : decode code 1015 = .ok (.iadd, 1) := by decide +kernel
theorem d_LW_law_1016 : decode code 1016 = .ok (.iaload, 1) := by decide +kernel
theorem d_LW_law_1017 : decode code 1017 = .ok (.aload_n 0, 1) := by decide +kernel
theorem d_LW_law_1018 : decode code 1018 = .ok (.iload 4, 2) := by decide +kernel
theorem d_LW_law_1020 : decode code 1020 = .ok (.iconst 3, 1) := by decide +kernel
theorem d_LW_law_1021 : decode code 1021 = .ok (.iadd, 1) := by decide +kernel
theorem d_LW_law_1022 : decode code 1022 = .ok (.iaload, 1) := by decide +kernel
theorem d_LW_law_1023 : decode code 1023 = .ok (.aload_n 0, 1) := by decide +kernel
theorem d_LW_law_1024 : decode code 1024 = .ok (.iload 4, 2) := by decide +kernel
theorem d_LW_law_1026 : decode code 1026 = .ok (.iconst 4, 1) := by decide +kernel
theorem d_LW_law_1027 : decode code 1027 = .ok (.iadd, 1) := by decide +kernel
theorem d_LW_law_1028 : decode code 1028 = .ok (.iaload, 1) := by decide +kernel
theorem d_LW_law_1029 : decode code 1029 = .ok (.invokevirtual 129, 3) := by decide +kernel
theorem d_LW_law_1032 : decode code 1032 = .ok (.istore 6, 2) := by decide +kernel
theorem d_LW_law_1034 : decode code 1034 = .ok (.aload_n 2, 1) := by decide +kernel
theorem d_LW_law_1035 : decode code 1035 = .ok (.invokevirtual 88, 3) := by decide +kernel
theorem d_LW_law_1038 : decode code 1038 = .ok (.iload 5, 2) := by decide +kernel
theorem d_LW_law_1040 : decode code 1040 = .ok (.if_icmp .eq 5, 3) := by decide +kernel
theorem d_LW_law_1043 : decode code 1043 = .ok (.iconst 0, 1) := by decide +kernel
theorem d_LW_law_1044 : decode code 1044 = .ok (.ireturn, 1) := by decide +kernel
theorem d_LW_law_1045 : decode code 1045 = .ok (.iload 5, 2) := by decide +kernel
theorem d_LW_law_1047 : decode code 1047 = .ok (.ifCond .ne 15, 3) := by decide +kernel
theorem d_LW_law_1050 : decode code 1050 = .ok (.aload_n 3, 1) := by decide +kernel
theorem d_LW_law_1051 : decode code 1051 = .ok (.iconst 0, 1) := by decide +kernel
theorem d_LW_law_1052 : decode code 1052 = .ok (.laload, 1) := by decide +kernel
theorem d_LW_law_1053 : decode code 1053 = .ok (.iload 6, 2) := by decide +kernel
theorem d_LW_law_1055 : decode code 1055 = .ok (.i2l, 1) := by decide +kernel
theorem d_LW_law_1056 : decode code 1056 = .ok (.lcmp, 1) := by decide +kernel
theorem d_LW_law_1057 : decode code 1057 = .ok (.ifCond .eq 5, 3) := by decide +kernel
theorem d_LW_law_1060 : decode code 1060 = .ok (.iconst 0, 1) := by decide +kernel
theorem d_LW_law_1061 : decode code 1061 = .ok (.ireturn, 1) := by decide +kernel
theorem d_LW_law_1062 : decode code 1062 = .ok (.goto 422, 3) := by decide +kernel
theorem d_LW_law_1065 : decode code 1065 = .ok (.aload_n 1, 1) := by decide +kernel
theorem d_LW_law_1066 : decode code 1066 = .ok (.aload_n 0, 1) := by decide +kernel
theorem d_LW_law_1067 : decode code 1067 = .ok (.iload 4, 2) := by decide +kernel
theorem d_LW_law_1069 : decode code 1069 = .ok (.iconst 1, 1) := by decide +kernel
theorem d_LW_law_1070 : decode code 1070 = .ok (.iadd, 1) := by decide +kernel
theorem d_LW_law_1071 : decode code 1071 = .ok (.iaload, 1) := by decide +kernel
theorem d_LW_law_1072 : decode code 1072 = .ok (.aload_n 0, 1) := by decide +kernel
theorem d_LW_law_1073 : decode code 1073 = .ok (.iload 4, 2) := by decide +kernel
theorem d_LW_law_1075 : decode code 1075 = .ok (.iconst 2, 1) := by decide +kernel
theorem d_LW_law_1076 : decode code 1076 = .ok (.iadd, 1) := by decide +kernel
theorem d_LW_law_1077 : decode code 1077 = .ok (.iaload, 1) := by decide +kernel
theorem d_LW_law_1078 : decode code 1078 = .ok (.aload_n 3, 1) := by decide +kernel
theorem d_LW_law_1079 : decode code 1079 = .ok (.invokestatic 130, 3) := by decide +kernel
theorem d_LW_law_1082 : decode code 1082 = .ok (.istore 5, 2) := by decide +kernel
theorem d_LW_law_1084 : decode code 1084 = .ok (.aload_n 2, 1) := by decide +kernel
theorem d_LW_law_1085 : decode code 1085 = .ok (.aload_n 0, 1) := by decide +kernel
theorem d_LW_law_1086 : decode code 1086 = .ok (.iload 4, 2) := by decide +kernel
theorem d_LW_law_1088 : decode code 1088 = .ok (.iconst 1, 1) := by decide +kernel
theorem d_LW_law_1089 : decode code 1089 = .ok (.iadd, 1) := by decide +kernel
theorem d_LW_law_1090 : decode code 1090 = .ok (.iaload, 1) := by decide +kernel
theorem d_LW_law_1091 : decode code 1091 = .ok (.aload_n 0, 1) := by decide +kernel
theorem d_LW_law_1092 : decode code 1092 = .ok (.iload 4, 2) := by decide +kernel
theorem d_LW_law_1094 : decode code 1094 = .ok (.iconst 2, 1) := by decide +kernel
theorem d_LW_law_1095 : decode code 1095 = .ok (.iadd, 1) := by decide +kernel
theorem d_LW_law_1096 : decode code 1096 = .ok (.iaload, 1) := by decide +kernel
theorem d_LW_law_1097 : decode code 1097 = .ok (.invokevirtual 132, 3) := by decide +kernel
theorem d_LW_law_1100 : decode code 1100 = .ok (.istore 6, 2) := by decide +kernel
theorem d_LW_law_1102 : decode code 1102 = .ok (.aload_n 2, 1) := by decide +kernel
theorem d_LW_law_1103 : decode code 1103 = .ok (.invokevirtual 88, 3) := by decide +kernel
theorem d_LW_law_1106 : decode code 1106 = .ok (.iload 5, 2) := by decide +kernel
theorem d_LW_law_1108 : decode code 1108 = .ok (.if_icmp .eq 5, 3) := by decide +kernel
theorem d_LW_law_1111 : decode code 1111 = .ok (.iconst 0, 1) := by decide +kernel
theorem d_LW_law_1112 : decode code 1112 = .ok (.ireturn, 1) := by decide +kernel
theorem d_LW_law_1113 : decode code 1113 = .ok (.iload 5, 2) := by decide +kernel
theorem d_LW_law_1115 : decode code 1115 = .ok (.ifCond .ne 22, 3) := by decide +kernel
theorem d_LW_law_1118 : decode code 1118 = .ok (.aload_n 3, 1) := by decide +kernel
theorem d_LW_law_1119 : decode code 1119 = .ok (.iconst 0, 1) := by decide +kernel
theorem d_LW_law_1120 : decode code 1120 = .ok (.laload, 1) := by decide +kernel
theorem d_LW_law_1121 : decode code 1121 = .ok (.iload 6, 2) := by decide +kernel
theorem d_LW_law_1123 : decode code 1123 = .ok (.ifCond .eq 7, 3) := by decide +kernel
theorem d_LW_law_1126 : decode code 1126 = .ok (.lconst 1, 1) := by decide +kernel
theorem d_LW_law_1127 : decode code 1127 = .ok (.goto 4, 3) := by decide +kernel
theorem d_LW_law_1130 : decode code 1130 = .ok (.lconst 0, 1) := by decide +kernel
theorem d_LW_law_1131 : decode code 1131 = .ok (.lcmp, 1) := by decide +kernel
theorem d_LW_law_1132 : decode code 1132 = .ok (.ifCond .eq 5, 3) := by decide +kernel
theorem d_LW_law_1135 : decode code 1135 = .ok (.iconst 0, 1) := by decide +kernel
theorem d_LW_law_1136 : decode code 1136 = .ok (.ireturn, 1) := by decide +kernel
theorem d_LW_law_1137 : decode code 1137 = .ok (.goto 347, 3) := by decide +kernel
theorem d_LW_law_1140 : decode code 1140 = .ok (.aload_n 1, 1) := by decide +kernel
theorem d_LW_law_1141 : decode code 1141 = .ok (.aload_n 0, 1) := by decide +kernel
theorem d_LW_law_1142 : decode code 1142 = .ok (.iload 4, 2) := by decide +kernel
theorem d_LW_law_1144 : decode code 1144 = .ok (.iconst 1, 1) := by decide +kernel
theorem d_LW_law_1145 : decode code 1145 = .ok (.iadd, 1) := by decide +kernel
theorem d_LW_law_1146 : decode code 1146 = .ok (.iaload, 1) := by decide +kernel
theorem d_LW_law_1147 : decode code 1147 = .ok (.aload_n 0, 1) := by decide +kernel
theorem d_LW_law_1148 : decode code 1148 = .ok (.iload 4, 2) := by decide +kernel
theorem d_LW_law_1150 : decode code 1150 = .ok (.iconst 2, 1) := by decide +kernel
theorem d_LW_law_1151 : decode code 1151 = .ok (.iadd, 1) := by decide +kernel
theorem d_LW_law_1152 : decode code 1152 = .ok (.iaload, 1) := by decide +kernel
theorem d_LW_law_1153 : decode code 1153 = .ok (.aload_n 3, 1) := by decide +kernel
theorem d_LW_law_1154 : decode code 1154 = .ok (.invokestatic 133, 3) := by decide +kernel
theorem d_LW_law_1157 : decode code 1157 = .ok (.istore 5, 2) := by decide +kernel
theorem d_LW_law_1159 : decode code 1159 = .ok (.aload_n 2, 1) := by decide +kernel
theorem d_LW_law_1160 : decode code 1160 = .ok (.aload_n 0, 1) := by decide +kernel
theorem d_LW_law_1161 : decode code 1161 = .ok (.iload 4, 2) := by decide +kernel
theorem d_LW_law_1163 : decode code 1163 = .ok (.iconst 1, 1) := by decide +kernel
theorem d_LW_law_1164 : decode code 1164 = .ok (.iadd, 1) := by decide +kernel
theorem d_LW_law_1165 : decode code 1165 = .ok (.iaload, 1) := by decide +kernel
