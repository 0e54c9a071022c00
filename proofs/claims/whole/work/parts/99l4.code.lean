/-! ===== the law: its instructions, 4 (by program, wip/whole/p107.py) ===== -/
theorem dl_928 : decode code 928 = .ok (.iadd, 1) := by decide +kernel
theorem dl_929 : decode code 929 = .ok (.iaload, 1) := by decide +kernel
theorem dl_930 : decode code 930 = .ok ((.invokevirtual 111), 3) := by decide +kernel
theorem dl_933 : decode code 933 = .ok ((.aload_n 2), 1) := by decide +kernel
theorem dl_934 : decode code 934 = .ok ((.aload_n 0), 1) := by decide +kernel
theorem dl_935 : decode code 935 = .ok ((.iload 4), 2) := by decide +kernel
theorem dl_937 : decode code 937 = .ok ((.iconst 1), 1) := by decide +kernel
theorem dl_938 : decode code 938 = .ok (.iadd, 1) := by decide +kernel
theorem dl_939 : decode code 939 = .ok (.iaload, 1) := by decide +kernel
theorem dl_940 : decode code 940 = .ok ((.invokevirtual 114), 3) := by decide +kernel
theorem dl_943 : decode code 943 = .ok ((.if_icmp .eq 500), 3) := by decide +kernel
theorem dl_946 : decode code 946 = .ok ((.iconst 0), 1) := by decide +kernel
theorem dl_947 : decode code 947 = .ok (.ireturn, 1) := by decide +kernel
theorem dl_948 : decode code 948 = .ok ((.aload_n 1), 1) := by decide +kernel
theorem dl_949 : decode code 949 = .ok ((.aload_n 0), 1) := by decide +kernel
theorem dl_950 : decode code 950 = .ok ((.iload 4), 2) := by decide +kernel
theorem dl_952 : decode code 952 = .ok ((.iconst 1), 1) := by decide +kernel
theorem dl_953 : decode code 953 = .ok (.iadd, 1) := by decide +kernel
theorem dl_954 : decode code 954 = .ok (.iaload, 1) := by decide +kernel
theorem dl_955 : decode code 955 = .ok ((.invokevirtual 115), 3) := by decide +kernel
theorem dl_958 : decode code 958 = .ok ((.aload_n 2), 1) := by decide +kernel
theorem dl_959 : decode code 959 = .ok ((.aload_n 0), 1) := by decide +kernel
theorem dl_960 : decode code 960 = .ok ((.iload 4), 2) := by decide +kernel
theorem dl_962 : decode code 962 = .ok ((.iconst 1), 1) := by decide +kernel
theorem dl_963 : decode code 963 = .ok (.iadd, 1) := by decide +kernel
theorem dl_964 : decode code 964 = .ok (.iaload, 1) := by decide +kernel
theorem dl_965 : decode code 965 = .ok ((.invokevirtual 118), 3) := by decide +kernel
theorem dl_968 : decode code 968 = .ok ((.if_icmp .eq 475), 3) := by decide +kernel
theorem dl_971 : decode code 971 = .ok ((.iconst 0), 1) := by decide +kernel
theorem dl_972 : decode code 972 = .ok (.ireturn, 1) := by decide +kernel
theorem dl_973 : decode code 973 = .ok ((.aload_n 1), 1) := by decide +kernel
theorem dl_974 : decode code 974 = .ok ((.aload_n 0), 1) := by decide +kernel
theorem dl_975 : decode code 975 = .ok ((.iload 4), 2) := by decide +kernel
theorem dl_977 : decode code 977 = .ok ((.iconst 1), 1) := by decide +kernel
theorem dl_978 : decode code 978 = .ok (.iadd, 1) := by decide +kernel
theorem dl_979 : decode code 979 = .ok (.iaload, 1) := by decide +kernel
theorem dl_980 : decode code 980 = .ok ((.invokevirtual 119), 3) := by decide +kernel
theorem dl_983 : decode code 983 = .ok ((.aload_n 2), 1) := by decide +kernel
theorem dl_984 : decode code 984 = .ok ((.aload_n 0), 1) := by decide +kernel
theorem dl_985 : decode code 985 = .ok ((.iload 4), 2) := by decide +kernel
theorem dl_987 : decode code 987 = .ok ((.iconst 1), 1) := by decide +kernel
theorem dl_988 : decode code 988 = .ok (.iadd, 1) := by decide +kernel
theorem dl_989 : decode code 989 = .ok (.iaload, 1) := by decide +kernel
theorem dl_990 : decode code 990 = .ok ((.invokevirtual 122), 3) := by decide +kernel
theorem dl_993 : decode code 993 = .ok ((.if_icmp .eq 450), 3) := by decide +kernel
theorem dl_996 : decode code 996 = .ok ((.iconst 0), 1) := by decide +kernel
theorem dl_997 : decode code 997 = .ok (.ireturn, 1) := by decide +kernel
theorem dl_998 : decode code 998 = .ok ((.aload_n 1), 1) := by decide +kernel
theorem dl_999 : decode code 999 = .ok ((.aload_n 0), 1) := by decide +kernel
theorem dl_1000 : decode code 1000 = .ok ((.iload 4), 2) := by decide +kernel
theorem dl_1002 : decode code 1002 = .ok ((.iconst 1), 1) := by decide +kernel
theorem dl_1003 : decode code 1003 = .ok (.iadd, 1) := by decide +kernel
theorem dl_1004 : decode code 1004 = .ok (.iaload, 1) := by decide +kernel
theorem dl_1005 : decode code 1005 = .ok ((.invokevirtual 123), 3) := by decide +kernel
theorem dl_1008 : decode code 1008 = .ok ((.aload_n 2), 1) := by decide +kernel
theorem dl_1009 : decode code 1009 = .ok ((.aload_n 0), 1) := by decide +kernel
theorem dl_1010 : decode code 1010 = .ok ((.iload 4), 2) := by decide +kernel
theorem dl_1012 : decode code 1012 = .ok ((.iconst 1), 1) := by decide +kernel
theorem dl_1013 : decode code 1013 = .ok (.iadd, 1) := by decide +kernel
theorem dl_1014 : decode code 1014 = .ok (.iaload, 1) := by decide +kernel
theorem dl_1015 : decode code 1015 = .ok ((.invokevirtual 126), 3) := by decide +kernel
theorem dl_1018 : decode code 1018 = .ok ((.if_icmp .eq 425), 3) := by decide +kernel
theorem dl_1021 : decode code 1021 = .ok ((.iconst 0), 1) := by decide +kernel
theorem dl_1022 : decode code 1022 = .ok (.ireturn, 1) := by decide +kernel
theorem dl_1023 : decode code 1023 = .ok ((.aload_n 1), 1) := by decide +kernel
theorem dl_1024 : decode code 1024 = .ok ((.aload_n 0), 1) := by decide +kernel
theorem dl_1025 : decode code 1025 = .ok ((.iload 4), 2) := by decide +kernel
theorem dl_1027 : decode code 1027 = .ok ((.iconst 1), 1) := by decide +kernel
theorem dl_1028 : decode code 1028 = .ok (.iadd, 1) := by decide +kernel
theorem dl_1029 : decode code 1029 = .ok (.iaload, 1) := by decide +kernel
theorem dl_1030 : decode code 1030 = .ok ((.invokevirtual 127), 3) := by decide +kernel
theorem dl_1033 : decode code 1033 = .ok ((.aload_n 2), 1) := by decide +kernel
theorem dl_1034 : decode code 1034 = .ok ((.aload_n 0), 1) := by decide +kernel
theorem dl_1035 : decode code 1035 = .ok ((.iload 4), 2) := by decide +kernel
theorem dl_1037 : decode code 1037 = .ok ((.iconst 1), 1) := by decide +kernel
theorem dl_1038 : decode code 1038 = .ok (.iadd, 1) := by decide +kernel
theorem dl_1039 : decode code 1039 = .ok (.iaload, 1) := by decide +kernel
theorem dl_1040 : decode code 1040 = .ok ((.invokevirtual 130), 3) := by decide +kernel
theorem dl_1043 : decode code 1043 = .ok ((.if_icmp .eq 400), 3) := by decide +kernel
theorem dl_1046 : decode code 1046 = .ok ((.iconst 0), 1) := by decide +kernel
theorem dl_1047 : decode code 1047 = .ok (.ireturn, 1) := by decide +kernel
theorem dl_1048 : decode code 1048 = .ok ((.aload_n 1), 1) := by decide +kernel
theorem dl_1049 : decode code 1049 = .ok ((.aload_n 0), 1) := by decide +kernel
theorem dl_1050 : decode code 1050 = .ok ((.iload 4), 2) := by decide +kernel
theorem dl_1052 : decode code 1052 = .ok ((.iconst 1), 1) := by decide +kernel
theorem dl_1053 : decode code 1053 = .ok (.iadd, 1) := by decide +kernel
theorem dl_1054 : decode code 1054 = .ok (.iaload, 1) := by decide +kernel
theorem dl_1055 : decode code 1055 = .ok ((.invokevirtual 131), 3) := by decide +kernel
theorem dl_1058 : decode code 1058 = .ok ((.aload_n 2), 1) := by decide +kernel
theorem dl_1059 : decode code 1059 = .ok ((.aload_n 0), 1) := by decide +kernel
theorem dl_1060 : decode code 1060 = .ok ((.iload 4), 2) := by decide +kernel
theorem dl_1062 : decode code 1062 = .ok ((.iconst 1), 1) := by decide +kernel
theorem dl_1063 : decode code 1063 = .ok (.iadd, 1) := by decide +kernel
theorem dl_1064 : decode code 1064 = .ok (.iaload, 1) := by decide +kernel
theorem dl_1065 : decode code 1065 = .ok ((.invokevirtual 134), 3) := by decide +kernel
theorem dl_1068 : decode code 1068 = .ok ((.if_icmp .eq 375), 3) := by decide +kernel
theorem dl_1071 : decode code 1071 = .ok ((.iconst 0), 1) := by decide +kernel
theorem dl_1072 : decode code 1072 = .ok (.ireturn, 1) := by decide +kernel
theorem dl_1073 : decode code 1073 = .ok ((.aload_n 1), 1) := by decide +kernel
theorem dl_1074 : decode code 1074 = .ok ((.aload_n 0), 1) := by decide +kernel
theorem dl_1075 : decode code 1075 = .ok ((.iload 4), 2) := by decide +kernel
theorem dl_1077 : decode code 1077 = .ok ((.iconst 1), 1) := by decide +kernel
theorem dl_1078 : decode code 1078 = .ok (.iadd, 1) := by decide +kernel
theorem dl_1079 : decode code 1079 = .ok (.iaload, 1) := by decide +kernel
theorem dl_1080 : decode code 1080 = .ok ((.invokevirtual 135), 3) := by decide +kernel
theorem dl_1083 : decode code 1083 = .ok ((.aload_n 2), 1) := by decide +kernel
theorem dl_1084 : decode code 1084 = .ok ((.aload_n 0), 1) := by decide +kernel
theorem dl_1085 : decode code 1085 = .ok ((.iload 4), 2) := by decide +kernel
theorem dl_1087 : decode code 1087 = .ok ((.iconst 1), 1) := by decide +kernel
theorem dl_1088 : decode code 1088 = .ok (.iadd, 1) := by decide +kernel
theorem dl_1089 : decode code 1089 = .ok (.iaload, 1) := by decide +kernel
theorem dl_1090 : decode code 1090 = .ok ((.invokevirtual 138), 3) := by decide +kernel
theorem dl_1093 : decode code 1093 = .ok ((.if_icmp .eq 350), 3) := by decide +kernel
theorem dl_1096 : decode code 1096 = .ok ((.iconst 0), 1) := by decide +kernel
theorem dl_1097 : decode code 1097 = .ok (.ireturn, 1) := by decide +kernel
theorem dl_1098 : decode code 1098 = .ok ((.aload_n 1), 1) := by decide +kernel
theorem dl_1099 : decode code 1099 = .ok ((.aload_n 0), 1) := by decide +kernel
theorem dl_1100 : decode code 1100 = .ok ((.iload 4), 2) := by decide +kernel
theorem dl_1102 : decode code 1102 = .ok ((.iconst 1), 1) := by decide +kernel
theorem dl_1103 : decode code 1103 = .ok (.iadd, 1) := by decide +kernel
theorem dl_1104 : decode code 1104 = .ok (.iaload, 1) := by decide +kernel
theorem dl_1105 : decode code 1105 = .ok ((.aload_n 0), 1) := by decide +kernel
theorem dl_1106 : decode code 1106 = .ok ((.iload 4), 2) := by decide +kernel
theorem dl_1108 : decode code 1108 = .ok ((.iconst 2), 1) := by decide +kernel
theorem dl_1109 : decode code 1109 = .ok (.iadd, 1) := by decide +kernel
theorem dl_1110 : decode code 1110 = .ok (.iaload, 1) := by decide +kernel
theorem dl_1111 : decode code 1111 = .ok ((.invokevirtual 139), 3) := by decide +kernel
theorem dl_1114 : decode code 1114 = .ok ((.aload_n 2), 1) := by decide +kernel
theorem dl_1115 : decode code 1115 = .ok ((.aload_n 0), 1) := by decide +kernel
theorem dl_1116 : decode code 1116 = .ok ((.iload 4), 2) := by decide +kernel
theorem dl_1118 : decode code 1118 = .ok ((.iconst 1), 1) := by decide +kernel
theorem dl_1119 : decode code 1119 = .ok (.iadd, 1) := by decide +kernel
theorem dl_1120 : decode code 1120 = .ok (.iaload, 1) := by decide +kernel
theorem dl_1121 : decode code 1121 = .ok ((.aload_n 0), 1) := by decide +kernel
theorem dl_1122 : decode code 1122 = .ok ((.iload 4), 2) := by decide +kernel
theorem dl_1124 : decode code 1124 = .ok ((.iconst 2), 1) := by decide +kernel
theorem dl_1125 : decode code 1125 = .ok (.iadd, 1) := by decide +kernel
theorem dl_1126 : decode code 1126 = .ok (.iaload, 1) := by decide +kernel
theorem dl_1127 : decode code 1127 = .ok ((.invokevirtual 142), 3) := by decide +kernel
theorem dl_1130 : decode code 1130 = .ok ((.if_icmp .eq 313), 3) := by decide +kernel
theorem dl_1133 : decode code 1133 = .ok ((.iconst 0), 1) := by decide +kernel
theorem dl_1134 : decode code 1134 = .ok (.ireturn, 1) := by decide +kernel
theorem dl_1135 : decode code 1135 = .ok ((.aload_n 1), 1) := by decide +kernel
theorem dl_1136 : decode code 1136 = .ok ((.aload_n 0), 1) := by decide +kernel
theorem dl_1137 : decode code 1137 = .ok ((.iload 4), 2) := by decide +kernel
theorem dl_1139 : decode code 1139 = .ok ((.iconst 1), 1) := by decide +kernel
theorem dl_1140 : decode code 1140 = .ok (.iadd, 1) := by decide +kernel
theorem dl_1141 : decode code 1141 = .ok (.iaload, 1) := by decide +kernel
theorem dl_1142 : decode code 1142 = .ok ((.invokevirtual 143), 3) := by decide +kernel
theorem dl_1145 : decode code 1145 = .ok ((.aload_n 2), 1) := by decide +kernel
theorem dl_1146 : decode code 1146 = .ok ((.aload_n 0), 1) := by decide +kernel
theorem dl_1147 : decode code 1147 = .ok ((.iload 4), 2) := by decide +kernel
theorem dl_1149 : decode code 1149 = .ok ((.iconst 1), 1) := by decide +kernel
theorem dl_1150 : decode code 1150 = .ok (.iadd, 1) := by decide +kernel
theorem dl_1151 : decode code 1151 = .ok (.iaload, 1) := by decide +kernel
theorem dl_1152 : decode code 1152 = .ok ((.invokevirtual 146), 3) := by decide +kernel
theorem dl_1155 : decode code 1155 = .ok ((.if_icmp .eq 288), 3) := by decide +kernel
theorem dl_1158 : decode code 1158 = .ok ((.iconst 0), 1) := by decide +kernel
theorem dl_1159 : decode code 1159 = .ok (.ireturn, 1) := by decide +kernel
theorem dl_1160 : decode code 1160 = .ok ((.aload_n 1), 1) := by decide +kernel
theorem dl_1161 : decode code 1161 = .ok ((.invokevirtual 147), 3) := by decide +kernel
theorem dl_1164 : decode code 1164 = .ok ((.aload_n 2), 1) := by decide +kernel
theorem dl_1165 : decode code 1165 = .ok ((.invokevirtual 150), 3) := by decide +kernel
theorem dl_1168 : decode code 1168 = .ok ((.if_icmp .eq 275), 3) := by decide +kernel
theorem dl_1171 : decode code 1171 = .ok ((.iconst 0), 1) := by decide +kernel
theorem dl_1172 : decode code 1172 = .ok (.ireturn, 1) := by decide +kernel
theorem dl_1173 : decode code 1173 = .ok ((.aload_n 1), 1) := by decide +kernel
theorem dl_1174 : decode code 1174 = .ok ((.aload_n 0), 1) := by decide +kernel
theorem dl_1175 : decode code 1175 = .ok ((.iload 4), 2) := by decide +kernel
theorem dl_1177 : decode code 1177 = .ok ((.iconst 1), 1) := by decide +kernel
theorem dl_1178 : decode code 1178 = .ok (.iadd, 1) := by decide +kernel
theorem dl_1179 : decode code 1179 = .ok (.iaload, 1) := by decide +kernel
theorem dl_1180 : decode code 1180 = .ok ((.aload_n 0), 1) := by decide +kernel
theorem dl_1181 : decode code 1181 = .ok ((.iload 4), 2) := by decide +kernel
theorem dl_1183 : decode code 1183 = .ok ((.iconst 2), 1) := by decide +kernel
theorem dl_1184 : decode code 1184 = .ok (.iadd, 1) := by decide +kernel
theorem dl_1185 : decode code 1185 = .ok (.iaload, 1) := by decide +kernel
