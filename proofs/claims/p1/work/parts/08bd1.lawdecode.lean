theorem dL_law__929 : decode cL_law_ 929 = .ok (.iload 4, 2) := by decide +kernel
theorem dL_law__931 : decode cL_law_ 931 = .ok (.iconst 1, 1) := by decide +kernel
theorem dL_law__932 : decode cL_law_ 932 = .ok (.iadd, 1) := by decide +kernel
theorem dL_law__933 : decode cL_law_ 933 = .ok (.iaload, 1) := by decide +kernel
theorem dL_law__934 : decode cL_law_ 934 = .ok (.aload_n 0, 1) := by decide +kernel
theorem dL_law__935 : decode cL_law_ 935 = .ok (.iload 4, 2) := by decide +kernel
theorem dL_law__937 : decode cL_law_ 937 = .ok (.iconst 2, 1) := by decide +kernel
theorem dL_law__938 : decode cL_law_ 938 = .ok (.iadd, 1) := by decide +kernel
theorem dL_law__939 : decode cL_law_ 939 = .ok (.iaload, 1) := by decide +kernel
theorem dL_law__940 : decode cL_law_ 940 = .ok (.aload_n 0, 1) := by decide +kernel
theorem dL_law__941 : decode cL_law_ 941 = .ok (.iload 4, 2) := by decide +kernel
theorem dL_law__943 : decode cL_law_ 943 = .ok (.iconst 3, 1) := by decide +kernel
theorem dL_law__944 : decode cL_law_ 944 = .ok (.iadd, 1) := by decide +kernel
theorem dL_law__945 : decode cL_law_ 945 = .ok (.iaload, 1) := by decide +kernel
theorem dL_law__946 : decode cL_law_ 946 = .ok (.aload_n 0, 1) := by decide +kernel
theorem dL_law__947 : decode cL_law_ 947 = .ok (.iload 4, 2) := by decide +kernel
theorem dL_law__949 : decode cL_law_ 949 = .ok (.iconst 4, 1) := by decide +kernel
theorem dL_law__950 : decode cL_law_ 950 = .ok (.iadd, 1) := by decide +kernel
theorem dL_law__951 : decode cL_law_ 951 = .ok (.iaload, 1) := by decide +kernel
theorem dL_law__952 : decode cL_law_ 952 = .ok (.aload_n 0, 1) := by decide +kernel
theorem dL_law__953 : decode cL_law_ 953 = .ok (.iload 4, 2) := by decide +kernel
theorem dL_law__955 : decode cL_law_ 955 = .ok (.iconst 5, 1) := by decide +kernel
theorem dL_law__956 : decode cL_law_ 956 = .ok (.iadd, 1) := by decide +kernel
theorem dL_law__957 : decode cL_law_ 957 = .ok (.iaload, 1) := by decide +kernel
theorem dL_law__958 : decode cL_law_ 958 = .ok (.aload_n 0, 1) := by decide +kernel
theorem dL_law__959 : decode cL_law_ 959 = .ok (.iload 4, 2) := by decide +kernel
theorem dL_law__961 : decode cL_law_ 961 = .ok (.bipush 6, 2) := by decide +kernel
theorem dL_law__963 : decode cL_law_ 963 = .ok (.iadd, 1) := by decide +kernel
theorem dL_law__964 : decode cL_law_ 964 = .ok (.iaload, 1) := by decide +kernel
theorem dL_law__965 : decode cL_law_ 965 = .ok (.aload_n 0, 1) := by decide +kernel
theorem dL_law__966 : decode cL_law_ 966 = .ok (.iload 4, 2) := by decide +kernel
theorem dL_law__968 : decode cL_law_ 968 = .ok (.bipush 7, 2) := by decide +kernel
theorem dL_law__970 : decode cL_law_ 970 = .ok (.iadd, 1) := by decide +kernel
theorem dL_law__971 : decode cL_law_ 971 = .ok (.iaload, 1) := by decide +kernel
theorem dL_law__972 : decode cL_law_ 972 = .ok (.aload_n 0, 1) := by decide +kernel
theorem dL_law__973 : decode cL_law_ 973 = .ok (.iload 4, 2) := by decide +kernel
theorem dL_law__975 : decode cL_law_ 975 = .ok (.bipush 8, 2) := by decide +kernel
theorem dL_law__977 : decode cL_law_ 977 = .ok (.iadd, 1) := by decide +kernel
theorem dL_law__978 : decode cL_law_ 978 = .ok (.iaload, 1) := by decide +kernel
theorem dL_law__979 : decode cL_law_ 979 = .ok (.aload_n 3, 1) := by decide +kernel
theorem dL_law__980 : decode cL_law_ 980 = .ok (.invokestatic 161, 3) := by decide +kernel
theorem dL_law__983 : decode cL_law_ 983 = .ok (.istore 5, 2) := by decide +kernel
theorem dL_law__985 : decode cL_law_ 985 = .ok (.aload_n 2, 1) := by decide +kernel
theorem dL_law__986 : decode cL_law_ 986 = .ok (.aload_n 0, 1) := by decide +kernel
theorem dL_law__987 : decode cL_law_ 987 = .ok (.iload 4, 2) := by decide +kernel
theorem dL_law__989 : decode cL_law_ 989 = .ok (.iconst 1, 1) := by decide +kernel
theorem dL_law__990 : decode cL_law_ 990 = .ok (.iadd, 1) := by decide +kernel
theorem dL_law__991 : decode cL_law_ 991 = .ok (.iaload, 1) := by decide +kernel
theorem dL_law__992 : decode cL_law_ 992 = .ok (.aload_n 0, 1) := by decide +kernel
theorem dL_law__993 : decode cL_law_ 993 = .ok (.iload 4, 2) := by decide +kernel
theorem dL_law__995 : decode cL_law_ 995 = .ok (.iconst 2, 1) := by decide +kernel
theorem dL_law__996 : decode cL_law_ 996 = .ok (.iadd, 1) := by decide +kernel
theorem dL_law__997 : decode cL_law_ 997 = .ok (.iaload, 1) := by decide +kernel
theorem dL_law__998 : decode cL_law_ 998 = .ok (.aload_n 0, 1) := by decide +kernel
theorem dL_law__999 : decode cL_law_ 999 = .ok (.iload 4, 2) := by decide +kernel
theorem dL_law__1001 : decode cL_law_ 1001 = .ok (.iconst 3, 1) := by decide +kernel
theorem dL_law__1002 : decode cL_law_ 1002 = .ok (.iadd, 1) := by decide +kernel
theorem dL_law__1003 : decode cL_law_ 1003 = .ok (.iaload, 1) := by decide +kernel
theorem dL_law__1004 : decode cL_law_ 1004 = .ok (.aload_n 0, 1) := by decide +kernel
theorem dL_law__1005 : decode cL_law_ 1005 = .ok (.iload 4, 2) := by decide +kernel
theorem dL_law__1007 : decode cL_law_ 1007 = .ok (.iconst 4, 1) := by decide +kernel
theorem dL_law__1008 : decode cL_law_ 1008 = .ok (.iadd, 1) := by decide +kernel
theorem dL_law__1009 : decode cL_law_ 1009 = .ok (.iaload, 1) := by decide +kernel
theorem dL_law__1010 : decode cL_law_ 1010 = .ok (.aload_n 0, 1) := by decide +kernel
theorem dL_law__1011 : decode cL_law_ 1011 = .ok (.iload 4, 2) := by decide +kernel
theorem dL_law__1013 : decode cL_law_ 1013 = .ok (.iconst 5, 1) := by decide +kernel
theorem dL_law__1014 : decode cL_law_ 1014 = .ok (.iadd, 1) := by decide +kernel
theorem dL_law__1015 : decode cL_law_ 1015 = .ok (.iaload, 1) := by decide +kernel
theorem dL_law__1016 : decode cL_law_ 1016 = .ok (.aload_n 0, 1) := by decide +kernel
theorem dL_law__1017 : decode cL_law_ 1017 = .ok (.iload 4, 2) := by decide +kernel
theorem dL_law__1019 : decode cL_law_ 1019 = .ok (.bipush 6, 2) := by decide +kernel
theorem dL_law__1021 : decode cL_law_ 1021 = .ok (.iadd, 1) := by decide +kernel
theorem dL_law__1022 : decode cL_law_ 1022 = .ok (.iaload, 1) := by decide +kernel
theorem dL_law__1023 : decode cL_law_ 1023 = .ok (.aload_n 0, 1) := by decide +kernel
theorem dL_law__1024 : decode cL_law_ 1024 = .ok (.iload 4, 2) := by decide +kernel
theorem dL_law__1026 : decode cL_law_ 1026 = .ok (.bipush 7, 2) := by decide +kernel
theorem dL_law__1028 : decode cL_law_ 1028 = .ok (.iadd, 1) := by decide +kernel
theorem dL_law__1029 : decode cL_law_ 1029 = .ok (.iaload, 1) := by decide +kernel
theorem dL_law__1030 : decode cL_law_ 1030 = .ok (.aload_n 0, 1) := by decide +kernel
theorem dL_law__1031 : decode cL_law_ 1031 = .ok (.iload 4, 2) := by decide +kernel
theorem dL_law__1033 : decode cL_law_ 1033 = .ok (.bipush 8, 2) := by decide +kernel
theorem dL_law__1035 : decode cL_law_ 1035 = .ok (.iadd, 1) := by decide +kernel
theorem dL_law__1036 : decode cL_law_ 1036 = .ok (.iaload, 1) := by decide +kernel
theorem dL_law__1037 : decode cL_law_ 1037 = .ok (.invokevirtual 164, 3) := by decide +kernel
theorem dL_law__1040 : decode cL_law_ 1040 = .ok (.istore 6, 2) := by decide +kernel
theorem dL_law__1042 : decode cL_law_ 1042 = .ok (.aload_n 2, 1) := by decide +kernel
theorem dL_law__1043 : decode cL_law_ 1043 = .ok (.invokevirtual 121, 3) := by decide +kernel
theorem dL_law__1046 : decode cL_law_ 1046 = .ok (.iload 5, 2) := by decide +kernel
theorem dL_law__1048 : decode cL_law_ 1048 = .ok (.if_icmp .eq 5, 3) := by decide +kernel
theorem dL_law__1051 : decode cL_law_ 1051 = .ok (.iconst 0, 1) := by decide +kernel
theorem dL_law__1053 : decode cL_law_ 1053 = .ok (.iload 5, 2) := by decide +kernel
theorem dL_law__1055 : decode cL_law_ 1055 = .ok (.ifCond .ne 15, 3) := by decide +kernel
theorem dL_law__1058 : decode cL_law_ 1058 = .ok (.aload_n 3, 1) := by decide +kernel
theorem dL_law__1059 : decode cL_law_ 1059 = .ok (.iconst 0, 1) := by decide +kernel
theorem dL_law__1060 : decode cL_law_ 1060 = .ok (.laload, 1) := by decide +kernel
theorem dL_law__1061 : decode cL_law_ 1061 = .ok (.iload 6, 2) := by decide +kernel
theorem dL_law__1063 : decode cL_law_ 1063 = .ok (.i2l, 1) := by decide +kernel
theorem dL_law__1064 : decode cL_law_ 1064 = .ok (.lcmp, 1) := by decide +kernel
theorem dL_law__1065 : decode cL_law_ 1065 = .ok (.ifCond .eq 5, 3) := by decide +kernel
theorem dL_law__1068 : decode cL_law_ 1068 = .ok (.iconst 0, 1) := by decide +kernel
theorem dL_law__1070 : decode cL_law_ 1070 = .ok (.goto 1335, 3) := by decide +kernel
theorem dL_law__1073 : decode cL_law_ 1073 = .ok (.aload_n 1, 1) := by decide +kernel
theorem dL_law__1074 : decode cL_law_ 1074 = .ok (.aload_n 0, 1) := by decide +kernel
theorem dL_law__1075 : decode cL_law_ 1075 = .ok (.iload 4, 2) := by decide +kernel
theorem dL_law__1077 : decode cL_law_ 1077 = .ok (.iconst 1, 1) := by decide +kernel
theorem dL_law__1078 : decode cL_law_ 1078 = .ok (.iadd, 1) := by decide +kernel
theorem dL_law__1079 : decode cL_law_ 1079 = .ok (.iaload, 1) := by decide +kernel
theorem dL_law__1080 : decode cL_law_ 1080 = .ok (.aload_n 0, 1) := by decide +kernel
theorem dL_law__1081 : decode cL_law_ 1081 = .ok (.iload 4, 2) := by decide +kernel
theorem dL_law__1083 : decode cL_law_ 1083 = .ok (.iconst 2, 1) := by decide +kernel
theorem dL_law__1084 : decode cL_law_ 1084 = .ok (.iadd, 1) := by decide +kernel
theorem dL_law__1085 : decode cL_law_ 1085 = .ok (.iaload, 1) := by decide +kernel
theorem dL_law__1086 : decode cL_law_ 1086 = .ok (.aload_n 3, 1) := by decide +kernel
theorem dL_law__1087 : decode cL_law_ 1087 = .ok (.invokestatic 165, 3) := by decide +kernel
theorem dL_law__1090 : decode cL_law_ 1090 = .ok (.istore 5, 2) := by decide +kernel
theorem dL_law__1092 : decode cL_law_ 1092 = .ok (.aload_n 2, 1) := by decide +kernel
theorem dL_law__1093 : decode cL_law_ 1093 = .ok (.aload_n 0, 1) := by decide +kernel
theorem dL_law__1094 : decode cL_law_ 1094 = .ok (.iload 4, 2) := by decide +kernel
theorem dL_law__1096 : decode cL_law_ 1096 = .ok (.iconst 1, 1) := by decide +kernel
theorem dL_law__1097 : decode cL_law_ 1097 = .ok (.iadd, 1) := by decide +kernel
theorem dL_law__1098 : decode cL_law_ 1098 = .ok (.iaload, 1) := by decide +kernel
theorem dL_law__1099 : decode cL_law_ 1099 = .ok (.aload_n 0, 1) := by decide +kernel
theorem dL_law__1100 : decode cL_law_ 1100 = .ok (.iload 4, 2) := by decide +kernel
theorem dL_law__1102 : decode cL_law_ 1102 = .ok (.iconst 2, 1) := by decide +kernel
theorem dL_law__1103 : decode cL_law_ 1103 = .ok (.iadd, 1) := by decide +kernel
theorem dL_law__1104 : decode cL_law_ 1104 = .ok (.iaload, 1) := by decide +kernel
theorem dL_law__1105 : decode cL_law_ 1105 = .ok (.invokevirtual 167, 3) := by decide +kernel
theorem dL_law__1108 : decode cL_law_ 1108 = .ok (.istore 6, 2) := by decide +kernel
theorem dL_law__1110 : decode cL_law_ 1110 = .ok (.aload_n 2, 1) := by decide +kernel
theorem dL_law__1111 : decode cL_law_ 1111 = .ok (.invokevirtual 121, 3) := by decide +kernel
theorem dL_law__1114 : decode cL_law_ 1114 = .ok (.iload 5, 2) := by decide +kernel
theorem dL_law__1116 : decode cL_law_ 1116 = .ok (.if_icmp .eq 5, 3) := by decide +kernel
theorem dL_law__1121 : decode cL_law_ 1121 = .ok (.iload 5, 2) := by decide +kernel
theorem dL_law__1123 : decode cL_law_ 1123 = .ok (.ifCond .ne 22, 3) := by decide +kernel
theorem dL_law__1145 : decode cL_law_ 1145 = .ok (.goto 1260, 3) := by decide +kernel
theorem dL_law__1148 : decode cL_law_ 1148 = .ok (.aload_n 1, 1) := by decide +kernel
theorem dL_law__1149 : decode cL_law_ 1149 = .ok (.aload_n 0, 1) := by decide +kernel
theorem dL_law__1150 : decode cL_law_ 1150 = .ok (.iload 4, 2) := by decide +kernel
theorem dL_law__1152 : decode cL_law_ 1152 = .ok (.iconst 1, 1) := by decide +kernel
theorem dL_law__1153 : decode cL_law_ 1153 = .ok (.iadd, 1) := by decide +kernel
theorem dL_law__1154 : decode cL_law_ 1154 = .ok (.iaload, 1) := by decide +kernel
theorem dL_law__1155 : decode cL_law_ 1155 = .ok (.aload_n 0, 1) := by decide +kernel
theorem dL_law__1156 : decode cL_law_ 1156 = .ok (.iload 4, 2) := by decide +kernel
theorem dL_law__1158 : decode cL_law_ 1158 = .ok (.iconst 2, 1) := by decide +kernel
theorem dL_law__1159 : decode cL_law_ 1159 = .ok (.iadd, 1) := by decide +kernel
theorem dL_law__1160 : decode cL_law_ 1160 = .ok (.iaload, 1) := by decide +kernel
theorem dL_law__1161 : decode cL_law_ 1161 = .ok (.aload_n 3, 1) := by decide +kernel
theorem dL_law__1162 : decode cL_law_ 1162 = .ok (.invokestatic 168, 3) := by decide +kernel
theorem dL_law__1165 : decode cL_law_ 1165 = .ok (.istore 5, 2) := by decide +kernel
theorem dL_law__1167 : decode cL_law_ 1167 = .ok (.aload_n 2, 1) := by decide +kernel
theorem dL_law__1168 : decode cL_law_ 1168 = .ok (.aload_n 0, 1) := by decide +kernel
theorem dL_law__1169 : decode cL_law_ 1169 = .ok (.iload 4, 2) := by decide +kernel
theorem dL_law__1171 : decode cL_law_ 1171 = .ok (.iconst 1, 1) := by decide +kernel
theorem dL_law__1172 : decode cL_law_ 1172 = .ok (.iadd, 1) := by decide +kernel
theorem dL_law__1173 : decode cL_law_ 1173 = .ok (.iaload, 1) := by decide +kernel
theorem dL_law__1174 : decode cL_law_ 1174 = .ok (.aload_n 0, 1) := by decide +kernel
theorem dL_law__1175 : decode cL_law_ 1175 = .ok (.iload 4, 2) := by decide +kernel
theorem dL_law__1177 : decode cL_law_ 1177 = .ok (.iconst 2, 1) := by decide +kernel
theorem dL_law__1178 : decode cL_law_ 1178 = .ok (.iadd, 1) := by decide +kernel
theorem dL_law__1179 : decode cL_law_ 1179 = .ok (.iaload, 1) := by decide +kernel
theorem dL_law__1180 : decode cL_law_ 1180 = .ok (.invokevirtual 170, 3) := by decide +kernel
theorem dL_law__1183 : decode cL_law_ 1183 = .ok (.istore 6, 2) := by decide +kernel
theorem dL_law__1185 : decode cL_law_ 1185 = .ok (.aload_n 2, 1) := by decide +kernel
theorem dL_law__1186 : decode cL_law_ 1186 = .ok (.invokevirtual 121, 3) := by decide +kernel
theorem dL_law__1189 : decode cL_law_ 1189 = .ok (.iload 5, 2) := by decide +kernel
theorem dL_law__1191 : decode cL_law_ 1191 = .ok (.if_icmp .eq 5, 3) := by decide +kernel
theorem dL_law__1194 : decode cL_law_ 1194 = .ok (.iconst 0, 1) := by decide +kernel
theorem dL_law__1196 : decode cL_law_ 1196 = .ok (.iload 5, 2) := by decide +kernel
theorem dL_law__1198 : decode cL_law_ 1198 = .ok (.ifCond .ne 15, 3) := by decide +kernel
theorem dL_law__1201 : decode cL_law_ 1201 = .ok (.aload_n 3, 1) := by decide +kernel
theorem dL_law__1202 : decode cL_law_ 1202 = .ok (.iconst 0, 1) := by decide +kernel
theorem dL_law__1203 : decode cL_law_ 1203 = .ok (.laload, 1) := by decide +kernel
theorem dL_law__1204 : decode cL_law_ 1204 = .ok (.iload 6, 2) := by decide +kernel
theorem dL_law__1206 : decode cL_law_ 1206 = .ok (.i2l, 1) := by decide +kernel
theorem dL_law__1207 : decode cL_law_ 1207 = .ok (.lcmp, 1) := by decide +kernel
theorem dL_law__1208 : decode cL_law_ 1208 = .ok (.ifCond .eq 5, 3) := by decide +kernel
theorem dL_law__1211 : decode cL_law_ 1211 = .ok (.iconst 0, 1) := by decide +kernel
theorem dL_law__1213 : decode cL_law_ 1213 = .ok (.goto 1192, 3) := by decide +kernel
theorem dL_law__1216 : decode cL_law_ 1216 = .ok (.aload_n 1, 1) := by decide +kernel
theorem dL_law__1217 : decode cL_law_ 1217 = .ok (.aload_n 0, 1) := by decide +kernel
theorem dL_law__1218 : decode cL_law_ 1218 = .ok (.iload 4, 2) := by decide +kernel
theorem dL_law__1220 : decode cL_law_ 1220 = .ok (.iconst 1, 1) := by decide +kernel
theorem dL_law__1221 : decode cL_law_ 1221 = .ok (.iadd, 1) := by decide +kernel
theorem dL_law__1222 : decode cL_law_ 1222 = .ok (.iaload, 1) := by decide +kernel
theorem dL_law__1223 : decode cL_law_ 1223 = .ok (.aload_n 0, 1) := by decide +kernel
theorem dL_law__1224 : decode cL_law_ 1224 = .ok (.iload 4, 2) := by decide +kernel
theorem dL_law__1226 : decode cL_law_ 1226 = .ok (.iconst 2, 1) := by decide +kernel
theorem dL_law__1227 : decode cL_law_ 1227 = .ok (.iadd, 1) := by decide +kernel
theorem dL_law__1228 : decode cL_law_ 1228 = .ok (.iaload, 1) := by decide +kernel
theorem dL_law__1229 : decode cL_law_ 1229 = .ok (.aload_n 3, 1) := by decide +kernel
theorem dL_law__1230 : decode cL_law_ 1230 = .ok (.invokestatic 171, 3) := by decide +kernel
theorem dL_law__1233 : decode cL_law_ 1233 = .ok (.istore 5, 2) := by decide +kernel
theorem dL_law__1235 : decode cL_law_ 1235 = .ok (.aload_n 2, 1) := by decide +kernel
theorem dL_law__1236 : decode cL_law_ 1236 = .ok (.aload_n 0, 1) := by decide +kernel
theorem dL_law__1237 : decode cL_law_ 1237 = .ok (.iload 4, 2) := by decide +kernel
theorem dL_law__1239 : decode cL_law_ 1239 = .ok (.iconst 1, 1) := by decide +kernel
theorem dL_law__1240 : decode cL_law_ 1240 = .ok (.iadd, 1) := by decide +kernel
theorem dL_law__1241 : decode cL_law_ 1241 = .ok (.iaload, 1) := by decide +kernel
theorem dL_law__1242 : decode cL_law_ 1242 = .ok (.aload_n 0, 1) := by decide +kernel
theorem dL_law__1243 : decode cL_law_ 1243 = .ok (.iload 4, 2) := by decide +kernel
theorem dL_law__1245 : decode cL_law_ 1245 = .ok (.iconst 2, 1) := by decide +kernel
theorem dL_law__1246 : decode cL_law_ 1246 = .ok (.iadd, 1) := by decide +kernel
theorem dL_law__1247 : decode cL_law_ 1247 = .ok (.iaload, 1) := by decide +kernel
theorem dL_law__1248 : decode cL_law_ 1248 = .ok (.invokevirtual 173, 3) := by decide +kernel
theorem dL_law__1251 : decode cL_law_ 1251 = .ok (.istore 6, 2) := by decide +kernel
theorem dL_law__1253 : decode cL_law_ 1253 = .ok (.aload_n 2, 1) := by decide +kernel
theorem dL_law__1254 : decode cL_law_ 1254 = .ok (.invokevirtual 121, 3) := by decide +kernel
theorem dL_law__1257 : decode cL_law_ 1257 = .ok (.iload 5, 2) := by decide +kernel
theorem dL_law__1259 : decode cL_law_ 1259 = .ok (.if_icmp .eq 5, 3) := by decide +kernel
theorem dL_law__1264 : decode cL_law_ 1264 = .ok (.iload 5, 2) := by decide +kernel
theorem dL_law__1266 : decode cL_law_ 1266 = .ok (.ifCond .ne 15, 3) := by decide +kernel
theorem dL_law__1281 : decode cL_law_ 1281 = .ok (.goto 1124, 3) := by decide +kernel
theorem dL_law__1284 : decode cL_law_ 1284 = .ok (.aload_n 1, 1) := by decide +kernel
theorem dL_law__1285 : decode cL_law_ 1285 = .ok (.invokevirtual 174, 3) := by decide +kernel
theorem dL_law__1288 : decode cL_law_ 1288 = .ok (.aload_n 2, 1) := by decide +kernel
theorem dL_law__1289 : decode cL_law_ 1289 = .ok (.invokevirtual 177, 3) := by decide +kernel
theorem dL_law__1292 : decode cL_law_ 1292 = .ok (.if_icmp .eq 1113, 3) := by decide +kernel
theorem dL_law__1297 : decode cL_law_ 1297 = .ok (.aload_n 1, 1) := by decide +kernel
theorem dL_law__1298 : decode cL_law_ 1298 = .ok (.aload_n 0, 1) := by decide +kernel
theorem dL_law__1299 : decode cL_law_ 1299 = .ok (.iload 4, 2) := by decide +kernel
theorem dL_law__1301 : decode cL_law_ 1301 = .ok (.iconst 1, 1) := by decide +kernel
theorem dL_law__1302 : decode cL_law_ 1302 = .ok (.iadd, 1) := by decide +kernel
theorem dL_law__1303 : decode cL_law_ 1303 = .ok (.iaload, 1) := by decide +kernel
theorem dL_law__1304 : decode cL_law_ 1304 = .ok (.aload_n 3, 1) := by decide +kernel
theorem dL_law__1305 : decode cL_law_ 1305 = .ok (.invokestatic 178, 3) := by decide +kernel
theorem dL_law__1308 : decode cL_law_ 1308 = .ok (.istore 5, 2) := by decide +kernel
theorem dL_law__1310 : decode cL_law_ 1310 = .ok (.aload_n 2, 1) := by decide +kernel
theorem dL_law__1311 : decode cL_law_ 1311 = .ok (.aload_n 0, 1) := by decide +kernel
theorem dL_law__1312 : decode cL_law_ 1312 = .ok (.iload 4, 2) := by decide +kernel
theorem dL_law__1314 : decode cL_law_ 1314 = .ok (.iconst 1, 1) := by decide +kernel
theorem dL_law__1315 : decode cL_law_ 1315 = .ok (.iadd, 1) := by decide +kernel
theorem dL_law__1316 : decode cL_law_ 1316 = .ok (.iaload, 1) := by decide +kernel
theorem dL_law__1317 : decode cL_law_ 1317 = .ok (.invokevirtual 180, 3) := by decide +kernel
theorem dL_law__1320 : decode cL_law_ 1320 = .ok (.istore 6, 2) := by decide +kernel
theorem dL_law__1322 : decode cL_law_ 1322 = .ok (.aload_n 2, 1) := by decide +kernel
theorem dL_law__1323 : decode cL_law_ 1323 = .ok (.invokevirtual 121, 3) := by decide +kernel
theorem dL_law__1326 : decode cL_law_ 1326 = .ok (.iload 5, 2) := by decide +kernel
theorem dL_law__1328 : decode cL_law_ 1328 = .ok (.if_icmp .eq 5, 3) := by decide +kernel
theorem dL_law__1333 : decode cL_law_ 1333 = .ok (.iload 5, 2) := by decide +kernel
theorem dL_law__1335 : decode cL_law_ 1335 = .ok (.ifCond .ne 15, 3) := by decide +kernel
theorem dL_law__1350 : decode cL_law_ 1350 = .ok (.goto 1055, 3) := by decide +kernel
theorem dL_law__1353 : decode cL_law_ 1353 = .ok (.aload_n 1, 1) := by decide +kernel
theorem dL_law__1354 : decode cL_law_ 1354 = .ok (.invokevirtual 181, 3) := by decide +kernel
theorem dL_law__1357 : decode cL_law_ 1357 = .ok (.aload_n 2, 1) := by decide +kernel
theorem dL_law__1358 : decode cL_law_ 1358 = .ok (.invokevirtual 184, 3) := by decide +kernel
theorem dL_law__1361 : decode cL_law_ 1361 = .ok (.if_icmp .eq 1044, 3) := by decide +kernel
theorem dL_law__1366 : decode cL_law_ 1366 = .ok (.aload_n 1, 1) := by decide +kernel
theorem dL_law__1367 : decode cL_law_ 1367 = .ok (.aload_n 0, 1) := by decide +kernel
theorem dL_law__1368 : decode cL_law_ 1368 = .ok (.iload 4, 2) := by decide +kernel
theorem dL_law__1370 : decode cL_law_ 1370 = .ok (.iconst 1, 1) := by decide +kernel
theorem dL_law__1371 : decode cL_law_ 1371 = .ok (.iadd, 1) := by decide +kernel
theorem dL_law__1372 : decode cL_law_ 1372 = .ok (.iaload, 1) := by decide +kernel
theorem dL_law__1373 : decode cL_law_ 1373 = .ok (.aload_n 3, 1) := by decide +kernel
theorem dL_law__1374 : decode cL_law_ 1374 = .ok (.invokestatic 185, 3) := by decide +kernel
theorem dL_law__1377 : decode cL_law_ 1377 = .ok (.istore 5, 2) := by decide +kernel
theorem dL_law__1379 : decode cL_law_ 1379 = .ok (.aload_n 2, 1) := by decide +kernel
theorem dL_law__1380 : decode cL_law_ 1380 = .ok (.aload_n 0, 1) := by decide +kernel
theorem dL_law__1381 : decode cL_law_ 1381 = .ok (.iload 4, 2) := by decide +kernel
theorem dL_law__1383 : decode cL_law_ 1383 = .ok (.iconst 1, 1) := by decide +kernel
theorem dL_law__1384 : decode cL_law_ 1384 = .ok (.iadd, 1) := by decide +kernel
theorem dL_law__1385 : decode cL_law_ 1385 = .ok (.iaload, 1) := by decide +kernel
theorem dL_law__1386 : decode cL_law_ 1386 = .ok (.invokevirtual 187, 3) := by decide +kernel
theorem dL_law__1389 : decode cL_law_ 1389 = .ok (.istore 6, 2) := by decide +kernel
theorem dL_law__1391 : decode cL_law_ 1391 = .ok (.aload_n 2, 1) := by decide +kernel
theorem dL_law__1392 : decode cL_law_ 1392 = .ok (.invokevirtual 121, 3) := by decide +kernel
theorem dL_law__1395 : decode cL_law_ 1395 = .ok (.iload 5, 2) := by decide +kernel
theorem dL_law__1397 : decode cL_law_ 1397 = .ok (.if_icmp .eq 5, 3) := by decide +kernel
theorem dL_law__1400 : decode cL_law_ 1400 = .ok (.iconst 0, 1) := by decide +kernel
theorem dL_law__1402 : decode cL_law_ 1402 = .ok (.iload 5, 2) := by decide +kernel
theorem dL_law__1404 : decode cL_law_ 1404 = .ok (.ifCond .ne 15, 3) := by decide +kernel
theorem dL_law__1407 : decode cL_law_ 1407 = .ok (.aload_n 3, 1) := by decide +kernel
theorem dL_law__1408 : decode cL_law_ 1408 = .ok (.iconst 0, 1) := by decide +kernel
theorem dL_law__1409 : decode cL_law_ 1409 = .ok (.laload, 1) := by decide +kernel
theorem dL_law__1410 : decode cL_law_ 1410 = .ok (.iload 6, 2) := by decide +kernel
theorem dL_law__1412 : decode cL_law_ 1412 = .ok (.i2l, 1) := by decide +kernel
theorem dL_law__1413 : decode cL_law_ 1413 = .ok (.lcmp, 1) := by decide +kernel
theorem dL_law__1414 : decode cL_law_ 1414 = .ok (.ifCond .eq 5, 3) := by decide +kernel
theorem dL_law__1417 : decode cL_law_ 1417 = .ok (.iconst 0, 1) := by decide +kernel
theorem dL_law__1419 : decode cL_law_ 1419 = .ok (.goto 986, 3) := by decide +kernel
theorem dL_law__1422 : decode cL_law_ 1422 = .ok (.aload_n 1, 1) := by decide +kernel
theorem dL_law__1423 : decode cL_law_ 1423 = .ok (.aload_n 0, 1) := by decide +kernel
theorem dL_law__1424 : decode cL_law_ 1424 = .ok (.iload 4, 2) := by decide +kernel
theorem dL_law__1426 : decode cL_law_ 1426 = .ok (.iconst 1, 1) := by decide +kernel
theorem dL_law__1427 : decode cL_law_ 1427 = .ok (.iadd, 1) := by decide +kernel
theorem dL_law__1428 : decode cL_law_ 1428 = .ok (.iaload, 1) := by decide +kernel
theorem dL_law__1429 : decode cL_law_ 1429 = .ok (.aload_n 3, 1) := by decide +kernel
theorem dL_law__1430 : decode cL_law_ 1430 = .ok (.invokestatic 188, 3) := by decide +kernel
theorem dL_law__1433 : decode cL_law_ 1433 = .ok (.istore 5, 2) := by decide +kernel
theorem dL_law__1435 : decode cL_law_ 1435 = .ok (.aload_n 2, 1) := by decide +kernel
theorem dL_law__1436 : decode cL_law_ 1436 = .ok (.aload_n 0, 1) := by decide +kernel
theorem dL_law__1437 : decode cL_law_ 1437 = .ok (.iload 4, 2) := by decide +kernel
theorem dL_law__1439 : decode cL_law_ 1439 = .ok (.iconst 1, 1) := by decide +kernel
theorem dL_law__1440 : decode cL_law_ 1440 = .ok (.iadd, 1) := by decide +kernel
theorem dL_law__1441 : decode cL_law_ 1441 = .ok (.iaload, 1) := by decide +kernel
theorem dL_law__1442 : decode cL_law_ 1442 = .ok (.invokevirtual 190, 3) := by decide +kernel
theorem dL_law__1445 : decode cL_law_ 1445 = .ok (.istore 6, 2) := by decide +kernel
theorem dL_law__1447 : decode cL_law_ 1447 = .ok (.aload_n 2, 1) := by decide +kernel
theorem dL_law__1448 : decode cL_law_ 1448 = .ok (.invokevirtual 121, 3) := by decide +kernel
theorem dL_law__1451 : decode cL_law_ 1451 = .ok (.iload 5, 2) := by decide +kernel
theorem dL_law__1453 : decode cL_law_ 1453 = .ok (.if_icmp .eq 5, 3) := by decide +kernel
theorem dL_law__1458 : decode cL_law_ 1458 = .ok (.iload 5, 2) := by decide +kernel
theorem dL_law__1460 : decode cL_law_ 1460 = .ok (.ifCond .ne 15, 3) := by decide +kernel
theorem dL_law__1475 : decode cL_law_ 1475 = .ok (.goto 930, 3) := by decide +kernel
theorem dL_law__1478 : decode cL_law_ 1478 = .ok (.aload_n 1, 1) := by decide +kernel
theorem dL_law__1479 : decode cL_law_ 1479 = .ok (.aload_n 0, 1) := by decide +kernel
theorem dL_law__1480 : decode cL_law_ 1480 = .ok (.iload 4, 2) := by decide +kernel
theorem dL_law__1482 : decode cL_law_ 1482 = .ok (.iconst 1, 1) := by decide +kernel
theorem dL_law__1483 : decode cL_law_ 1483 = .ok (.iadd, 1) := by decide +kernel
theorem dL_law__1484 : decode cL_law_ 1484 = .ok (.iaload, 1) := by decide +kernel
theorem dL_law__1485 : decode cL_law_ 1485 = .ok (.aload_n 3, 1) := by decide +kernel
theorem dL_law__1486 : decode cL_law_ 1486 = .ok (.invokestatic 191, 3) := by decide +kernel
theorem dL_law__1489 : decode cL_law_ 1489 = .ok (.istore 5, 2) := by decide +kernel
theorem dL_law__1491 : decode cL_law_ 1491 = .ok (.aload_n 2, 1) := by decide +kernel
theorem dL_law__1492 : decode cL_law_ 1492 = .ok (.aload_n 0, 1) := by decide +kernel
theorem dL_law__1493 : decode cL_law_ 1493 = .ok (.iload 4, 2) := by decide +kernel
theorem dL_law__1495 : decode cL_law_ 1495 = .ok (.iconst 1, 1) := by decide +kernel
theorem dL_law__1496 : decode cL_law_ 1496 = .ok (.iadd, 1) := by decide +kernel
theorem dL_law__1497 : decode cL_law_ 1497 = .ok (.iaload, 1) := by decide +kernel
theorem dL_law__1498 : decode cL_law_ 1498 = .ok (.invokevirtual 193, 3) := by decide +kernel
theorem dL_law__1501 : decode cL_law_ 1501 = .ok (.istore 6, 2) := by decide +kernel
theorem dL_law__1503 : decode cL_law_ 1503 = .ok (.aload_n 2, 1) := by decide +kernel
theorem dL_law__1504 : decode cL_law_ 1504 = .ok (.invokevirtual 121, 3) := by decide +kernel
theorem dL_law__1507 : decode cL_law_ 1507 = .ok (.iload 5, 2) := by decide +kernel
theorem dL_law__1509 : decode cL_law_ 1509 = .ok (.if_icmp .eq 5, 3) := by decide +kernel
theorem dL_law__1512 : decode cL_law_ 1512 = .ok (.iconst 0, 1) := by decide +kernel
theorem dL_law__1514 : decode cL_law_ 1514 = .ok (.iload 5, 2) := by decide +kernel
theorem dL_law__1516 : decode cL_law_ 1516 = .ok (.ifCond .ne 15, 3) := by decide +kernel
theorem dL_law__1519 : decode cL_law_ 1519 = .ok (.aload_n 3, 1) := by decide +kernel
theorem dL_law__1520 : decode cL_law_ 1520 = .ok (.iconst 0, 1) := by decide +kernel
theorem dL_law__1521 : decode cL_law_ 1521 = .ok (.laload, 1) := by decide +kernel
theorem dL_law__1522 : decode cL_law_ 1522 = .ok (.iload 6, 2) := by decide +kernel
theorem dL_law__1524 : decode cL_law_ 1524 = .ok (.i2l, 1) := by decide +kernel
theorem dL_law__1525 : decode cL_law_ 1525 = .ok (.lcmp, 1) := by decide +kernel
theorem dL_law__1526 : decode cL_law_ 1526 = .ok (.ifCond .eq 5, 3) := by decide +kernel
theorem dL_law__1529 : decode cL_law_ 1529 = .ok (.iconst 0, 1) := by decide +kernel
theorem dL_law__1531 : decode cL_law_ 1531 = .ok (.goto 874, 3) := by decide +kernel
theorem dL_law__1534 : decode cL_law_ 1534 = .ok (.aload_n 1, 1) := by decide +kernel
theorem dL_law__1535 : decode cL_law_ 1535 = .ok (.aload_n 0, 1) := by decide +kernel
theorem dL_law__1536 : decode cL_law_ 1536 = .ok (.iload 4, 2) := by decide +kernel
theorem dL_law__1538 : decode cL_law_ 1538 = .ok (.iconst 1, 1) := by decide +kernel
theorem dL_law__1539 : decode cL_law_ 1539 = .ok (.iadd, 1) := by decide +kernel
theorem dL_law__1540 : decode cL_law_ 1540 = .ok (.iaload, 1) := by decide +kernel
theorem dL_law__1541 : decode cL_law_ 1541 = .ok (.aload_n 3, 1) := by decide +kernel
theorem dL_law__1542 : decode cL_law_ 1542 = .ok (.invokestatic 194, 3) := by decide +kernel
theorem dL_law__1545 : decode cL_law_ 1545 = .ok (.istore 5, 2) := by decide +kernel
theorem dL_law__1547 : decode cL_law_ 1547 = .ok (.aload_n 2, 1) := by decide +kernel
theorem dL_law__1548 : decode cL_law_ 1548 = .ok (.aload_n 0, 1) := by decide +kernel
theorem dL_law__1549 : decode cL_law_ 1549 = .ok (.iload 4, 2) := by decide +kernel
theorem dL_law__1551 : decode cL_law_ 1551 = .ok (.iconst 1, 1) := by decide +kernel
theorem dL_law__1552 : decode cL_law_ 1552 = .ok (.iadd, 1) := by decide +kernel
theorem dL_law__1553 : decode cL_law_ 1553 = .ok (.iaload, 1) := by decide +kernel
theorem dL_law__1554 : decode cL_law_ 1554 = .ok (.invokevirtual 196, 3) := by decide +kernel
theorem dL_law__1557 : decode cL_law_ 1557 = .ok (.istore 6, 2) := by decide +kernel
theorem dL_law__1559 : decode cL_law_ 1559 = .ok (.aload_n 2, 1) := by decide +kernel
theorem dL_law__1560 : decode cL_law_ 1560 = .ok (.invokevirtual 121, 3) := by decide +kernel
theorem dL_law__1563 : decode cL_law_ 1563 = .ok (.iload 5, 2) := by decide +kernel
theorem dL_law__1565 : decode cL_law_ 1565 = .ok (.if_icmp .eq 5, 3) := by decide +kernel
theorem dL_law__1568 : decode cL_law_ 1568 = .ok (.iconst 0, 1) := by decide +kernel
theorem dL_law__1570 : decode cL_law_ 1570 = .ok (.iload 5, 2) := by decide +kernel
theorem dL_law__1572 : decode cL_law_ 1572 = .ok (.ifCond .ne 15, 3) := by decide +kernel
theorem dL_law__1575 : decode cL_law_ 1575 = .ok (.aload_n 3, 1) := by decide +kernel
theorem dL_law__1576 : decode cL_law_ 1576 = .ok (.iconst 0, 1) := by decide +kernel
theorem dL_law__1577 : decode cL_law_ 1577 = .ok (.laload, 1) := by decide +kernel
theorem dL_law__1578 : decode cL_law_ 1578 = .ok (.iload 6, 2) := by decide +kernel
theorem dL_law__1580 : decode cL_law_ 1580 = .ok (.i2l, 1) := by decide +kernel
theorem dL_law__1581 : decode cL_law_ 1581 = .ok (.lcmp, 1) := by decide +kernel
theorem dL_law__1582 : decode cL_law_ 1582 = .ok (.ifCond .eq 5, 3) := by decide +kernel
theorem dL_law__1585 : decode cL_law_ 1585 = .ok (.iconst 0, 1) := by decide +kernel
theorem dL_law__1587 : decode cL_law_ 1587 = .ok (.goto 818, 3) := by decide +kernel
theorem dL_law__1590 : decode cL_law_ 1590 = .ok (.aload_n 1, 1) := by decide +kernel
theorem dL_law__1591 : decode cL_law_ 1591 = .ok (.aload_n 0, 1) := by decide +kernel
theorem dL_law__1592 : decode cL_law_ 1592 = .ok (.iload 4, 2) := by decide +kernel
theorem dL_law__1594 : decode cL_law_ 1594 = .ok (.iconst 1, 1) := by decide +kernel
theorem dL_law__1595 : decode cL_law_ 1595 = .ok (.iadd, 1) := by decide +kernel
theorem dL_law__1596 : decode cL_law_ 1596 = .ok (.iaload, 1) := by decide +kernel
theorem dL_law__1597 : decode cL_law_ 1597 = .ok (.aload_n 3, 1) := by decide +kernel
theorem dL_law__1598 : decode cL_law_ 1598 = .ok (.invokestatic 197, 3) := by decide +kernel
theorem dL_law__1601 : decode cL_law_ 1601 = .ok (.istore 5, 2) := by decide +kernel
theorem dL_law__1603 : decode cL_law_ 1603 = .ok (.aload_n 2, 1) := by decide +kernel
theorem dL_law__1604 : decode cL_law_ 1604 = .ok (.aload_n 0, 1) := by decide +kernel
theorem dL_law__1605 : decode cL_law_ 1605 = .ok (.iload 4, 2) := by decide +kernel
theorem dL_law__1607 : decode cL_law_ 1607 = .ok (.iconst 1, 1) := by decide +kernel
theorem dL_law__1608 : decode cL_law_ 1608 = .ok (.iadd, 1) := by decide +kernel
theorem dL_law__1609 : decode cL_law_ 1609 = .ok (.iaload, 1) := by decide +kernel
theorem dL_law__1610 : decode cL_law_ 1610 = .ok (.invokevirtual 199, 3) := by decide +kernel
theorem dL_law__1613 : decode cL_law_ 1613 = .ok (.istore 6, 2) := by decide +kernel
theorem dL_law__1615 : decode cL_law_ 1615 = .ok (.aload_n 2, 1) := by decide +kernel
theorem dL_law__1616 : decode cL_law_ 1616 = .ok (.invokevirtual 121, 3) := by decide +kernel
theorem dL_law__1619 : decode cL_law_ 1619 = .ok (.iload 5, 2) := by decide +kernel
theorem dL_law__1621 : decode cL_law_ 1621 = .ok (.if_icmp .eq 5, 3) := by decide +kernel
theorem dL_law__1624 : decode cL_law_ 1624 = .ok (.iconst 0, 1) := by decide +kernel
theorem dL_law__1626 : decode cL_law_ 1626 = .ok (.iload 5, 2) := by decide +kernel
theorem dL_law__1628 : decode cL_law_ 1628 = .ok (.ifCond .ne 15, 3) := by decide +kernel
theorem dL_law__1631 : decode cL_law_ 1631 = .ok (.aload_n 3, 1) := by decide +kernel
theorem dL_law__1632 : decode cL_law_ 1632 = .ok (.iconst 0, 1) := by decide +kernel
theorem dL_law__1633 : decode cL_law_ 1633 = .ok (.laload, 1) := by decide +kernel
theorem dL_law__1634 : decode cL_law_ 1634 = .ok (.iload 6, 2) := by decide +kernel
theorem dL_law__1636 : decode cL_law_ 1636 = .ok (.i2l, 1) := by decide +kernel
theorem dL_law__1637 : decode cL_law_ 1637 = .ok (.lcmp, 1) := by decide +kernel
theorem dL_law__1638 : decode cL_law_ 1638 = .ok (.ifCond .eq 5, 3) := by decide +kernel
theorem dL_law__1643 : decode cL_law_ 1643 = .ok (.goto 762, 3) := by decide +kernel
theorem dL_law__1646 : decode cL_law_ 1646 = .ok (.aload_n 1, 1) := by decide +kernel
theorem dL_law__1647 : decode cL_law_ 1647 = .ok (.aload_n 0, 1) := by decide +kernel
theorem dL_law__1648 : decode cL_law_ 1648 = .ok (.iload 4, 2) := by decide +kernel
theorem dL_law__1650 : decode cL_law_ 1650 = .ok (.iconst 1, 1) := by decide +kernel
theorem dL_law__1651 : decode cL_law_ 1651 = .ok (.iadd, 1) := by decide +kernel
theorem dL_law__1652 : decode cL_law_ 1652 = .ok (.iaload, 1) := by decide +kernel
theorem dL_law__1653 : decode cL_law_ 1653 = .ok (.aload_n 0, 1) := by decide +kernel
theorem dL_law__1654 : decode cL_law_ 1654 = .ok (.iload 4, 2) := by decide +kernel
theorem dL_law__1656 : decode cL_law_ 1656 = .ok (.iconst 2, 1) := by decide +kernel
theorem dL_law__1657 : decode cL_law_ 1657 = .ok (.iadd, 1) := by decide +kernel
theorem dL_law__1658 : decode cL_law_ 1658 = .ok (.iaload, 1) := by decide +kernel
theorem dL_law__1659 : decode cL_law_ 1659 = .ok (.aload_n 0, 1) := by decide +kernel
theorem dL_law__1660 : decode cL_law_ 1660 = .ok (.iload 4, 2) := by decide +kernel
theorem dL_law__1662 : decode cL_law_ 1662 = .ok (.iconst 3, 1) := by decide +kernel
theorem dL_law__1663 : decode cL_law_ 1663 = .ok (.iadd, 1) := by decide +kernel
theorem dL_law__1664 : decode cL_law_ 1664 = .ok (.iaload, 1) := by decide +kernel
theorem dL_law__1665 : decode cL_law_ 1665 = .ok (.aload_n 0, 1) := by decide +kernel
theorem dL_law__1666 : decode cL_law_ 1666 = .ok (.iload 4, 2) := by decide +kernel
theorem dL_law__1668 : decode cL_law_ 1668 = .ok (.iconst 4, 1) := by decide +kernel
theorem dL_law__1669 : decode cL_law_ 1669 = .ok (.iadd, 1) := by decide +kernel
theorem dL_law__1670 : decode cL_law_ 1670 = .ok (.iaload, 1) := by decide +kernel
theorem dL_law__1671 : decode cL_law_ 1671 = .ok (.aload_n 3, 1) := by decide +kernel
theorem dL_law__1672 : decode cL_law_ 1672 = .ok (.invokestatic 200, 3) := by decide +kernel
