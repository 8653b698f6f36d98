/-! rows of the law -/
section
variable {d : Nat} {Q : XO → Hp → Prop} {S : SH} {I : MI} {L : ML} {R : MR} {G : MG} {A : Hp} {st : List Value} {x y z x0 x1 x2 x3 x4 x5 x6 x7 x8 x9 : Int32} {lx ly l0 l1 l2 l3 l4 l5 l6 : Int64} {t kk jj a b a0 a1 a2 a3 a4 a5 a6 a7 a8 a9 : Nat} {o o0 o1 o2 o3 o4 : Option Nat} {v0 v1 v2 v3 v4 v5 v6 v7 v8 v9 v10 v11 v12 v13 v14 v15 v16 v17 v18 v19 v20 : Option Value}
theorem i_268_898 : t_ins 268 898 = some (.iadd) := by decide +kernel
theorem i_268_899 : t_ins 268 899 = some (.iaload) := by decide +kernel
theorem i_268_900 : t_ins 268 900 = some (.aload_n 0) := by decide +kernel
theorem i_268_901 : t_ins 268 901 = some (.iload 4) := by decide +kernel
theorem i_268_903 : t_ins 268 903 = some (.iconst 3) := by decide +kernel
theorem i_268_904 : t_ins 268 904 = some (.iadd) := by decide +kernel
theorem i_268_905 : t_ins 268 905 = some (.iaload) := by decide +kernel
theorem i_268_906 : t_ins 268 906 = some (.aload_n 3) := by decide +kernel
theorem i_268_907 : t_ins 268 907 = some (.invokestatic 156) := by decide +kernel
theorem i_268_910 : t_ins 268 910 = some (.istore 5) := by decide +kernel
theorem i_268_912 : t_ins 268 912 = some (.aload_n 2) := by decide +kernel
theorem i_268_913 : t_ins 268 913 = some (.aload_n 0) := by decide +kernel
theorem i_268_914 : t_ins 268 914 = some (.iload 4) := by decide +kernel
theorem i_268_916 : t_ins 268 916 = some (.iconst 1) := by decide +kernel
theorem i_268_917 : t_ins 268 917 = some (.iadd) := by decide +kernel
theorem i_268_918 : t_ins 268 918 = some (.iaload) := by decide +kernel
theorem i_268_919 : t_ins 268 919 = some (.aload_n 0) := by decide +kernel
theorem i_268_920 : t_ins 268 920 = some (.iload 4) := by decide +kernel
theorem i_268_922 : t_ins 268 922 = some (.iconst 2) := by decide +kernel
theorem i_268_923 : t_ins 268 923 = some (.iadd) := by decide +kernel
theorem i_268_924 : t_ins 268 924 = some (.iaload) := by decide +kernel
theorem i_268_925 : t_ins 268 925 = some (.aload_n 0) := by decide +kernel
theorem i_268_926 : t_ins 268 926 = some (.iload 4) := by decide +kernel
theorem i_268_928 : t_ins 268 928 = some (.iconst 3) := by decide +kernel
theorem i_268_929 : t_ins 268 929 = some (.iadd) := by decide +kernel
theorem i_268_930 : t_ins 268 930 = some (.iaload) := by decide +kernel
theorem i_268_931 : t_ins 268 931 = some (.invokevirtual 158) := by decide +kernel
theorem i_268_934 : t_ins 268 934 = some (.istore 6) := by decide +kernel
theorem i_268_936 : t_ins 268 936 = some (.aload_n 2) := by decide +kernel
theorem i_268_937 : t_ins 268 937 = some (.invokevirtual 117) := by decide +kernel
theorem i_268_940 : t_ins 268 940 = some (.iload 5) := by decide +kernel
theorem i_268_942 : t_ins 268 942 = some (.if_icmp .eq 5) := by decide +kernel
theorem i_268_945 : t_ins 268 945 = some (.iconst 0) := by decide +kernel
theorem i_268_946 : t_ins 268 946 = some (.ireturn) := by decide +kernel
theorem i_268_947 : t_ins 268 947 = some (.iload 5) := by decide +kernel
theorem i_268_949 : t_ins 268 949 = some (.ifCond .ne 15) := by decide +kernel
theorem i_268_952 : t_ins 268 952 = some (.aload_n 3) := by decide +kernel
theorem i_268_953 : t_ins 268 953 = some (.iconst 0) := by decide +kernel
theorem i_268_954 : t_ins 268 954 = some (.laload) := by decide +kernel
theorem i_268_955 : t_ins 268 955 = some (.iload 6) := by decide +kernel
theorem i_268_957 : t_ins 268 957 = some (.i2l) := by decide +kernel
theorem i_268_958 : t_ins 268 958 = some (.lcmp) := by decide +kernel
theorem i_268_959 : t_ins 268 959 = some (.ifCond .eq 5) := by decide +kernel
theorem i_268_962 : t_ins 268 962 = some (.iconst 0) := by decide +kernel
theorem i_268_963 : t_ins 268 963 = some (.ireturn) := by decide +kernel
theorem i_268_964 : t_ins 268 964 = some (.goto 1324) := by decide +kernel
theorem i_268_967 : t_ins 268 967 = some (.aload_n 1) := by decide +kernel
theorem i_268_968 : t_ins 268 968 = some (.aload_n 0) := by decide +kernel
theorem i_268_969 : t_ins 268 969 = some (.iload 4) := by decide +kernel
theorem i_268_971 : t_ins 268 971 = some (.iconst 1) := by decide +kernel
theorem i_268_972 : t_ins 268 972 = some (.iadd) := by decide +kernel
theorem i_268_973 : t_ins 268 973 = some (.iaload) := by decide +kernel
theorem i_268_974 : t_ins 268 974 = some (.aload_n 0) := by decide +kernel
theorem i_268_975 : t_ins 268 975 = some (.iload 4) := by decide +kernel
theorem i_268_977 : t_ins 268 977 = some (.iconst 2) := by decide +kernel
theorem i_268_978 : t_ins 268 978 = some (.iadd) := by decide +kernel
theorem i_268_979 : t_ins 268 979 = some (.iaload) := by decide +kernel
theorem i_268_980 : t_ins 268 980 = some (.aload_n 0) := by decide +kernel
theorem i_268_981 : t_ins 268 981 = some (.iload 4) := by decide +kernel
theorem i_268_983 : t_ins 268 983 = some (.iconst 3) := by decide +kernel
theorem i_268_984 : t_ins 268 984 = some (.iadd) := by decide +kernel
theorem i_268_985 : t_ins 268 985 = some (.iaload) := by decide +kernel
theorem i_268_986 : t_ins 268 986 = some (.aload_n 3) := by decide +kernel
theorem i_268_987 : t_ins 268 987 = some (.invokestatic 159) := by decide +kernel
theorem i_268_990 : t_ins 268 990 = some (.istore 5) := by decide +kernel
theorem i_268_992 : t_ins 268 992 = some (.aload_n 2) := by decide +kernel
theorem i_268_993 : t_ins 268 993 = some (.aload_n 0) := by decide +kernel
theorem i_268_994 : t_ins 268 994 = some (.iload 4) := by decide +kernel
theorem i_268_996 : t_ins 268 996 = some (.iconst 1) := by decide +kernel
theorem i_268_997 : t_ins 268 997 = some (.iadd) := by decide +kernel
theorem i_268_998 : t_ins 268 998 = some (.iaload) := by decide +kernel
theorem i_268_999 : t_ins 268 999 = some (.aload_n 0) := by decide +kernel
theorem i_268_1000 : t_ins 268 1000 = some (.iload 4) := by decide +kernel
theorem i_268_1002 : t_ins 268 1002 = some (.iconst 2) := by decide +kernel
theorem i_268_1003 : t_ins 268 1003 = some (.iadd) := by decide +kernel
theorem i_268_1004 : t_ins 268 1004 = some (.iaload) := by decide +kernel
theorem i_268_1005 : t_ins 268 1005 = some (.aload_n 0) := by decide +kernel
theorem i_268_1006 : t_ins 268 1006 = some (.iload 4) := by decide +kernel
theorem i_268_1008 : t_ins 268 1008 = some (.iconst 3) := by decide +kernel
theorem i_268_1009 : t_ins 268 1009 = some (.iadd) := by decide +kernel
theorem i_268_1010 : t_ins 268 1010 = some (.iaload) := by decide +kernel
theorem i_268_1011 : t_ins 268 1011 = some (.invokevirtual 161) := by decide +kernel
theorem i_268_1014 : t_ins 268 1014 = some (.istore 6) := by decide +kernel
theorem i_268_1016 : t_ins 268 1016 = some (.aload_n 2) := by decide +kernel
theorem i_268_1017 : t_ins 268 1017 = some (.invokevirtual 117) := by decide +kernel
theorem i_268_1020 : t_ins 268 1020 = some (.iload 5) := by decide +kernel
theorem i_268_1022 : t_ins 268 1022 = some (.if_icmp .eq 5) := by decide +kernel
theorem i_268_1025 : t_ins 268 1025 = some (.iconst 0) := by decide +kernel
theorem i_268_1026 : t_ins 268 1026 = some (.ireturn) := by decide +kernel
theorem i_268_1027 : t_ins 268 1027 = some (.iload 5) := by decide +kernel
theorem i_268_1029 : t_ins 268 1029 = some (.ifCond .ne 15) := by decide +kernel
theorem i_268_1032 : t_ins 268 1032 = some (.aload_n 3) := by decide +kernel
theorem i_268_1033 : t_ins 268 1033 = some (.iconst 0) := by decide +kernel
theorem i_268_1034 : t_ins 268 1034 = some (.laload) := by decide +kernel
theorem i_268_1035 : t_ins 268 1035 = some (.iload 6) := by decide +kernel
theorem i_268_1037 : t_ins 268 1037 = some (.i2l) := by decide +kernel
theorem i_268_1038 : t_ins 268 1038 = some (.lcmp) := by decide +kernel
theorem i_268_1039 : t_ins 268 1039 = some (.ifCond .eq 5) := by decide +kernel
theorem i_268_1042 : t_ins 268 1042 = some (.iconst 0) := by decide +kernel
theorem i_268_1043 : t_ins 268 1043 = some (.ireturn) := by decide +kernel
theorem i_268_1044 : t_ins 268 1044 = some (.goto 1244) := by decide +kernel
theorem i_268_1047 : t_ins 268 1047 = some (.aload_n 1) := by decide +kernel
theorem i_268_1048 : t_ins 268 1048 = some (.aload_n 0) := by decide +kernel
theorem i_268_1049 : t_ins 268 1049 = some (.iload 4) := by decide +kernel
theorem i_268_1051 : t_ins 268 1051 = some (.iconst 1) := by decide +kernel
theorem i_268_1052 : t_ins 268 1052 = some (.iadd) := by decide +kernel
theorem i_268_1053 : t_ins 268 1053 = some (.iaload) := by decide +kernel
theorem i_268_1054 : t_ins 268 1054 = some (.aload_n 0) := by decide +kernel
theorem i_268_1055 : t_ins 268 1055 = some (.iload 4) := by decide +kernel
theorem i_268_1057 : t_ins 268 1057 = some (.iconst 2) := by decide +kernel
theorem i_268_1058 : t_ins 268 1058 = some (.iadd) := by decide +kernel
theorem i_268_1059 : t_ins 268 1059 = some (.iaload) := by decide +kernel
theorem i_268_1060 : t_ins 268 1060 = some (.aload_n 3) := by decide +kernel
theorem i_268_1061 : t_ins 268 1061 = some (.invokestatic 162) := by decide +kernel
theorem i_268_1064 : t_ins 268 1064 = some (.istore 5) := by decide +kernel
theorem i_268_1066 : t_ins 268 1066 = some (.aload_n 2) := by decide +kernel
theorem i_268_1067 : t_ins 268 1067 = some (.aload_n 0) := by decide +kernel
theorem i_268_1068 : t_ins 268 1068 = some (.iload 4) := by decide +kernel
theorem i_268_1070 : t_ins 268 1070 = some (.iconst 1) := by decide +kernel
theorem i_268_1071 : t_ins 268 1071 = some (.iadd) := by decide +kernel
theorem i_268_1072 : t_ins 268 1072 = some (.iaload) := by decide +kernel
theorem i_268_1073 : t_ins 268 1073 = some (.aload_n 0) := by decide +kernel
theorem i_268_1074 : t_ins 268 1074 = some (.iload 4) := by decide +kernel
theorem i_268_1076 : t_ins 268 1076 = some (.iconst 2) := by decide +kernel
theorem i_268_1077 : t_ins 268 1077 = some (.iadd) := by decide +kernel
theorem i_268_1078 : t_ins 268 1078 = some (.iaload) := by decide +kernel
theorem i_268_1079 : t_ins 268 1079 = some (.invokevirtual 164) := by decide +kernel
theorem i_268_1082 : t_ins 268 1082 = some (.istore 6) := by decide +kernel
theorem i_268_1084 : t_ins 268 1084 = some (.aload_n 2) := by decide +kernel
theorem i_268_1085 : t_ins 268 1085 = some (.invokevirtual 117) := by decide +kernel
theorem i_268_1088 : t_ins 268 1088 = some (.iload 5) := by decide +kernel
theorem i_268_1090 : t_ins 268 1090 = some (.if_icmp .eq 5) := by decide +kernel
theorem i_268_1093 : t_ins 268 1093 = some (.iconst 0) := by decide +kernel
theorem i_268_1094 : t_ins 268 1094 = some (.ireturn) := by decide +kernel
theorem i_268_1095 : t_ins 268 1095 = some (.iload 5) := by decide +kernel
theorem i_268_1097 : t_ins 268 1097 = some (.ifCond .ne 15) := by decide +kernel
theorem i_268_1100 : t_ins 268 1100 = some (.aload_n 3) := by decide +kernel
theorem i_268_1101 : t_ins 268 1101 = some (.iconst 0) := by decide +kernel
theorem i_268_1102 : t_ins 268 1102 = some (.laload) := by decide +kernel
theorem i_268_1103 : t_ins 268 1103 = some (.iload 6) := by decide +kernel
theorem i_268_1105 : t_ins 268 1105 = some (.i2l) := by decide +kernel
theorem i_268_1106 : t_ins 268 1106 = some (.lcmp) := by decide +kernel
theorem i_268_1107 : t_ins 268 1107 = some (.ifCond .eq 5) := by decide +kernel
theorem i_268_1110 : t_ins 268 1110 = some (.iconst 0) := by decide +kernel
theorem i_268_1111 : t_ins 268 1111 = some (.ireturn) := by decide +kernel
theorem i_268_1112 : t_ins 268 1112 = some (.goto 1176) := by decide +kernel
theorem i_268_1115 : t_ins 268 1115 = some (.aload_n 1) := by decide +kernel
theorem i_268_1116 : t_ins 268 1116 = some (.aload_n 0) := by decide +kernel
theorem i_268_1117 : t_ins 268 1117 = some (.iload 4) := by decide +kernel
theorem i_268_1119 : t_ins 268 1119 = some (.iconst 1) := by decide +kernel
theorem i_268_1120 : t_ins 268 1120 = some (.iadd) := by decide +kernel
theorem i_268_1121 : t_ins 268 1121 = some (.iaload) := by decide +kernel
theorem i_268_1122 : t_ins 268 1122 = some (.aload_n 0) := by decide +kernel
theorem i_268_1123 : t_ins 268 1123 = some (.iload 4) := by decide +kernel
theorem i_268_1125 : t_ins 268 1125 = some (.iconst 2) := by decide +kernel
theorem i_268_1126 : t_ins 268 1126 = some (.iadd) := by decide +kernel
theorem i_268_1127 : t_ins 268 1127 = some (.iaload) := by decide +kernel
theorem i_268_1128 : t_ins 268 1128 = some (.aload_n 3) := by decide +kernel
theorem i_268_1129 : t_ins 268 1129 = some (.invokestatic 165) := by decide +kernel
theorem i_268_1132 : t_ins 268 1132 = some (.istore 5) := by decide +kernel
theorem i_268_1134 : t_ins 268 1134 = some (.aload_n 2) := by decide +kernel
theorem i_268_1135 : t_ins 268 1135 = some (.aload_n 0) := by decide +kernel
theorem i_268_1136 : t_ins 268 1136 = some (.iload 4) := by decide +kernel
theorem i_268_1138 : t_ins 268 1138 = some (.iconst 1) := by decide +kernel
theorem i_268_1139 : t_ins 268 1139 = some (.iadd) := by decide +kernel
theorem i_268_1140 : t_ins 268 1140 = some (.iaload) := by decide +kernel
theorem i_268_1141 : t_ins 268 1141 = some (.aload_n 0) := by decide +kernel
theorem i_268_1142 : t_ins 268 1142 = some (.iload 4) := by decide +kernel
theorem i_268_1144 : t_ins 268 1144 = some (.iconst 2) := by decide +kernel
theorem i_268_1145 : t_ins 268 1145 = some (.iadd) := by decide +kernel
theorem i_268_1146 : t_ins 268 1146 = some (.iaload) := by decide +kernel
theorem i_268_1147 : t_ins 268 1147 = some (.invokevirtual 167) := by decide +kernel
theorem i_268_1150 : t_ins 268 1150 = some (.istore 6) := by decide +kernel
theorem i_268_1152 : t_ins 268 1152 = some (.aload_n 2) := by decide +kernel
theorem i_268_1153 : t_ins 268 1153 = some (.invokevirtual 117) := by decide +kernel
theorem i_268_1156 : t_ins 268 1156 = some (.iload 5) := by decide +kernel
theorem i_268_1158 : t_ins 268 1158 = some (.if_icmp .eq 5) := by decide +kernel
theorem i_268_1161 : t_ins 268 1161 = some (.iconst 0) := by decide +kernel
theorem i_268_1162 : t_ins 268 1162 = some (.ireturn) := by decide +kernel
theorem i_268_1163 : t_ins 268 1163 = some (.iload 5) := by decide +kernel
theorem i_268_1165 : t_ins 268 1165 = some (.ifCond .ne 15) := by decide +kernel
theorem i_268_1168 : t_ins 268 1168 = some (.aload_n 3) := by decide +kernel
theorem i_268_1169 : t_ins 268 1169 = some (.iconst 0) := by decide +kernel
theorem i_268_1170 : t_ins 268 1170 = some (.laload) := by decide +kernel
theorem i_268_1171 : t_ins 268 1171 = some (.iload 6) := by decide +kernel
theorem i_268_1173 : t_ins 268 1173 = some (.i2l) := by decide +kernel
theorem i_268_1174 : t_ins 268 1174 = some (.lcmp) := by decide +kernel
theorem i_268_1175 : t_ins 268 1175 = some (.ifCond .eq 5) := by decide +kernel
theorem i_268_1178 : t_ins 268 1178 = some (.iconst 0) := by decide +kernel
theorem i_268_1179 : t_ins 268 1179 = some (.ireturn) := by decide +kernel
theorem i_268_1180 : t_ins 268 1180 = some (.goto 1108) := by decide +kernel
theorem i_268_1183 : t_ins 268 1183 = some (.aload_n 1) := by decide +kernel
theorem i_268_1184 : t_ins 268 1184 = some (.aload_n 0) := by decide +kernel
theorem i_268_1185 : t_ins 268 1185 = some (.iload 4) := by decide +kernel
theorem i_268_1187 : t_ins 268 1187 = some (.iconst 1) := by decide +kernel
theorem i_268_1188 : t_ins 268 1188 = some (.iadd) := by decide +kernel
theorem i_268_1189 : t_ins 268 1189 = some (.iaload) := by decide +kernel
theorem i_268_1190 : t_ins 268 1190 = some (.aload_n 0) := by decide +kernel
theorem i_268_1191 : t_ins 268 1191 = some (.iload 4) := by decide +kernel
theorem i_268_1193 : t_ins 268 1193 = some (.iconst 2) := by decide +kernel
theorem i_268_1194 : t_ins 268 1194 = some (.iadd) := by decide +kernel
theorem i_268_1195 : t_ins 268 1195 = some (.iaload) := by decide +kernel
theorem i_268_1196 : t_ins 268 1196 = some (.aload_n 0) := by decide +kernel
theorem i_268_1197 : t_ins 268 1197 = some (.iload 4) := by decide +kernel
theorem i_268_1199 : t_ins 268 1199 = some (.iconst 3) := by decide +kernel
theorem i_268_1200 : t_ins 268 1200 = some (.iadd) := by decide +kernel
theorem i_268_1201 : t_ins 268 1201 = some (.iaload) := by decide +kernel
theorem i_268_1202 : t_ins 268 1202 = some (.aload_n 0) := by decide +kernel
theorem i_268_1203 : t_ins 268 1203 = some (.iload 4) := by decide +kernel
theorem i_268_1205 : t_ins 268 1205 = some (.iconst 4) := by decide +kernel
theorem i_268_1206 : t_ins 268 1206 = some (.iadd) := by decide +kernel
theorem i_268_1207 : t_ins 268 1207 = some (.iaload) := by decide +kernel
theorem i_268_1208 : t_ins 268 1208 = some (.aload_n 3) := by decide +kernel
theorem i_268_1209 : t_ins 268 1209 = some (.invokestatic 168) := by decide +kernel
theorem i_268_1212 : t_ins 268 1212 = some (.istore 5) := by decide +kernel
theorem i_268_1214 : t_ins 268 1214 = some (.aload_n 2) := by decide +kernel
theorem i_268_1215 : t_ins 268 1215 = some (.aload_n 0) := by decide +kernel
theorem i_268_1216 : t_ins 268 1216 = some (.iload 4) := by decide +kernel
theorem i_268_1218 : t_ins 268 1218 = some (.iconst 1) := by decide +kernel
theorem i_268_1219 : t_ins 268 1219 = some (.iadd) := by decide +kernel
theorem i_268_1220 : t_ins 268 1220 = some (.iaload) := by decide +kernel
theorem i_268_1221 : t_ins 268 1221 = some (.aload_n 0) := by decide +kernel
theorem i_268_1222 : t_ins 268 1222 = some (.iload 4) := by decide +kernel
theorem i_268_1224 : t_ins 268 1224 = some (.iconst 2) := by decide +kernel
theorem i_268_1225 : t_ins 268 1225 = some (.iadd) := by decide +kernel
theorem i_268_1226 : t_ins 268 1226 = some (.iaload) := by decide +kernel
theorem i_268_1227 : t_ins 268 1227 = some (.aload_n 0) := by decide +kernel
theorem i_268_1228 : t_ins 268 1228 = some (.iload 4) := by decide +kernel
theorem i_268_1230 : t_ins 268 1230 = some (.iconst 3) := by decide +kernel
theorem i_268_1231 : t_ins 268 1231 = some (.iadd) := by decide +kernel
theorem i_268_1232 : t_ins 268 1232 = some (.iaload) := by decide +kernel
theorem i_268_1233 : t_ins 268 1233 = some (.aload_n 0) := by decide +kernel
theorem i_268_1234 : t_ins 268 1234 = some (.iload 4) := by decide +kernel
theorem i_268_1236 : t_ins 268 1236 = some (.iconst 4) := by decide +kernel
theorem i_268_1237 : t_ins 268 1237 = some (.iadd) := by decide +kernel
theorem i_268_1238 : t_ins 268 1238 = some (.iaload) := by decide +kernel
theorem i_268_1239 : t_ins 268 1239 = some (.invokevirtual 170) := by decide +kernel
theorem i_268_1242 : t_ins 268 1242 = some (.istore 6) := by decide +kernel
theorem i_268_1244 : t_ins 268 1244 = some (.aload_n 2) := by decide +kernel
theorem i_268_1245 : t_ins 268 1245 = some (.invokevirtual 117) := by decide +kernel
theorem i_268_1248 : t_ins 268 1248 = some (.iload 5) := by decide +kernel
theorem i_268_1250 : t_ins 268 1250 = some (.if_icmp .eq 5) := by decide +kernel
theorem i_268_1253 : t_ins 268 1253 = some (.iconst 0) := by decide +kernel
theorem i_268_1254 : t_ins 268 1254 = some (.ireturn) := by decide +kernel
theorem i_268_1255 : t_ins 268 1255 = some (.iload 5) := by decide +kernel
theorem i_268_1257 : t_ins 268 1257 = some (.ifCond .ne 15) := by decide +kernel
theorem i_268_1260 : t_ins 268 1260 = some (.aload_n 3) := by decide +kernel
theorem i_268_1261 : t_ins 268 1261 = some (.iconst 0) := by decide +kernel
theorem i_268_1262 : t_ins 268 1262 = some (.laload) := by decide +kernel
theorem i_268_1263 : t_ins 268 1263 = some (.iload 6) := by decide +kernel
theorem i_268_1265 : t_ins 268 1265 = some (.i2l) := by decide +kernel
theorem i_268_1266 : t_ins 268 1266 = some (.lcmp) := by decide +kernel
theorem i_268_1267 : t_ins 268 1267 = some (.ifCond .eq 5) := by decide +kernel
theorem i_268_1270 : t_ins 268 1270 = some (.iconst 0) := by decide +kernel
theorem i_268_1271 : t_ins 268 1271 = some (.ireturn) := by decide +kernel
theorem i_268_1272 : t_ins 268 1272 = some (.goto 1016) := by decide +kernel
theorem i_268_1275 : t_ins 268 1275 = some (.aload_n 1) := by decide +kernel
theorem i_268_1276 : t_ins 268 1276 = some (.aload_n 0) := by decide +kernel
theorem i_268_1277 : t_ins 268 1277 = some (.iload 4) := by decide +kernel
theorem i_268_1279 : t_ins 268 1279 = some (.iconst 1) := by decide +kernel
theorem i_268_1280 : t_ins 268 1280 = some (.iadd) := by decide +kernel
theorem i_268_1281 : t_ins 268 1281 = some (.iaload) := by decide +kernel
theorem i_268_1282 : t_ins 268 1282 = some (.aload_n 0) := by decide +kernel
theorem i_268_1283 : t_ins 268 1283 = some (.iload 4) := by decide +kernel
theorem i_268_1285 : t_ins 268 1285 = some (.iconst 2) := by decide +kernel
theorem i_268_1286 : t_ins 268 1286 = some (.iadd) := by decide +kernel
theorem i_268_1287 : t_ins 268 1287 = some (.iaload) := by decide +kernel
theorem i_268_1288 : t_ins 268 1288 = some (.aload_n 3) := by decide +kernel
theorem i_268_1289 : t_ins 268 1289 = some (.invokestatic 171) := by decide +kernel
theorem i_268_1292 : t_ins 268 1292 = some (.istore 5) := by decide +kernel
theorem i_268_1294 : t_ins 268 1294 = some (.aload_n 2) := by decide +kernel
theorem i_268_1295 : t_ins 268 1295 = some (.aload_n 0) := by decide +kernel
theorem i_268_1296 : t_ins 268 1296 = some (.iload 4) := by decide +kernel
theorem i_268_1298 : t_ins 268 1298 = some (.iconst 1) := by decide +kernel
theorem i_268_1299 : t_ins 268 1299 = some (.iadd) := by decide +kernel
theorem i_268_1300 : t_ins 268 1300 = some (.iaload) := by decide +kernel
theorem i_268_1301 : t_ins 268 1301 = some (.aload_n 0) := by decide +kernel
theorem i_268_1302 : t_ins 268 1302 = some (.iload 4) := by decide +kernel
theorem i_268_1304 : t_ins 268 1304 = some (.iconst 2) := by decide +kernel
theorem i_268_1305 : t_ins 268 1305 = some (.iadd) := by decide +kernel
theorem i_268_1306 : t_ins 268 1306 = some (.iaload) := by decide +kernel
theorem i_268_1307 : t_ins 268 1307 = some (.invokevirtual 173) := by decide +kernel
theorem i_268_1310 : t_ins 268 1310 = some (.istore 6) := by decide +kernel
theorem i_268_1312 : t_ins 268 1312 = some (.aload_n 2) := by decide +kernel
theorem i_268_1313 : t_ins 268 1313 = some (.invokevirtual 117) := by decide +kernel
theorem i_268_1316 : t_ins 268 1316 = some (.iload 5) := by decide +kernel
theorem i_268_1318 : t_ins 268 1318 = some (.if_icmp .eq 5) := by decide +kernel
theorem i_268_1321 : t_ins 268 1321 = some (.iconst 0) := by decide +kernel
theorem i_268_1322 : t_ins 268 1322 = some (.ireturn) := by decide +kernel
theorem i_268_1323 : t_ins 268 1323 = some (.iload 5) := by decide +kernel
theorem i_268_1325 : t_ins 268 1325 = some (.ifCond .ne 15) := by decide +kernel
theorem i_268_1328 : t_ins 268 1328 = some (.aload_n 3) := by decide +kernel
theorem i_268_1329 : t_ins 268 1329 = some (.iconst 0) := by decide +kernel
theorem i_268_1330 : t_ins 268 1330 = some (.laload) := by decide +kernel
theorem i_268_1331 : t_ins 268 1331 = some (.iload 6) := by decide +kernel
theorem i_268_1333 : t_ins 268 1333 = some (.i2l) := by decide +kernel
theorem i_268_1334 : t_ins 268 1334 = some (.lcmp) := by decide +kernel
theorem i_268_1335 : t_ins 268 1335 = some (.ifCond .eq 5) := by decide +kernel
theorem i_268_1338 : t_ins 268 1338 = some (.iconst 0) := by decide +kernel
theorem i_268_1339 : t_ins 268 1339 = some (.ireturn) := by decide +kernel
theorem i_268_1340 : t_ins 268 1340 = some (.goto 948) := by decide +kernel
theorem i_268_1343 : t_ins 268 1343 = some (.aload_n 1) := by decide +kernel
theorem i_268_1344 : t_ins 268 1344 = some (.aload_n 0) := by decide +kernel
theorem i_268_1345 : t_ins 268 1345 = some (.iload 4) := by decide +kernel
theorem i_268_1347 : t_ins 268 1347 = some (.iconst 1) := by decide +kernel
theorem i_268_1348 : t_ins 268 1348 = some (.iadd) := by decide +kernel
theorem i_268_1349 : t_ins 268 1349 = some (.iaload) := by decide +kernel
theorem i_268_1350 : t_ins 268 1350 = some (.aload_n 0) := by decide +kernel
theorem i_268_1351 : t_ins 268 1351 = some (.iload 4) := by decide +kernel
theorem i_268_1353 : t_ins 268 1353 = some (.iconst 2) := by decide +kernel
theorem i_268_1354 : t_ins 268 1354 = some (.iadd) := by decide +kernel
theorem i_268_1355 : t_ins 268 1355 = some (.iaload) := by decide +kernel
theorem i_268_1356 : t_ins 268 1356 = some (.aload_n 3) := by decide +kernel
theorem i_268_1357 : t_ins 268 1357 = some (.invokestatic 174) := by decide +kernel
theorem i_268_1360 : t_ins 268 1360 = some (.istore 5) := by decide +kernel
theorem i_268_1362 : t_ins 268 1362 = some (.aload_n 2) := by decide +kernel
theorem i_268_1363 : t_ins 268 1363 = some (.aload_n 0) := by decide +kernel
theorem i_268_1364 : t_ins 268 1364 = some (.iload 4) := by decide +kernel
theorem i_268_1366 : t_ins 268 1366 = some (.iconst 1) := by decide +kernel
theorem i_268_1367 : t_ins 268 1367 = some (.iadd) := by decide +kernel
theorem i_268_1368 : t_ins 268 1368 = some (.iaload) := by decide +kernel
theorem i_268_1369 : t_ins 268 1369 = some (.aload_n 0) := by decide +kernel
theorem i_268_1370 : t_ins 268 1370 = some (.iload 4) := by decide +kernel
theorem i_268_1372 : t_ins 268 1372 = some (.iconst 2) := by decide +kernel
theorem i_268_1373 : t_ins 268 1373 = some (.iadd) := by decide +kernel
theorem i_268_1374 : t_ins 268 1374 = some (.iaload) := by decide +kernel
theorem i_268_1375 : t_ins 268 1375 = some (.invokevirtual 176) := by decide +kernel
theorem i_268_1378 : t_ins 268 1378 = some (.istore 6) := by decide +kernel
theorem i_268_1380 : t_ins 268 1380 = some (.aload_n 2) := by decide +kernel
theorem i_268_1381 : t_ins 268 1381 = some (.invokevirtual 117) := by decide +kernel
theorem i_268_1384 : t_ins 268 1384 = some (.iload 5) := by decide +kernel
theorem i_268_1386 : t_ins 268 1386 = some (.if_icmp .eq 5) := by decide +kernel
theorem i_268_1389 : t_ins 268 1389 = some (.iconst 0) := by decide +kernel
theorem i_268_1390 : t_ins 268 1390 = some (.ireturn) := by decide +kernel
theorem i_268_1391 : t_ins 268 1391 = some (.iload 5) := by decide +kernel
theorem i_268_1393 : t_ins 268 1393 = some (.ifCond .ne 15) := by decide +kernel
theorem i_268_1396 : t_ins 268 1396 = some (.aload_n 3) := by decide +kernel
theorem i_268_1397 : t_ins 268 1397 = some (.iconst 0) := by decide +kernel
theorem i_268_1398 : t_ins 268 1398 = some (.laload) := by decide +kernel
theorem i_268_1399 : t_ins 268 1399 = some (.iload 6) := by decide +kernel
theorem i_268_1401 : t_ins 268 1401 = some (.i2l) := by decide +kernel
theorem i_268_1402 : t_ins 268 1402 = some (.lcmp) := by decide +kernel
theorem i_268_1403 : t_ins 268 1403 = some (.ifCond .eq 5) := by decide +kernel
theorem i_268_1406 : t_ins 268 1406 = some (.iconst 0) := by decide +kernel
theorem i_268_1407 : t_ins 268 1407 = some (.ireturn) := by decide +kernel
theorem i_268_1408 : t_ins 268 1408 = some (.goto 880) := by decide +kernel
theorem i_268_1411 : t_ins 268 1411 = some (.aload_n 1) := by decide +kernel
theorem i_268_1412 : t_ins 268 1412 = some (.aload_n 0) := by decide +kernel
theorem i_268_1413 : t_ins 268 1413 = some (.iload 4) := by decide +kernel
theorem i_268_1415 : t_ins 268 1415 = some (.iconst 1) := by decide +kernel
theorem i_268_1416 : t_ins 268 1416 = some (.iadd) := by decide +kernel
theorem i_268_1417 : t_ins 268 1417 = some (.iaload) := by decide +kernel
theorem i_268_1418 : t_ins 268 1418 = some (.aload_n 0) := by decide +kernel
theorem i_268_1419 : t_ins 268 1419 = some (.iload 4) := by decide +kernel
theorem i_268_1421 : t_ins 268 1421 = some (.iconst 2) := by decide +kernel
theorem i_268_1422 : t_ins 268 1422 = some (.iadd) := by decide +kernel
theorem i_268_1423 : t_ins 268 1423 = some (.iaload) := by decide +kernel
theorem i_268_1424 : t_ins 268 1424 = some (.aload_n 0) := by decide +kernel
theorem i_268_1425 : t_ins 268 1425 = some (.iload 4) := by decide +kernel
theorem i_268_1427 : t_ins 268 1427 = some (.iconst 3) := by decide +kernel
theorem i_268_1428 : t_ins 268 1428 = some (.iadd) := by decide +kernel
theorem i_268_1429 : t_ins 268 1429 = some (.iaload) := by decide +kernel
theorem i_268_1430 : t_ins 268 1430 = some (.aload_n 3) := by decide +kernel
theorem i_268_1431 : t_ins 268 1431 = some (.invokestatic 177) := by decide +kernel
theorem i_268_1434 : t_ins 268 1434 = some (.istore 5) := by decide +kernel
theorem i_268_1436 : t_ins 268 1436 = some (.aload_n 2) := by decide +kernel
theorem i_268_1437 : t_ins 268 1437 = some (.aload_n 0) := by decide +kernel
theorem i_268_1438 : t_ins 268 1438 = some (.iload 4) := by decide +kernel
theorem i_268_1440 : t_ins 268 1440 = some (.iconst 1) := by decide +kernel
theorem i_268_1441 : t_ins 268 1441 = some (.iadd) := by decide +kernel
theorem i_268_1442 : t_ins 268 1442 = some (.iaload) := by decide +kernel
theorem i_268_1443 : t_ins 268 1443 = some (.aload_n 0) := by decide +kernel
theorem i_268_1444 : t_ins 268 1444 = some (.iload 4) := by decide +kernel
theorem i_268_1446 : t_ins 268 1446 = some (.iconst 2) := by decide +kernel
theorem i_268_1447 : t_ins 268 1447 = some (.iadd) := by decide +kernel
theorem i_268_1448 : t_ins 268 1448 = some (.iaload) := by decide +kernel
theorem i_268_1449 : t_ins 268 1449 = some (.aload_n 0) := by decide +kernel
theorem i_268_1450 : t_ins 268 1450 = some (.iload 4) := by decide +kernel
theorem i_268_1452 : t_ins 268 1452 = some (.iconst 3) := by decide +kernel
theorem i_268_1453 : t_ins 268 1453 = some (.iadd) := by decide +kernel
theorem i_268_1454 : t_ins 268 1454 = some (.iaload) := by decide +kernel
theorem i_268_1455 : t_ins 268 1455 = some (.invokevirtual 179) := by decide +kernel
theorem i_268_1458 : t_ins 268 1458 = some (.istore 6) := by decide +kernel
theorem i_268_1460 : t_ins 268 1460 = some (.aload_n 2) := by decide +kernel
theorem i_268_1461 : t_ins 268 1461 = some (.invokevirtual 117) := by decide +kernel
theorem i_268_1464 : t_ins 268 1464 = some (.iload 5) := by decide +kernel
theorem i_268_1466 : t_ins 268 1466 = some (.if_icmp .eq 5) := by decide +kernel
theorem i_268_1469 : t_ins 268 1469 = some (.iconst 0) := by decide +kernel
theorem i_268_1470 : t_ins 268 1470 = some (.ireturn) := by decide +kernel
theorem i_268_1471 : t_ins 268 1471 = some (.iload 5) := by decide +kernel
theorem i_268_1473 : t_ins 268 1473 = some (.ifCond .ne 15) := by decide +kernel
theorem i_268_1476 : t_ins 268 1476 = some (.aload_n 3) := by decide +kernel
theorem i_268_1477 : t_ins 268 1477 = some (.iconst 0) := by decide +kernel
theorem i_268_1478 : t_ins 268 1478 = some (.laload) := by decide +kernel
theorem i_268_1479 : t_ins 268 1479 = some (.iload 6) := by decide +kernel
theorem i_268_1481 : t_ins 268 1481 = some (.i2l) := by decide +kernel
theorem i_268_1482 : t_ins 268 1482 = some (.lcmp) := by decide +kernel
theorem i_268_1483 : t_ins 268 1483 = some (.ifCond .eq 5) := by decide +kernel
theorem i_268_1486 : t_ins 268 1486 = some (.iconst 0) := by decide +kernel
theorem i_268_1487 : t_ins 268 1487 = some (.ireturn) := by decide +kernel
theorem i_268_1488 : t_ins 268 1488 = some (.goto 800) := by decide +kernel
theorem i_268_1491 : t_ins 268 1491 = some (.aload_n 1) := by decide +kernel
theorem i_268_1492 : t_ins 268 1492 = some (.aload_n 0) := by decide +kernel
theorem i_268_1493 : t_ins 268 1493 = some (.iload 4) := by decide +kernel
theorem i_268_1495 : t_ins 268 1495 = some (.iconst 1) := by decide +kernel
theorem i_268_1496 : t_ins 268 1496 = some (.iadd) := by decide +kernel
theorem i_268_1497 : t_ins 268 1497 = some (.iaload) := by decide +kernel
theorem i_268_1498 : t_ins 268 1498 = some (.aload_n 0) := by decide +kernel
theorem i_268_1499 : t_ins 268 1499 = some (.iload 4) := by decide +kernel
theorem i_268_1501 : t_ins 268 1501 = some (.iconst 2) := by decide +kernel
theorem i_268_1502 : t_ins 268 1502 = some (.iadd) := by decide +kernel
theorem i_268_1503 : t_ins 268 1503 = some (.iaload) := by decide +kernel
theorem i_268_1504 : t_ins 268 1504 = some (.aload_n 0) := by decide +kernel
theorem i_268_1505 : t_ins 268 1505 = some (.iload 4) := by decide +kernel
theorem i_268_1507 : t_ins 268 1507 = some (.iconst 3) := by decide +kernel
theorem i_268_1508 : t_ins 268 1508 = some (.iadd) := by decide +kernel
theorem i_268_1509 : t_ins 268 1509 = some (.iaload) := by decide +kernel
theorem i_268_1510 : t_ins 268 1510 = some (.aload_n 3) := by decide +kernel
theorem i_268_1511 : t_ins 268 1511 = some (.invokestatic 180) := by decide +kernel
theorem i_268_1514 : t_ins 268 1514 = some (.istore 5) := by decide +kernel
theorem i_268_1516 : t_ins 268 1516 = some (.aload_n 2) := by decide +kernel
theorem i_268_1517 : t_ins 268 1517 = some (.aload_n 0) := by decide +kernel
theorem i_268_1518 : t_ins 268 1518 = some (.iload 4) := by decide +kernel
theorem i_268_1520 : t_ins 268 1520 = some (.iconst 1) := by decide +kernel
theorem i_268_1521 : t_ins 268 1521 = some (.iadd) := by decide +kernel
theorem i_268_1522 : t_ins 268 1522 = some (.iaload) := by decide +kernel
theorem i_268_1523 : t_ins 268 1523 = some (.aload_n 0) := by decide +kernel
theorem i_268_1524 : t_ins 268 1524 = some (.iload 4) := by decide +kernel
theorem i_268_1526 : t_ins 268 1526 = some (.iconst 2) := by decide +kernel
theorem i_268_1527 : t_ins 268 1527 = some (.iadd) := by decide +kernel
theorem i_268_1528 : t_ins 268 1528 = some (.iaload) := by decide +kernel
theorem i_268_1529 : t_ins 268 1529 = some (.aload_n 0) := by decide +kernel
theorem i_268_1530 : t_ins 268 1530 = some (.iload 4) := by decide +kernel
theorem i_268_1532 : t_ins 268 1532 = some (.iconst 3) := by decide +kernel
theorem i_268_1533 : t_ins 268 1533 = some (.iadd) := by decide +kernel
theorem i_268_1534 : t_ins 268 1534 = some (.iaload) := by decide +kernel
theorem i_268_1535 : t_ins 268 1535 = some (.invokevirtual 182) := by decide +kernel
theorem i_268_1538 : t_ins 268 1538 = some (.istore 6) := by decide +kernel
theorem i_268_1540 : t_ins 268 1540 = some (.aload_n 2) := by decide +kernel
theorem i_268_1541 : t_ins 268 1541 = some (.invokevirtual 117) := by decide +kernel
theorem i_268_1544 : t_ins 268 1544 = some (.iload 5) := by decide +kernel
theorem i_268_1546 : t_ins 268 1546 = some (.if_icmp .eq 5) := by decide +kernel
theorem i_268_1549 : t_ins 268 1549 = some (.iconst 0) := by decide +kernel
theorem i_268_1550 : t_ins 268 1550 = some (.ireturn) := by decide +kernel
theorem i_268_1551 : t_ins 268 1551 = some (.iload 5) := by decide +kernel
theorem i_268_1553 : t_ins 268 1553 = some (.ifCond .ne 15) := by decide +kernel
theorem i_268_1556 : t_ins 268 1556 = some (.aload_n 3) := by decide +kernel
theorem i_268_1557 : t_ins 268 1557 = some (.iconst 0) := by decide +kernel
theorem i_268_1558 : t_ins 268 1558 = some (.laload) := by decide +kernel
theorem i_268_1559 : t_ins 268 1559 = some (.iload 6) := by decide +kernel
theorem i_268_1561 : t_ins 268 1561 = some (.i2l) := by decide +kernel
theorem i_268_1562 : t_ins 268 1562 = some (.lcmp) := by decide +kernel
theorem i_268_1563 : t_ins 268 1563 = some (.ifCond .eq 5) := by decide +kernel
theorem i_268_1566 : t_ins 268 1566 = some (.iconst 0) := by decide +kernel
theorem i_268_1567 : t_ins 268 1567 = some (.ireturn) := by decide +kernel
theorem i_268_1568 : t_ins 268 1568 = some (.goto 720) := by decide +kernel
theorem i_268_1571 : t_ins 268 1571 = some (.aload_n 1) := by decide +kernel
theorem i_268_1572 : t_ins 268 1572 = some (.aload_n 0) := by decide +kernel
theorem i_268_1573 : t_ins 268 1573 = some (.iload 4) := by decide +kernel
theorem i_268_1575 : t_ins 268 1575 = some (.iconst 1) := by decide +kernel
theorem i_268_1576 : t_ins 268 1576 = some (.iadd) := by decide +kernel
theorem i_268_1577 : t_ins 268 1577 = some (.iaload) := by decide +kernel
theorem i_268_1578 : t_ins 268 1578 = some (.aload_n 0) := by decide +kernel
theorem i_268_1579 : t_ins 268 1579 = some (.iload 4) := by decide +kernel
theorem i_268_1581 : t_ins 268 1581 = some (.iconst 2) := by decide +kernel
theorem i_268_1582 : t_ins 268 1582 = some (.iadd) := by decide +kernel
theorem i_268_1583 : t_ins 268 1583 = some (.iaload) := by decide +kernel
theorem i_268_1584 : t_ins 268 1584 = some (.aload_n 0) := by decide +kernel
theorem i_268_1585 : t_ins 268 1585 = some (.iload 4) := by decide +kernel
theorem i_268_1587 : t_ins 268 1587 = some (.iconst 3) := by decide +kernel
theorem i_268_1588 : t_ins 268 1588 = some (.iadd) := by decide +kernel
theorem i_268_1589 : t_ins 268 1589 = some (.iaload) := by decide +kernel
theorem i_268_1590 : t_ins 268 1590 = some (.aload_n 0) := by decide +kernel
theorem i_268_1591 : t_ins 268 1591 = some (.iload 4) := by decide +kernel
theorem i_268_1593 : t_ins 268 1593 = some (.iconst 4) := by decide +kernel
theorem i_268_1594 : t_ins 268 1594 = some (.iadd) := by decide +kernel
theorem i_268_1595 : t_ins 268 1595 = some (.iaload) := by decide +kernel
theorem i_268_1596 : t_ins 268 1596 = some (.aload_n 3) := by decide +kernel
theorem i_268_1597 : t_ins 268 1597 = some (.invokestatic 183) := by decide +kernel
theorem i_268_1600 : t_ins 268 1600 = some (.istore 5) := by decide +kernel
theorem i_268_1602 : t_ins 268 1602 = some (.aload_n 2) := by decide +kernel
theorem i_268_1603 : t_ins 268 1603 = some (.aload_n 0) := by decide +kernel
theorem i_268_1604 : t_ins 268 1604 = some (.iload 4) := by decide +kernel
theorem i_268_1606 : t_ins 268 1606 = some (.iconst 1) := by decide +kernel
theorem i_268_1607 : t_ins 268 1607 = some (.iadd) := by decide +kernel
theorem i_268_1608 : t_ins 268 1608 = some (.iaload) := by decide +kernel
theorem i_268_1609 : t_ins 268 1609 = some (.aload_n 0) := by decide +kernel
theorem i_268_1610 : t_ins 268 1610 = some (.iload 4) := by decide +kernel
theorem i_268_1612 : t_ins 268 1612 = some (.iconst 2) := by decide +kernel
theorem i_268_1613 : t_ins 268 1613 = some (.iadd) := by decide +kernel
theorem i_268_1614 : t_ins 268 1614 = some (.iaload) := by decide +kernel
theorem i_268_1615 : t_ins 268 1615 = some (.aload_n 0) := by decide +kernel
theorem i_268_1616 : t_ins 268 1616 = some (.iload 4) := by decide +kernel
theorem i_268_1618 : t_ins 268 1618 = some (.iconst 3) := by decide +kernel
theorem i_268_1619 : t_ins 268 1619 = some (.iadd) := by decide +kernel
theorem i_268_1620 : t_ins 268 1620 = some (.iaload) := by decide +kernel
theorem i_268_1621 : t_ins 268 1621 = some (.aload_n 0) := by decide +kernel
theorem i_268_1622 : t_ins 268 1622 = some (.iload 4) := by decide +kernel
theorem i_268_1624 : t_ins 268 1624 = some (.iconst 4) := by decide +kernel
theorem i_268_1625 : t_ins 268 1625 = some (.iadd) := by decide +kernel
theorem q_268_898 : XX d 268 898 [v0, v1, v2, v3, v4, v5, v6, v7] (.int y :: .int x :: st) A Q ↔ XX d 268 899 [v0, v1, v2, v3, v4, v5, v6, v7] (.int (x + y) :: st) A Q := c_stk i_268_898 rfl
theorem q_268_899 : XX d 268 899 [v0, v1, v2, v3, v4, v5, v6, v7] (.int x :: .ref a :: st) (mk S I L R G) Q ↔ inA (S a) ok_i x ∧ XX d 268 900 [v0, v1, v2, v3, v4, v5, v6, v7] (.int (I a (ix x)) :: st) (mk S I L R G) Q := r_ia i_268_899
theorem q_268_900 : XX d 268 900 [some (.ref a), v1, v2, v3, v4, v5, v6, v7] st A Q ↔ XX d 268 901 [some (.ref a), v1, v2, v3, v4, v5, v6, v7] (.ref a :: st) A Q := c_lcl i_268_900 rfl rfl
theorem q_268_901 : XX d 268 901 [v0, v1, v2, v3, some (.int x), v5, v6, v7] st A Q ↔ XX d 268 903 [v0, v1, v2, v3, some (.int x), v5, v6, v7] (.int x :: st) A Q := c_lcl i_268_901 rfl rfl
theorem q_268_903 : XX d 268 903 [v0, v1, v2, v3, v4, v5, v6, v7] st A Q ↔ XX d 268 904 [v0, v1, v2, v3, v4, v5, v6, v7] (.int (w 3) :: st) A Q := c_stk i_268_903 rfl
theorem q_268_904 : XX d 268 904 [v0, v1, v2, v3, v4, v5, v6, v7] (.int y :: .int x :: st) A Q ↔ XX d 268 905 [v0, v1, v2, v3, v4, v5, v6, v7] (.int (x + y) :: st) A Q := c_stk i_268_904 rfl
theorem q_268_905 : XX d 268 905 [v0, v1, v2, v3, v4, v5, v6, v7] (.int x :: .ref a :: st) (mk S I L R G) Q ↔ inA (S a) ok_i x ∧ XX d 268 906 [v0, v1, v2, v3, v4, v5, v6, v7] (.int (I a (ix x)) :: st) (mk S I L R G) Q := r_ia i_268_905
theorem q_268_906 : XX d 268 906 [v0, v1, v2, some (.ref a), v4, v5, v6, v7] st A Q ↔ XX d 268 907 [v0, v1, v2, some (.ref a), v4, v5, v6, v7] (.ref a :: st) A Q := c_lcl i_268_906 rfl rfl
theorem q_268_907 : XX (d + 1) 268 907 [v0, v1, v2, v3, v4, v5, v6, v7] [.ref a4, .int x3, .int x2, .int x1, .ref a0] A Q ↔ XC d 249 [.ref a0, .int x1, .int x2, .int x3, .ref a4] A (XK (d + 1) 268 907 [v0, v1, v2, v3, v4, v5, v6, v7] [] Q) := c_callS i_268_907 rfl rfl rfl rfl (Nat.le_of_ble_eq_true rfl) (Nat.le_of_ble_eq_true rfl)
theorem q_268_910 : XX d 268 910 [v0, v1, v2, v3, some (.int z), v5, v6, v7] (.int x :: st) A Q ↔ XX d 268 912 [v0, v1, v2, v3, some (.int z), some (.int x), v6, v7] st A Q := c_lcl i_268_910 rfl rfl
theorem q_268_912 : XX d 268 912 [v0, v1, some (.ref a), v3, v4, v5, v6, v7] st A Q ↔ XX d 268 913 [v0, v1, some (.ref a), v3, v4, v5, v6, v7] (.ref a :: st) A Q := c_lcl i_268_912 rfl rfl
theorem q_268_913 : XX d 268 913 [some (.ref a), v1, v2, v3, v4, v5, v6, v7] st A Q ↔ XX d 268 914 [some (.ref a), v1, v2, v3, v4, v5, v6, v7] (.ref a :: st) A Q := c_lcl i_268_913 rfl rfl
theorem q_268_914 : XX d 268 914 [v0, v1, v2, v3, some (.int x), v5, v6, v7] st A Q ↔ XX d 268 916 [v0, v1, v2, v3, some (.int x), v5, v6, v7] (.int x :: st) A Q := c_lcl i_268_914 rfl rfl
theorem q_268_916 : XX d 268 916 [v0, v1, v2, v3, v4, v5, v6, v7] st A Q ↔ XX d 268 917 [v0, v1, v2, v3, v4, v5, v6, v7] (.int (w 1) :: st) A Q := c_stk i_268_916 rfl
theorem q_268_917 : XX d 268 917 [v0, v1, v2, v3, v4, v5, v6, v7] (.int y :: .int x :: st) A Q ↔ XX d 268 918 [v0, v1, v2, v3, v4, v5, v6, v7] (.int (x + y) :: st) A Q := c_stk i_268_917 rfl
theorem q_268_918 : XX d 268 918 [v0, v1, v2, v3, v4, v5, v6, v7] (.int x :: .ref a :: st) (mk S I L R G) Q ↔ inA (S a) ok_i x ∧ XX d 268 919 [v0, v1, v2, v3, v4, v5, v6, v7] (.int (I a (ix x)) :: st) (mk S I L R G) Q := r_ia i_268_918
theorem q_268_919 : XX d 268 919 [some (.ref a), v1, v2, v3, v4, v5, v6, v7] st A Q ↔ XX d 268 920 [some (.ref a), v1, v2, v3, v4, v5, v6, v7] (.ref a :: st) A Q := c_lcl i_268_919 rfl rfl
theorem q_268_920 : XX d 268 920 [v0, v1, v2, v3, some (.int x), v5, v6, v7] st A Q ↔ XX d 268 922 [v0, v1, v2, v3, some (.int x), v5, v6, v7] (.int x :: st) A Q := c_lcl i_268_920 rfl rfl
theorem q_268_922 : XX d 268 922 [v0, v1, v2, v3, v4, v5, v6, v7] st A Q ↔ XX d 268 923 [v0, v1, v2, v3, v4, v5, v6, v7] (.int (w 2) :: st) A Q := c_stk i_268_922 rfl
theorem q_268_923 : XX d 268 923 [v0, v1, v2, v3, v4, v5, v6, v7] (.int y :: .int x :: st) A Q ↔ XX d 268 924 [v0, v1, v2, v3, v4, v5, v6, v7] (.int (x + y) :: st) A Q := c_stk i_268_923 rfl
theorem q_268_924 : XX d 268 924 [v0, v1, v2, v3, v4, v5, v6, v7] (.int x :: .ref a :: st) (mk S I L R G) Q ↔ inA (S a) ok_i x ∧ XX d 268 925 [v0, v1, v2, v3, v4, v5, v6, v7] (.int (I a (ix x)) :: st) (mk S I L R G) Q := r_ia i_268_924
theorem q_268_925 : XX d 268 925 [some (.ref a), v1, v2, v3, v4, v5, v6, v7] st A Q ↔ XX d 268 926 [some (.ref a), v1, v2, v3, v4, v5, v6, v7] (.ref a :: st) A Q := c_lcl i_268_925 rfl rfl
theorem q_268_926 : XX d 268 926 [v0, v1, v2, v3, some (.int x), v5, v6, v7] st A Q ↔ XX d 268 928 [v0, v1, v2, v3, some (.int x), v5, v6, v7] (.int x :: st) A Q := c_lcl i_268_926 rfl rfl
theorem q_268_928 : XX d 268 928 [v0, v1, v2, v3, v4, v5, v6, v7] st A Q ↔ XX d 268 929 [v0, v1, v2, v3, v4, v5, v6, v7] (.int (w 3) :: st) A Q := c_stk i_268_928 rfl
theorem q_268_929 : XX d 268 929 [v0, v1, v2, v3, v4, v5, v6, v7] (.int y :: .int x :: st) A Q ↔ XX d 268 930 [v0, v1, v2, v3, v4, v5, v6, v7] (.int (x + y) :: st) A Q := c_stk i_268_929 rfl
theorem q_268_930 : XX d 268 930 [v0, v1, v2, v3, v4, v5, v6, v7] (.int x :: .ref a :: st) (mk S I L R G) Q ↔ inA (S a) ok_i x ∧ XX d 268 931 [v0, v1, v2, v3, v4, v5, v6, v7] (.int (I a (ix x)) :: st) (mk S I L R G) Q := r_ia i_268_930
theorem q_268_931 : XX (d + 1) 268 931 [v0, v1, v2, v3, v4, v5, v6, v7] [.int x3, .int x2, .int x1, .ref a0] (mk S I L R G) Q ↔ S a0 = some (.inr 12) ∧ XC d 208 [.ref a0, .int x1, .int x2, .int x3] (mk S I L R G) (XK (d + 1) 268 931 [v0, v1, v2, v3, v4, v5, v6, v7] [] Q) := c_callV i_268_931 rfl rfl rfl rfl (Nat.le_of_ble_eq_true rfl) (Nat.le_of_ble_eq_true rfl) rfl
theorem q_268_934 : XX d 268 934 [v0, v1, v2, v3, v4, some (.int z), v6, v7] (.int x :: st) A Q ↔ XX d 268 936 [v0, v1, v2, v3, v4, some (.int z), some (.int x), v7] st A Q := c_lcl i_268_934 rfl rfl
theorem q_268_936 : XX d 268 936 [v0, v1, some (.ref a), v3, v4, v5, v6, v7] st A Q ↔ XX d 268 937 [v0, v1, some (.ref a), v3, v4, v5, v6, v7] (.ref a :: st) A Q := c_lcl i_268_936 rfl rfl
theorem q_268_937 : XX (d + 1) 268 937 [v0, v1, v2, v3, v4, v5, v6, v7] [.ref a0] (mk S I L R G) Q ↔ S a0 = some (.inr 12) ∧ XC d 153 [.ref a0] (mk S I L R G) (XK (d + 1) 268 937 [v0, v1, v2, v3, v4, v5, v6, v7] [] Q) := c_callV i_268_937 rfl rfl rfl rfl (Nat.le_of_ble_eq_true rfl) (Nat.le_of_ble_eq_true rfl) rfl
theorem q_268_940 : XX d 268 940 [v0, v1, v2, v3, v4, some (.int x), v6, v7] st A Q ↔ XX d 268 942 [v0, v1, v2, v3, v4, some (.int x), v6, v7] (.int x :: st) A Q := c_lcl i_268_940 rfl rfl
theorem q_268_942 : XX d 268 942 [v0, v1, v2, v3, v4, v5, v6, v7] (.int y :: .int x :: st) A Q ↔ if x = y then XX d 268 947 [v0, v1, v2, v3, v4, v5, v6, v7] st A Q else XX d 268 945 [v0, v1, v2, v3, v4, v5, v6, v7] st A Q := b_eq i_268_942 rfl rfl rfl
theorem q_268_945 : XX d 268 945 [v0, v1, v2, v3, v4, v5, v6, v7] st A Q ↔ XX d 268 946 [v0, v1, v2, v3, v4, v5, v6, v7] (.int (w 0) :: st) A Q := c_stk i_268_945 rfl
theorem q_268_946 : XX d 268 946 [v0, v1, v2, v3, v4, v5, v6, v7] [.int x] A Q ↔ (x = w 0 ∨ x = w 1) ∧ Q (.inl (some (.int x))) A := e_retZ i_268_946 rfl
theorem q_268_947 : XX d 268 947 [v0, v1, v2, v3, v4, some (.int x), v6, v7] st A Q ↔ XX d 268 949 [v0, v1, v2, v3, v4, some (.int x), v6, v7] (.int x :: st) A Q := c_lcl i_268_947 rfl rfl
theorem q_268_949 : XX d 268 949 [v0, v1, v2, v3, v4, v5, v6, v7] (.int x :: st) A Q ↔ if x = w 0 then XX d 268 952 [v0, v1, v2, v3, v4, v5, v6, v7] st A Q else XX d 268 964 [v0, v1, v2, v3, v4, v5, v6, v7] st A Q := z_ne i_268_949 rfl rfl rfl
theorem q_268_952 : XX d 268 952 [v0, v1, v2, some (.ref a), v4, v5, v6, v7] st A Q ↔ XX d 268 953 [v0, v1, v2, some (.ref a), v4, v5, v6, v7] (.ref a :: st) A Q := c_lcl i_268_952 rfl rfl
theorem q_268_953 : XX d 268 953 [v0, v1, v2, v3, v4, v5, v6, v7] st A Q ↔ XX d 268 954 [v0, v1, v2, v3, v4, v5, v6, v7] (.int (w 0) :: st) A Q := c_stk i_268_953 rfl
theorem q_268_954 : XX d 268 954 [v0, v1, v2, v3, v4, v5, v6, v7] (.int x :: .ref a :: st) (mk S I L R G) Q ↔ inA (S a) ok_l x ∧ XX d 268 955 [v0, v1, v2, v3, v4, v5, v6, v7] (.long (L a (ix x)) :: st) (mk S I L R G) Q := r_la i_268_954
theorem q_268_955 : XX d 268 955 [v0, v1, v2, v3, v4, v5, some (.int x), v7] st A Q ↔ XX d 268 957 [v0, v1, v2, v3, v4, v5, some (.int x), v7] (.int x :: st) A Q := c_lcl i_268_955 rfl rfl
theorem q_268_957 : XX d 268 957 [v0, v1, v2, v3, v4, v5, v6, v7] (.int x :: st) A Q ↔ XX d 268 958 [v0, v1, v2, v3, v4, v5, v6, v7] (.long x.toInt64 :: st) A Q := c_stk i_268_957 rfl
theorem q_268_958 : XX d 268 958 [v0, v1, v2, v3, v4, v5, v6, v7] (.long ly :: .long lx :: st) A Q ↔ XX d 268 959 [v0, v1, v2, v3, v4, v5, v6, v7] (.int (lg_cmp lx ly) :: st) A Q := c_stk i_268_958 rfl
theorem q_268_959 : XX d 268 959 [v0, v1, v2, v3, v4, v5, v6, v7] (.int x :: st) A Q ↔ if x = w 0 then XX d 268 964 [v0, v1, v2, v3, v4, v5, v6, v7] st A Q else XX d 268 962 [v0, v1, v2, v3, v4, v5, v6, v7] st A Q := z_eq i_268_959 rfl rfl rfl
theorem q_268_962 : XX d 268 962 [v0, v1, v2, v3, v4, v5, v6, v7] st A Q ↔ XX d 268 963 [v0, v1, v2, v3, v4, v5, v6, v7] (.int (w 0) :: st) A Q := c_stk i_268_962 rfl
theorem q_268_963 : XX d 268 963 [v0, v1, v2, v3, v4, v5, v6, v7] [.int x] A Q ↔ (x = w 0 ∨ x = w 1) ∧ Q (.inl (some (.int x))) A := e_retZ i_268_963 rfl
theorem q_268_964 : XX d 268 964 [v0, v1, v2, v3, v4, v5, v6, v7] st A Q ↔ XX d 268 2288 [v0, v1, v2, v3, v4, v5, v6, v7] st A Q := c_go i_268_964 rfl rfl
theorem q_268_967 : XX d 268 967 [v0, some (.ref a), v2, v3, v4, v5, v6, v7] st A Q ↔ XX d 268 968 [v0, some (.ref a), v2, v3, v4, v5, v6, v7] (.ref a :: st) A Q := c_lcl i_268_967 rfl rfl
theorem q_268_968 : XX d 268 968 [some (.ref a), v1, v2, v3, v4, v5, v6, v7] st A Q ↔ XX d 268 969 [some (.ref a), v1, v2, v3, v4, v5, v6, v7] (.ref a :: st) A Q := c_lcl i_268_968 rfl rfl
theorem q_268_969 : XX d 268 969 [v0, v1, v2, v3, some (.int x), v5, v6, v7] st A Q ↔ XX d 268 971 [v0, v1, v2, v3, some (.int x), v5, v6, v7] (.int x :: st) A Q := c_lcl i_268_969 rfl rfl
theorem q_268_971 : XX d 268 971 [v0, v1, v2, v3, v4, v5, v6, v7] st A Q ↔ XX d 268 972 [v0, v1, v2, v3, v4, v5, v6, v7] (.int (w 1) :: st) A Q := c_stk i_268_971 rfl
theorem q_268_972 : XX d 268 972 [v0, v1, v2, v3, v4, v5, v6, v7] (.int y :: .int x :: st) A Q ↔ XX d 268 973 [v0, v1, v2, v3, v4, v5, v6, v7] (.int (x + y) :: st) A Q := c_stk i_268_972 rfl
theorem q_268_973 : XX d 268 973 [v0, v1, v2, v3, v4, v5, v6, v7] (.int x :: .ref a :: st) (mk S I L R G) Q ↔ inA (S a) ok_i x ∧ XX d 268 974 [v0, v1, v2, v3, v4, v5, v6, v7] (.int (I a (ix x)) :: st) (mk S I L R G) Q := r_ia i_268_973
theorem q_268_974 : XX d 268 974 [some (.ref a), v1, v2, v3, v4, v5, v6, v7] st A Q ↔ XX d 268 975 [some (.ref a), v1, v2, v3, v4, v5, v6, v7] (.ref a :: st) A Q := c_lcl i_268_974 rfl rfl
theorem q_268_975 : XX d 268 975 [v0, v1, v2, v3, some (.int x), v5, v6, v7] st A Q ↔ XX d 268 977 [v0, v1, v2, v3, some (.int x), v5, v6, v7] (.int x :: st) A Q := c_lcl i_268_975 rfl rfl
theorem q_268_977 : XX d 268 977 [v0, v1, v2, v3, v4, v5, v6, v7] st A Q ↔ XX d 268 978 [v0, v1, v2, v3, v4, v5, v6, v7] (.int (w 2) :: st) A Q := c_stk i_268_977 rfl
theorem q_268_978 : XX d 268 978 [v0, v1, v2, v3, v4, v5, v6, v7] (.int y :: .int x :: st) A Q ↔ XX d 268 979 [v0, v1, v2, v3, v4, v5, v6, v7] (.int (x + y) :: st) A Q := c_stk i_268_978 rfl
theorem q_268_979 : XX d 268 979 [v0, v1, v2, v3, v4, v5, v6, v7] (.int x :: .ref a :: st) (mk S I L R G) Q ↔ inA (S a) ok_i x ∧ XX d 268 980 [v0, v1, v2, v3, v4, v5, v6, v7] (.int (I a (ix x)) :: st) (mk S I L R G) Q := r_ia i_268_979
theorem q_268_980 : XX d 268 980 [some (.ref a), v1, v2, v3, v4, v5, v6, v7] st A Q ↔ XX d 268 981 [some (.ref a), v1, v2, v3, v4, v5, v6, v7] (.ref a :: st) A Q := c_lcl i_268_980 rfl rfl
theorem q_268_981 : XX d 268 981 [v0, v1, v2, v3, some (.int x), v5, v6, v7] st A Q ↔ XX d 268 983 [v0, v1, v2, v3, some (.int x), v5, v6, v7] (.int x :: st) A Q := c_lcl i_268_981 rfl rfl
theorem q_268_983 : XX d 268 983 [v0, v1, v2, v3, v4, v5, v6, v7] st A Q ↔ XX d 268 984 [v0, v1, v2, v3, v4, v5, v6, v7] (.int (w 3) :: st) A Q := c_stk i_268_983 rfl
theorem q_268_984 : XX d 268 984 [v0, v1, v2, v3, v4, v5, v6, v7] (.int y :: .int x :: st) A Q ↔ XX d 268 985 [v0, v1, v2, v3, v4, v5, v6, v7] (.int (x + y) :: st) A Q := c_stk i_268_984 rfl
theorem q_268_985 : XX d 268 985 [v0, v1, v2, v3, v4, v5, v6, v7] (.int x :: .ref a :: st) (mk S I L R G) Q ↔ inA (S a) ok_i x ∧ XX d 268 986 [v0, v1, v2, v3, v4, v5, v6, v7] (.int (I a (ix x)) :: st) (mk S I L R G) Q := r_ia i_268_985
theorem q_268_986 : XX d 268 986 [v0, v1, v2, some (.ref a), v4, v5, v6, v7] st A Q ↔ XX d 268 987 [v0, v1, v2, some (.ref a), v4, v5, v6, v7] (.ref a :: st) A Q := c_lcl i_268_986 rfl rfl
theorem q_268_987 : XX (d + 1) 268 987 [v0, v1, v2, v3, v4, v5, v6, v7] [.ref a4, .int x3, .int x2, .int x1, .ref a0] A Q ↔ XC d 250 [.ref a0, .int x1, .int x2, .int x3, .ref a4] A (XK (d + 1) 268 987 [v0, v1, v2, v3, v4, v5, v6, v7] [] Q) := c_callS i_268_987 rfl rfl rfl rfl (Nat.le_of_ble_eq_true rfl) (Nat.le_of_ble_eq_true rfl)
theorem q_268_990 : XX d 268 990 [v0, v1, v2, v3, some (.int z), v5, v6, v7] (.int x :: st) A Q ↔ XX d 268 992 [v0, v1, v2, v3, some (.int z), some (.int x), v6, v7] st A Q := c_lcl i_268_990 rfl rfl
theorem q_268_992 : XX d 268 992 [v0, v1, some (.ref a), v3, v4, v5, v6, v7] st A Q ↔ XX d 268 993 [v0, v1, some (.ref a), v3, v4, v5, v6, v7] (.ref a :: st) A Q := c_lcl i_268_992 rfl rfl
theorem q_268_993 : XX d 268 993 [some (.ref a), v1, v2, v3, v4, v5, v6, v7] st A Q ↔ XX d 268 994 [some (.ref a), v1, v2, v3, v4, v5, v6, v7] (.ref a :: st) A Q := c_lcl i_268_993 rfl rfl
theorem q_268_994 : XX d 268 994 [v0, v1, v2, v3, some (.int x), v5, v6, v7] st A Q ↔ XX d 268 996 [v0, v1, v2, v3, some (.int x), v5, v6, v7] (.int x :: st) A Q := c_lcl i_268_994 rfl rfl
theorem q_268_996 : XX d 268 996 [v0, v1, v2, v3, v4, v5, v6, v7] st A Q ↔ XX d 268 997 [v0, v1, v2, v3, v4, v5, v6, v7] (.int (w 1) :: st) A Q := c_stk i_268_996 rfl
theorem q_268_997 : XX d 268 997 [v0, v1, v2, v3, v4, v5, v6, v7] (.int y :: .int x :: st) A Q ↔ XX d 268 998 [v0, v1, v2, v3, v4, v5, v6, v7] (.int (x + y) :: st) A Q := c_stk i_268_997 rfl
theorem q_268_998 : XX d 268 998 [v0, v1, v2, v3, v4, v5, v6, v7] (.int x :: .ref a :: st) (mk S I L R G) Q ↔ inA (S a) ok_i x ∧ XX d 268 999 [v0, v1, v2, v3, v4, v5, v6, v7] (.int (I a (ix x)) :: st) (mk S I L R G) Q := r_ia i_268_998
theorem q_268_999 : XX d 268 999 [some (.ref a), v1, v2, v3, v4, v5, v6, v7] st A Q ↔ XX d 268 1000 [some (.ref a), v1, v2, v3, v4, v5, v6, v7] (.ref a :: st) A Q := c_lcl i_268_999 rfl rfl
theorem q_268_1000 : XX d 268 1000 [v0, v1, v2, v3, some (.int x), v5, v6, v7] st A Q ↔ XX d 268 1002 [v0, v1, v2, v3, some (.int x), v5, v6, v7] (.int x :: st) A Q := c_lcl i_268_1000 rfl rfl
theorem q_268_1002 : XX d 268 1002 [v0, v1, v2, v3, v4, v5, v6, v7] st A Q ↔ XX d 268 1003 [v0, v1, v2, v3, v4, v5, v6, v7] (.int (w 2) :: st) A Q := c_stk i_268_1002 rfl
theorem q_268_1003 : XX d 268 1003 [v0, v1, v2, v3, v4, v5, v6, v7] (.int y :: .int x :: st) A Q ↔ XX d 268 1004 [v0, v1, v2, v3, v4, v5, v6, v7] (.int (x + y) :: st) A Q := c_stk i_268_1003 rfl
theorem q_268_1004 : XX d 268 1004 [v0, v1, v2, v3, v4, v5, v6, v7] (.int x :: .ref a :: st) (mk S I L R G) Q ↔ inA (S a) ok_i x ∧ XX d 268 1005 [v0, v1, v2, v3, v4, v5, v6, v7] (.int (I a (ix x)) :: st) (mk S I L R G) Q := r_ia i_268_1004
theorem q_268_1005 : XX d 268 1005 [some (.ref a), v1, v2, v3, v4, v5, v6, v7] st A Q ↔ XX d 268 1006 [some (.ref a), v1, v2, v3, v4, v5, v6, v7] (.ref a :: st) A Q := c_lcl i_268_1005 rfl rfl
theorem q_268_1006 : XX d 268 1006 [v0, v1, v2, v3, some (.int x), v5, v6, v7] st A Q ↔ XX d 268 1008 [v0, v1, v2, v3, some (.int x), v5, v6, v7] (.int x :: st) A Q := c_lcl i_268_1006 rfl rfl
theorem q_268_1008 : XX d 268 1008 [v0, v1, v2, v3, v4, v5, v6, v7] st A Q ↔ XX d 268 1009 [v0, v1, v2, v3, v4, v5, v6, v7] (.int (w 3) :: st) A Q := c_stk i_268_1008 rfl
theorem q_268_1009 : XX d 268 1009 [v0, v1, v2, v3, v4, v5, v6, v7] (.int y :: .int x :: st) A Q ↔ XX d 268 1010 [v0, v1, v2, v3, v4, v5, v6, v7] (.int (x + y) :: st) A Q := c_stk i_268_1009 rfl
theorem q_268_1010 : XX d 268 1010 [v0, v1, v2, v3, v4, v5, v6, v7] (.int x :: .ref a :: st) (mk S I L R G) Q ↔ inA (S a) ok_i x ∧ XX d 268 1011 [v0, v1, v2, v3, v4, v5, v6, v7] (.int (I a (ix x)) :: st) (mk S I L R G) Q := r_ia i_268_1010
theorem q_268_1011 : XX (d + 1) 268 1011 [v0, v1, v2, v3, v4, v5, v6, v7] [.int x3, .int x2, .int x1, .ref a0] (mk S I L R G) Q ↔ S a0 = some (.inr 12) ∧ XC d 209 [.ref a0, .int x1, .int x2, .int x3] (mk S I L R G) (XK (d + 1) 268 1011 [v0, v1, v2, v3, v4, v5, v6, v7] [] Q) := c_callV i_268_1011 rfl rfl rfl rfl (Nat.le_of_ble_eq_true rfl) (Nat.le_of_ble_eq_true rfl) rfl
theorem q_268_1014 : XX d 268 1014 [v0, v1, v2, v3, v4, some (.int z), v6, v7] (.int x :: st) A Q ↔ XX d 268 1016 [v0, v1, v2, v3, v4, some (.int z), some (.int x), v7] st A Q := c_lcl i_268_1014 rfl rfl
theorem q_268_1016 : XX d 268 1016 [v0, v1, some (.ref a), v3, v4, v5, v6, v7] st A Q ↔ XX d 268 1017 [v0, v1, some (.ref a), v3, v4, v5, v6, v7] (.ref a :: st) A Q := c_lcl i_268_1016 rfl rfl
theorem q_268_1017 : XX (d + 1) 268 1017 [v0, v1, v2, v3, v4, v5, v6, v7] [.ref a0] (mk S I L R G) Q ↔ S a0 = some (.inr 12) ∧ XC d 153 [.ref a0] (mk S I L R G) (XK (d + 1) 268 1017 [v0, v1, v2, v3, v4, v5, v6, v7] [] Q) := c_callV i_268_1017 rfl rfl rfl rfl (Nat.le_of_ble_eq_true rfl) (Nat.le_of_ble_eq_true rfl) rfl
theorem q_268_1020 : XX d 268 1020 [v0, v1, v2, v3, v4, some (.int x), v6, v7] st A Q ↔ XX d 268 1022 [v0, v1, v2, v3, v4, some (.int x), v6, v7] (.int x :: st) A Q := c_lcl i_268_1020 rfl rfl
theorem q_268_1022 : XX d 268 1022 [v0, v1, v2, v3, v4, v5, v6, v7] (.int y :: .int x :: st) A Q ↔ if x = y then XX d 268 1027 [v0, v1, v2, v3, v4, v5, v6, v7] st A Q else XX d 268 1025 [v0, v1, v2, v3, v4, v5, v6, v7] st A Q := b_eq i_268_1022 rfl rfl rfl
theorem q_268_1025 : XX d 268 1025 [v0, v1, v2, v3, v4, v5, v6, v7] st A Q ↔ XX d 268 1026 [v0, v1, v2, v3, v4, v5, v6, v7] (.int (w 0) :: st) A Q := c_stk i_268_1025 rfl
theorem q_268_1026 : XX d 268 1026 [v0, v1, v2, v3, v4, v5, v6, v7] [.int x] A Q ↔ (x = w 0 ∨ x = w 1) ∧ Q (.inl (some (.int x))) A := e_retZ i_268_1026 rfl
theorem q_268_1027 : XX d 268 1027 [v0, v1, v2, v3, v4, some (.int x), v6, v7] st A Q ↔ XX d 268 1029 [v0, v1, v2, v3, v4, some (.int x), v6, v7] (.int x :: st) A Q := c_lcl i_268_1027 rfl rfl
theorem q_268_1029 : XX d 268 1029 [v0, v1, v2, v3, v4, v5, v6, v7] (.int x :: st) A Q ↔ if x = w 0 then XX d 268 1032 [v0, v1, v2, v3, v4, v5, v6, v7] st A Q else XX d 268 1044 [v0, v1, v2, v3, v4, v5, v6, v7] st A Q := z_ne i_268_1029 rfl rfl rfl
theorem q_268_1032 : XX d 268 1032 [v0, v1, v2, some (.ref a), v4, v5, v6, v7] st A Q ↔ XX d 268 1033 [v0, v1, v2, some (.ref a), v4, v5, v6, v7] (.ref a :: st) A Q := c_lcl i_268_1032 rfl rfl
theorem q_268_1033 : XX d 268 1033 [v0, v1, v2, v3, v4, v5, v6, v7] st A Q ↔ XX d 268 1034 [v0, v1, v2, v3, v4, v5, v6, v7] (.int (w 0) :: st) A Q := c_stk i_268_1033 rfl
theorem q_268_1034 : XX d 268 1034 [v0, v1, v2, v3, v4, v5, v6, v7] (.int x :: .ref a :: st) (mk S I L R G) Q ↔ inA (S a) ok_l x ∧ XX d 268 1035 [v0, v1, v2, v3, v4, v5, v6, v7] (.long (L a (ix x)) :: st) (mk S I L R G) Q := r_la i_268_1034
theorem q_268_1035 : XX d 268 1035 [v0, v1, v2, v3, v4, v5, some (.int x), v7] st A Q ↔ XX d 268 1037 [v0, v1, v2, v3, v4, v5, some (.int x), v7] (.int x :: st) A Q := c_lcl i_268_1035 rfl rfl
theorem q_268_1037 : XX d 268 1037 [v0, v1, v2, v3, v4, v5, v6, v7] (.int x :: st) A Q ↔ XX d 268 1038 [v0, v1, v2, v3, v4, v5, v6, v7] (.long x.toInt64 :: st) A Q := c_stk i_268_1037 rfl
theorem q_268_1038 : XX d 268 1038 [v0, v1, v2, v3, v4, v5, v6, v7] (.long ly :: .long lx :: st) A Q ↔ XX d 268 1039 [v0, v1, v2, v3, v4, v5, v6, v7] (.int (lg_cmp lx ly) :: st) A Q := c_stk i_268_1038 rfl
theorem q_268_1039 : XX d 268 1039 [v0, v1, v2, v3, v4, v5, v6, v7] (.int x :: st) A Q ↔ if x = w 0 then XX d 268 1044 [v0, v1, v2, v3, v4, v5, v6, v7] st A Q else XX d 268 1042 [v0, v1, v2, v3, v4, v5, v6, v7] st A Q := z_eq i_268_1039 rfl rfl rfl
theorem q_268_1042 : XX d 268 1042 [v0, v1, v2, v3, v4, v5, v6, v7] st A Q ↔ XX d 268 1043 [v0, v1, v2, v3, v4, v5, v6, v7] (.int (w 0) :: st) A Q := c_stk i_268_1042 rfl
theorem q_268_1043 : XX d 268 1043 [v0, v1, v2, v3, v4, v5, v6, v7] [.int x] A Q ↔ (x = w 0 ∨ x = w 1) ∧ Q (.inl (some (.int x))) A := e_retZ i_268_1043 rfl
theorem q_268_1044 : XX d 268 1044 [v0, v1, v2, v3, v4, v5, v6, v7] st A Q ↔ XX d 268 2288 [v0, v1, v2, v3, v4, v5, v6, v7] st A Q := c_go i_268_1044 rfl rfl
theorem q_268_1047 : XX d 268 1047 [v0, some (.ref a), v2, v3, v4, v5, v6, v7] st A Q ↔ XX d 268 1048 [v0, some (.ref a), v2, v3, v4, v5, v6, v7] (.ref a :: st) A Q := c_lcl i_268_1047 rfl rfl
theorem q_268_1048 : XX d 268 1048 [some (.ref a), v1, v2, v3, v4, v5, v6, v7] st A Q ↔ XX d 268 1049 [some (.ref a), v1, v2, v3, v4, v5, v6, v7] (.ref a :: st) A Q := c_lcl i_268_1048 rfl rfl
theorem q_268_1049 : XX d 268 1049 [v0, v1, v2, v3, some (.int x), v5, v6, v7] st A Q ↔ XX d 268 1051 [v0, v1, v2, v3, some (.int x), v5, v6, v7] (.int x :: st) A Q := c_lcl i_268_1049 rfl rfl
theorem q_268_1051 : XX d 268 1051 [v0, v1, v2, v3, v4, v5, v6, v7] st A Q ↔ XX d 268 1052 [v0, v1, v2, v3, v4, v5, v6, v7] (.int (w 1) :: st) A Q := c_stk i_268_1051 rfl
theorem q_268_1052 : XX d 268 1052 [v0, v1, v2, v3, v4, v5, v6, v7] (.int y :: .int x :: st) A Q ↔ XX d 268 1053 [v0, v1, v2, v3, v4, v5, v6, v7] (.int (x + y) :: st) A Q := c_stk i_268_1052 rfl
theorem q_268_1053 : XX d 268 1053 [v0, v1, v2, v3, v4, v5, v6, v7] (.int x :: .ref a :: st) (mk S I L R G) Q ↔ inA (S a) ok_i x ∧ XX d 268 1054 [v0, v1, v2, v3, v4, v5, v6, v7] (.int (I a (ix x)) :: st) (mk S I L R G) Q := r_ia i_268_1053
theorem q_268_1054 : XX d 268 1054 [some (.ref a), v1, v2, v3, v4, v5, v6, v7] st A Q ↔ XX d 268 1055 [some (.ref a), v1, v2, v3, v4, v5, v6, v7] (.ref a :: st) A Q := c_lcl i_268_1054 rfl rfl
theorem q_268_1055 : XX d 268 1055 [v0, v1, v2, v3, some (.int x), v5, v6, v7] st A Q ↔ XX d 268 1057 [v0, v1, v2, v3, some (.int x), v5, v6, v7] (.int x :: st) A Q := c_lcl i_268_1055 rfl rfl
theorem q_268_1057 : XX d 268 1057 [v0, v1, v2, v3, v4, v5, v6, v7] st A Q ↔ XX d 268 1058 [v0, v1, v2, v3, v4, v5, v6, v7] (.int (w 2) :: st) A Q := c_stk i_268_1057 rfl
theorem q_268_1058 : XX d 268 1058 [v0, v1, v2, v3, v4, v5, v6, v7] (.int y :: .int x :: st) A Q ↔ XX d 268 1059 [v0, v1, v2, v3, v4, v5, v6, v7] (.int (x + y) :: st) A Q := c_stk i_268_1058 rfl
theorem q_268_1059 : XX d 268 1059 [v0, v1, v2, v3, v4, v5, v6, v7] (.int x :: .ref a :: st) (mk S I L R G) Q ↔ inA (S a) ok_i x ∧ XX d 268 1060 [v0, v1, v2, v3, v4, v5, v6, v7] (.int (I a (ix x)) :: st) (mk S I L R G) Q := r_ia i_268_1059
theorem q_268_1060 : XX d 268 1060 [v0, v1, v2, some (.ref a), v4, v5, v6, v7] st A Q ↔ XX d 268 1061 [v0, v1, v2, some (.ref a), v4, v5, v6, v7] (.ref a :: st) A Q := c_lcl i_268_1060 rfl rfl
theorem q_268_1061 : XX (d + 1) 268 1061 [v0, v1, v2, v3, v4, v5, v6, v7] [.ref a3, .int x2, .int x1, .ref a0] A Q ↔ XC d 251 [.ref a0, .int x1, .int x2, .ref a3] A (XK (d + 1) 268 1061 [v0, v1, v2, v3, v4, v5, v6, v7] [] Q) := c_callS i_268_1061 rfl rfl rfl rfl (Nat.le_of_ble_eq_true rfl) (Nat.le_of_ble_eq_true rfl)
theorem q_268_1064 : XX d 268 1064 [v0, v1, v2, v3, some (.int z), v5, v6, v7] (.int x :: st) A Q ↔ XX d 268 1066 [v0, v1, v2, v3, some (.int z), some (.int x), v6, v7] st A Q := c_lcl i_268_1064 rfl rfl
theorem q_268_1066 : XX d 268 1066 [v0, v1, some (.ref a), v3, v4, v5, v6, v7] st A Q ↔ XX d 268 1067 [v0, v1, some (.ref a), v3, v4, v5, v6, v7] (.ref a :: st) A Q := c_lcl i_268_1066 rfl rfl
theorem q_268_1067 : XX d 268 1067 [some (.ref a), v1, v2, v3, v4, v5, v6, v7] st A Q ↔ XX d 268 1068 [some (.ref a), v1, v2, v3, v4, v5, v6, v7] (.ref a :: st) A Q := c_lcl i_268_1067 rfl rfl
theorem q_268_1068 : XX d 268 1068 [v0, v1, v2, v3, some (.int x), v5, v6, v7] st A Q ↔ XX d 268 1070 [v0, v1, v2, v3, some (.int x), v5, v6, v7] (.int x :: st) A Q := c_lcl i_268_1068 rfl rfl
theorem q_268_1070 : XX d 268 1070 [v0, v1, v2, v3, v4, v5, v6, v7] st A Q ↔ XX d 268 1071 [v0, v1, v2, v3, v4, v5, v6, v7] (.int (w 1) :: st) A Q := c_stk i_268_1070 rfl
theorem q_268_1071 : XX d 268 1071 [v0, v1, v2, v3, v4, v5, v6, v7] (.int y :: .int x :: st) A Q ↔ XX d 268 1072 [v0, v1, v2, v3, v4, v5, v6, v7] (.int (x + y) :: st) A Q := c_stk i_268_1071 rfl
theorem q_268_1072 : XX d 268 1072 [v0, v1, v2, v3, v4, v5, v6, v7] (.int x :: .ref a :: st) (mk S I L R G) Q ↔ inA (S a) ok_i x ∧ XX d 268 1073 [v0, v1, v2, v3, v4, v5, v6, v7] (.int (I a (ix x)) :: st) (mk S I L R G) Q := r_ia i_268_1072
theorem q_268_1073 : XX d 268 1073 [some (.ref a), v1, v2, v3, v4, v5, v6, v7] st A Q ↔ XX d 268 1074 [some (.ref a), v1, v2, v3, v4, v5, v6, v7] (.ref a :: st) A Q := c_lcl i_268_1073 rfl rfl
theorem q_268_1074 : XX d 268 1074 [v0, v1, v2, v3, some (.int x), v5, v6, v7] st A Q ↔ XX d 268 1076 [v0, v1, v2, v3, some (.int x), v5, v6, v7] (.int x :: st) A Q := c_lcl i_268_1074 rfl rfl
theorem q_268_1076 : XX d 268 1076 [v0, v1, v2, v3, v4, v5, v6, v7] st A Q ↔ XX d 268 1077 [v0, v1, v2, v3, v4, v5, v6, v7] (.int (w 2) :: st) A Q := c_stk i_268_1076 rfl
theorem q_268_1077 : XX d 268 1077 [v0, v1, v2, v3, v4, v5, v6, v7] (.int y :: .int x :: st) A Q ↔ XX d 268 1078 [v0, v1, v2, v3, v4, v5, v6, v7] (.int (x + y) :: st) A Q := c_stk i_268_1077 rfl
theorem q_268_1078 : XX d 268 1078 [v0, v1, v2, v3, v4, v5, v6, v7] (.int x :: .ref a :: st) (mk S I L R G) Q ↔ inA (S a) ok_i x ∧ XX d 268 1079 [v0, v1, v2, v3, v4, v5, v6, v7] (.int (I a (ix x)) :: st) (mk S I L R G) Q := r_ia i_268_1078
theorem q_268_1079 : XX (d + 1) 268 1079 [v0, v1, v2, v3, v4, v5, v6, v7] [.int x2, .int x1, .ref a0] (mk S I L R G) Q ↔ S a0 = some (.inr 12) ∧ XC d 210 [.ref a0, .int x1, .int x2] (mk S I L R G) (XK (d + 1) 268 1079 [v0, v1, v2, v3, v4, v5, v6, v7] [] Q) := c_callV i_268_1079 rfl rfl rfl rfl (Nat.le_of_ble_eq_true rfl) (Nat.le_of_ble_eq_true rfl) rfl
theorem q_268_1082 : XX d 268 1082 [v0, v1, v2, v3, v4, some (.int z), v6, v7] (.int x :: st) A Q ↔ XX d 268 1084 [v0, v1, v2, v3, v4, some (.int z), some (.int x), v7] st A Q := c_lcl i_268_1082 rfl rfl
theorem q_268_1084 : XX d 268 1084 [v0, v1, some (.ref a), v3, v4, v5, v6, v7] st A Q ↔ XX d 268 1085 [v0, v1, some (.ref a), v3, v4, v5, v6, v7] (.ref a :: st) A Q := c_lcl i_268_1084 rfl rfl
theorem q_268_1085 : XX (d + 1) 268 1085 [v0, v1, v2, v3, v4, v5, v6, v7] [.ref a0] (mk S I L R G) Q ↔ S a0 = some (.inr 12) ∧ XC d 153 [.ref a0] (mk S I L R G) (XK (d + 1) 268 1085 [v0, v1, v2, v3, v4, v5, v6, v7] [] Q) := c_callV i_268_1085 rfl rfl rfl rfl (Nat.le_of_ble_eq_true rfl) (Nat.le_of_ble_eq_true rfl) rfl
theorem q_268_1088 : XX d 268 1088 [v0, v1, v2, v3, v4, some (.int x), v6, v7] st A Q ↔ XX d 268 1090 [v0, v1, v2, v3, v4, some (.int x), v6, v7] (.int x :: st) A Q := c_lcl i_268_1088 rfl rfl
theorem q_268_1090 : XX d 268 1090 [v0, v1, v2, v3, v4, v5, v6, v7] (.int y :: .int x :: st) A Q ↔ if x = y then XX d 268 1095 [v0, v1, v2, v3, v4, v5, v6, v7] st A Q else XX d 268 1093 [v0, v1, v2, v3, v4, v5, v6, v7] st A Q := b_eq i_268_1090 rfl rfl rfl
theorem q_268_1093 : XX d 268 1093 [v0, v1, v2, v3, v4, v5, v6, v7] st A Q ↔ XX d 268 1094 [v0, v1, v2, v3, v4, v5, v6, v7] (.int (w 0) :: st) A Q := c_stk i_268_1093 rfl
theorem q_268_1094 : XX d 268 1094 [v0, v1, v2, v3, v4, v5, v6, v7] [.int x] A Q ↔ (x = w 0 ∨ x = w 1) ∧ Q (.inl (some (.int x))) A := e_retZ i_268_1094 rfl
theorem q_268_1095 : XX d 268 1095 [v0, v1, v2, v3, v4, some (.int x), v6, v7] st A Q ↔ XX d 268 1097 [v0, v1, v2, v3, v4, some (.int x), v6, v7] (.int x :: st) A Q := c_lcl i_268_1095 rfl rfl
theorem q_268_1097 : XX d 268 1097 [v0, v1, v2, v3, v4, v5, v6, v7] (.int x :: st) A Q ↔ if x = w 0 then XX d 268 1100 [v0, v1, v2, v3, v4, v5, v6, v7] st A Q else XX d 268 1112 [v0, v1, v2, v3, v4, v5, v6, v7] st A Q := z_ne i_268_1097 rfl rfl rfl
theorem q_268_1100 : XX d 268 1100 [v0, v1, v2, some (.ref a), v4, v5, v6, v7] st A Q ↔ XX d 268 1101 [v0, v1, v2, some (.ref a), v4, v5, v6, v7] (.ref a :: st) A Q := c_lcl i_268_1100 rfl rfl
theorem q_268_1101 : XX d 268 1101 [v0, v1, v2, v3, v4, v5, v6, v7] st A Q ↔ XX d 268 1102 [v0, v1, v2, v3, v4, v5, v6, v7] (.int (w 0) :: st) A Q := c_stk i_268_1101 rfl
theorem q_268_1102 : XX d 268 1102 [v0, v1, v2, v3, v4, v5, v6, v7] (.int x :: .ref a :: st) (mk S I L R G) Q ↔ inA (S a) ok_l x ∧ XX d 268 1103 [v0, v1, v2, v3, v4, v5, v6, v7] (.long (L a (ix x)) :: st) (mk S I L R G) Q := r_la i_268_1102
theorem q_268_1103 : XX d 268 1103 [v0, v1, v2, v3, v4, v5, some (.int x), v7] st A Q ↔ XX d 268 1105 [v0, v1, v2, v3, v4, v5, some (.int x), v7] (.int x :: st) A Q := c_lcl i_268_1103 rfl rfl
theorem q_268_1105 : XX d 268 1105 [v0, v1, v2, v3, v4, v5, v6, v7] (.int x :: st) A Q ↔ XX d 268 1106 [v0, v1, v2, v3, v4, v5, v6, v7] (.long x.toInt64 :: st) A Q := c_stk i_268_1105 rfl
theorem q_268_1106 : XX d 268 1106 [v0, v1, v2, v3, v4, v5, v6, v7] (.long ly :: .long lx :: st) A Q ↔ XX d 268 1107 [v0, v1, v2, v3, v4, v5, v6, v7] (.int (lg_cmp lx ly) :: st) A Q := c_stk i_268_1106 rfl
theorem q_268_1107 : XX d 268 1107 [v0, v1, v2, v3, v4, v5, v6, v7] (.int x :: st) A Q ↔ if x = w 0 then XX d 268 1112 [v0, v1, v2, v3, v4, v5, v6, v7] st A Q else XX d 268 1110 [v0, v1, v2, v3, v4, v5, v6, v7] st A Q := z_eq i_268_1107 rfl rfl rfl
theorem q_268_1110 : XX d 268 1110 [v0, v1, v2, v3, v4, v5, v6, v7] st A Q ↔ XX d 268 1111 [v0, v1, v2, v3, v4, v5, v6, v7] (.int (w 0) :: st) A Q := c_stk i_268_1110 rfl
theorem q_268_1111 : XX d 268 1111 [v0, v1, v2, v3, v4, v5, v6, v7] [.int x] A Q ↔ (x = w 0 ∨ x = w 1) ∧ Q (.inl (some (.int x))) A := e_retZ i_268_1111 rfl
theorem q_268_1112 : XX d 268 1112 [v0, v1, v2, v3, v4, v5, v6, v7] st A Q ↔ XX d 268 2288 [v0, v1, v2, v3, v4, v5, v6, v7] st A Q := c_go i_268_1112 rfl rfl
theorem q_268_1115 : XX d 268 1115 [v0, some (.ref a), v2, v3, v4, v5, v6, v7] st A Q ↔ XX d 268 1116 [v0, some (.ref a), v2, v3, v4, v5, v6, v7] (.ref a :: st) A Q := c_lcl i_268_1115 rfl rfl
theorem q_268_1116 : XX d 268 1116 [some (.ref a), v1, v2, v3, v4, v5, v6, v7] st A Q ↔ XX d 268 1117 [some (.ref a), v1, v2, v3, v4, v5, v6, v7] (.ref a :: st) A Q := c_lcl i_268_1116 rfl rfl
theorem q_268_1117 : XX d 268 1117 [v0, v1, v2, v3, some (.int x), v5, v6, v7] st A Q ↔ XX d 268 1119 [v0, v1, v2, v3, some (.int x), v5, v6, v7] (.int x :: st) A Q := c_lcl i_268_1117 rfl rfl
theorem q_268_1119 : XX d 268 1119 [v0, v1, v2, v3, v4, v5, v6, v7] st A Q ↔ XX d 268 1120 [v0, v1, v2, v3, v4, v5, v6, v7] (.int (w 1) :: st) A Q := c_stk i_268_1119 rfl
theorem q_268_1120 : XX d 268 1120 [v0, v1, v2, v3, v4, v5, v6, v7] (.int y :: .int x :: st) A Q ↔ XX d 268 1121 [v0, v1, v2, v3, v4, v5, v6, v7] (.int (x + y) :: st) A Q := c_stk i_268_1120 rfl
theorem q_268_1121 : XX d 268 1121 [v0, v1, v2, v3, v4, v5, v6, v7] (.int x :: .ref a :: st) (mk S I L R G) Q ↔ inA (S a) ok_i x ∧ XX d 268 1122 [v0, v1, v2, v3, v4, v5, v6, v7] (.int (I a (ix x)) :: st) (mk S I L R G) Q := r_ia i_268_1121
theorem q_268_1122 : XX d 268 1122 [some (.ref a), v1, v2, v3, v4, v5, v6, v7] st A Q ↔ XX d 268 1123 [some (.ref a), v1, v2, v3, v4, v5, v6, v7] (.ref a :: st) A Q := c_lcl i_268_1122 rfl rfl
theorem q_268_1123 : XX d 268 1123 [v0, v1, v2, v3, some (.int x), v5, v6, v7] st A Q ↔ XX d 268 1125 [v0, v1, v2, v3, some (.int x), v5, v6, v7] (.int x :: st) A Q := c_lcl i_268_1123 rfl rfl
theorem q_268_1125 : XX d 268 1125 [v0, v1, v2, v3, v4, v5, v6, v7] st A Q ↔ XX d 268 1126 [v0, v1, v2, v3, v4, v5, v6, v7] (.int (w 2) :: st) A Q := c_stk i_268_1125 rfl
theorem q_268_1126 : XX d 268 1126 [v0, v1, v2, v3, v4, v5, v6, v7] (.int y :: .int x :: st) A Q ↔ XX d 268 1127 [v0, v1, v2, v3, v4, v5, v6, v7] (.int (x + y) :: st) A Q := c_stk i_268_1126 rfl
theorem q_268_1127 : XX d 268 1127 [v0, v1, v2, v3, v4, v5, v6, v7] (.int x :: .ref a :: st) (mk S I L R G) Q ↔ inA (S a) ok_i x ∧ XX d 268 1128 [v0, v1, v2, v3, v4, v5, v6, v7] (.int (I a (ix x)) :: st) (mk S I L R G) Q := r_ia i_268_1127
theorem q_268_1128 : XX d 268 1128 [v0, v1, v2, some (.ref a), v4, v5, v6, v7] st A Q ↔ XX d 268 1129 [v0, v1, v2, some (.ref a), v4, v5, v6, v7] (.ref a :: st) A Q := c_lcl i_268_1128 rfl rfl
theorem q_268_1129 : XX (d + 1) 268 1129 [v0, v1, v2, v3, v4, v5, v6, v7] [.ref a3, .int x2, .int x1, .ref a0] A Q ↔ XC d 252 [.ref a0, .int x1, .int x2, .ref a3] A (XK (d + 1) 268 1129 [v0, v1, v2, v3, v4, v5, v6, v7] [] Q) := c_callS i_268_1129 rfl rfl rfl rfl (Nat.le_of_ble_eq_true rfl) (Nat.le_of_ble_eq_true rfl)
theorem q_268_1132 : XX d 268 1132 [v0, v1, v2, v3, some (.int z), v5, v6, v7] (.int x :: st) A Q ↔ XX d 268 1134 [v0, v1, v2, v3, some (.int z), some (.int x), v6, v7] st A Q := c_lcl i_268_1132 rfl rfl
theorem q_268_1134 : XX d 268 1134 [v0, v1, some (.ref a), v3, v4, v5, v6, v7] st A Q ↔ XX d 268 1135 [v0, v1, some (.ref a), v3, v4, v5, v6, v7] (.ref a :: st) A Q := c_lcl i_268_1134 rfl rfl
theorem q_268_1135 : XX d 268 1135 [some (.ref a), v1, v2, v3, v4, v5, v6, v7] st A Q ↔ XX d 268 1136 [some (.ref a), v1, v2, v3, v4, v5, v6, v7] (.ref a :: st) A Q := c_lcl i_268_1135 rfl rfl
theorem q_268_1136 : XX d 268 1136 [v0, v1, v2, v3, some (.int x), v5, v6, v7] st A Q ↔ XX d 268 1138 [v0, v1, v2, v3, some (.int x), v5, v6, v7] (.int x :: st) A Q := c_lcl i_268_1136 rfl rfl
theorem q_268_1138 : XX d 268 1138 [v0, v1, v2, v3, v4, v5, v6, v7] st A Q ↔ XX d 268 1139 [v0, v1, v2, v3, v4, v5, v6, v7] (.int (w 1) :: st) A Q := c_stk i_268_1138 rfl
theorem q_268_1139 : XX d 268 1139 [v0, v1, v2, v3, v4, v5, v6, v7] (.int y :: .int x :: st) A Q ↔ XX d 268 1140 [v0, v1, v2, v3, v4, v5, v6, v7] (.int (x + y) :: st) A Q := c_stk i_268_1139 rfl
theorem q_268_1140 : XX d 268 1140 [v0, v1, v2, v3, v4, v5, v6, v7] (.int x :: .ref a :: st) (mk S I L R G) Q ↔ inA (S a) ok_i x ∧ XX d 268 1141 [v0, v1, v2, v3, v4, v5, v6, v7] (.int (I a (ix x)) :: st) (mk S I L R G) Q := r_ia i_268_1140
theorem q_268_1141 : XX d 268 1141 [some (.ref a), v1, v2, v3, v4, v5, v6, v7] st A Q ↔ XX d 268 1142 [some (.ref a), v1, v2, v3, v4, v5, v6, v7] (.ref a :: st) A Q := c_lcl i_268_1141 rfl rfl
theorem q_268_1142 : XX d 268 1142 [v0, v1, v2, v3, some (.int x), v5, v6, v7] st A Q ↔ XX d 268 1144 [v0, v1, v2, v3, some (.int x), v5, v6, v7] (.int x :: st) A Q := c_lcl i_268_1142 rfl rfl
theorem q_268_1144 : XX d 268 1144 [v0, v1, v2, v3, v4, v5, v6, v7] st A Q ↔ XX d 268 1145 [v0, v1, v2, v3, v4, v5, v6, v7] (.int (w 2) :: st) A Q := c_stk i_268_1144 rfl
theorem q_268_1145 : XX d 268 1145 [v0, v1, v2, v3, v4, v5, v6, v7] (.int y :: .int x :: st) A Q ↔ XX d 268 1146 [v0, v1, v2, v3, v4, v5, v6, v7] (.int (x + y) :: st) A Q := c_stk i_268_1145 rfl
theorem q_268_1146 : XX d 268 1146 [v0, v1, v2, v3, v4, v5, v6, v7] (.int x :: .ref a :: st) (mk S I L R G) Q ↔ inA (S a) ok_i x ∧ XX d 268 1147 [v0, v1, v2, v3, v4, v5, v6, v7] (.int (I a (ix x)) :: st) (mk S I L R G) Q := r_ia i_268_1146
theorem q_268_1147 : XX (d + 1) 268 1147 [v0, v1, v2, v3, v4, v5, v6, v7] [.int x2, .int x1, .ref a0] (mk S I L R G) Q ↔ S a0 = some (.inr 12) ∧ XC d 211 [.ref a0, .int x1, .int x2] (mk S I L R G) (XK (d + 1) 268 1147 [v0, v1, v2, v3, v4, v5, v6, v7] [] Q) := c_callV i_268_1147 rfl rfl rfl rfl (Nat.le_of_ble_eq_true rfl) (Nat.le_of_ble_eq_true rfl) rfl
theorem q_268_1150 : XX d 268 1150 [v0, v1, v2, v3, v4, some (.int z), v6, v7] (.int x :: st) A Q ↔ XX d 268 1152 [v0, v1, v2, v3, v4, some (.int z), some (.int x), v7] st A Q := c_lcl i_268_1150 rfl rfl
theorem q_268_1152 : XX d 268 1152 [v0, v1, some (.ref a), v3, v4, v5, v6, v7] st A Q ↔ XX d 268 1153 [v0, v1, some (.ref a), v3, v4, v5, v6, v7] (.ref a :: st) A Q := c_lcl i_268_1152 rfl rfl
theorem q_268_1153 : XX (d + 1) 268 1153 [v0, v1, v2, v3, v4, v5, v6, v7] [.ref a0] (mk S I L R G) Q ↔ S a0 = some (.inr 12) ∧ XC d 153 [.ref a0] (mk S I L R G) (XK (d + 1) 268 1153 [v0, v1, v2, v3, v4, v5, v6, v7] [] Q) := c_callV i_268_1153 rfl rfl rfl rfl (Nat.le_of_ble_eq_true rfl) (Nat.le_of_ble_eq_true rfl) rfl
theorem q_268_1156 : XX d 268 1156 [v0, v1, v2, v3, v4, some (.int x), v6, v7] st A Q ↔ XX d 268 1158 [v0, v1, v2, v3, v4, some (.int x), v6, v7] (.int x :: st) A Q := c_lcl i_268_1156 rfl rfl
theorem q_268_1158 : XX d 268 1158 [v0, v1, v2, v3, v4, v5, v6, v7] (.int y :: .int x :: st) A Q ↔ if x = y then XX d 268 1163 [v0, v1, v2, v3, v4, v5, v6, v7] st A Q else XX d 268 1161 [v0, v1, v2, v3, v4, v5, v6, v7] st A Q := b_eq i_268_1158 rfl rfl rfl
theorem q_268_1161 : XX d 268 1161 [v0, v1, v2, v3, v4, v5, v6, v7] st A Q ↔ XX d 268 1162 [v0, v1, v2, v3, v4, v5, v6, v7] (.int (w 0) :: st) A Q := c_stk i_268_1161 rfl
theorem q_268_1162 : XX d 268 1162 [v0, v1, v2, v3, v4, v5, v6, v7] [.int x] A Q ↔ (x = w 0 ∨ x = w 1) ∧ Q (.inl (some (.int x))) A := e_retZ i_268_1162 rfl
theorem q_268_1163 : XX d 268 1163 [v0, v1, v2, v3, v4, some (.int x), v6, v7] st A Q ↔ XX d 268 1165 [v0, v1, v2, v3, v4, some (.int x), v6, v7] (.int x :: st) A Q := c_lcl i_268_1163 rfl rfl
theorem q_268_1165 : XX d 268 1165 [v0, v1, v2, v3, v4, v5, v6, v7] (.int x :: st) A Q ↔ if x = w 0 then XX d 268 1168 [v0, v1, v2, v3, v4, v5, v6, v7] st A Q else XX d 268 1180 [v0, v1, v2, v3, v4, v5, v6, v7] st A Q := z_ne i_268_1165 rfl rfl rfl
theorem q_268_1168 : XX d 268 1168 [v0, v1, v2, some (.ref a), v4, v5, v6, v7] st A Q ↔ XX d 268 1169 [v0, v1, v2, some (.ref a), v4, v5, v6, v7] (.ref a :: st) A Q := c_lcl i_268_1168 rfl rfl
theorem q_268_1169 : XX d 268 1169 [v0, v1, v2, v3, v4, v5, v6, v7] st A Q ↔ XX d 268 1170 [v0, v1, v2, v3, v4, v5, v6, v7] (.int (w 0) :: st) A Q := c_stk i_268_1169 rfl
theorem q_268_1170 : XX d 268 1170 [v0, v1, v2, v3, v4, v5, v6, v7] (.int x :: .ref a :: st) (mk S I L R G) Q ↔ inA (S a) ok_l x ∧ XX d 268 1171 [v0, v1, v2, v3, v4, v5, v6, v7] (.long (L a (ix x)) :: st) (mk S I L R G) Q := r_la i_268_1170
theorem q_268_1171 : XX d 268 1171 [v0, v1, v2, v3, v4, v5, some (.int x), v7] st A Q ↔ XX d 268 1173 [v0, v1, v2, v3, v4, v5, some (.int x), v7] (.int x :: st) A Q := c_lcl i_268_1171 rfl rfl
theorem q_268_1173 : XX d 268 1173 [v0, v1, v2, v3, v4, v5, v6, v7] (.int x :: st) A Q ↔ XX d 268 1174 [v0, v1, v2, v3, v4, v5, v6, v7] (.long x.toInt64 :: st) A Q := c_stk i_268_1173 rfl
theorem q_268_1174 : XX d 268 1174 [v0, v1, v2, v3, v4, v5, v6, v7] (.long ly :: .long lx :: st) A Q ↔ XX d 268 1175 [v0, v1, v2, v3, v4, v5, v6, v7] (.int (lg_cmp lx ly) :: st) A Q := c_stk i_268_1174 rfl
theorem q_268_1175 : XX d 268 1175 [v0, v1, v2, v3, v4, v5, v6, v7] (.int x :: st) A Q ↔ if x = w 0 then XX d 268 1180 [v0, v1, v2, v3, v4, v5, v6, v7] st A Q else XX d 268 1178 [v0, v1, v2, v3, v4, v5, v6, v7] st A Q := z_eq i_268_1175 rfl rfl rfl
theorem q_268_1178 : XX d 268 1178 [v0, v1, v2, v3, v4, v5, v6, v7] st A Q ↔ XX d 268 1179 [v0, v1, v2, v3, v4, v5, v6, v7] (.int (w 0) :: st) A Q := c_stk i_268_1178 rfl
theorem q_268_1179 : XX d 268 1179 [v0, v1, v2, v3, v4, v5, v6, v7] [.int x] A Q ↔ (x = w 0 ∨ x = w 1) ∧ Q (.inl (some (.int x))) A := e_retZ i_268_1179 rfl
theorem q_268_1180 : XX d 268 1180 [v0, v1, v2, v3, v4, v5, v6, v7] st A Q ↔ XX d 268 2288 [v0, v1, v2, v3, v4, v5, v6, v7] st A Q := c_go i_268_1180 rfl rfl
theorem q_268_1183 : XX d 268 1183 [v0, some (.ref a), v2, v3, v4, v5, v6, v7] st A Q ↔ XX d 268 1184 [v0, some (.ref a), v2, v3, v4, v5, v6, v7] (.ref a :: st) A Q := c_lcl i_268_1183 rfl rfl
theorem q_268_1184 : XX d 268 1184 [some (.ref a), v1, v2, v3, v4, v5, v6, v7] st A Q ↔ XX d 268 1185 [some (.ref a), v1, v2, v3, v4, v5, v6, v7] (.ref a :: st) A Q := c_lcl i_268_1184 rfl rfl
theorem q_268_1185 : XX d 268 1185 [v0, v1, v2, v3, some (.int x), v5, v6, v7] st A Q ↔ XX d 268 1187 [v0, v1, v2, v3, some (.int x), v5, v6, v7] (.int x :: st) A Q := c_lcl i_268_1185 rfl rfl
theorem q_268_1187 : XX d 268 1187 [v0, v1, v2, v3, v4, v5, v6, v7] st A Q ↔ XX d 268 1188 [v0, v1, v2, v3, v4, v5, v6, v7] (.int (w 1) :: st) A Q := c_stk i_268_1187 rfl
theorem q_268_1188 : XX d 268 1188 [v0, v1, v2, v3, v4, v5, v6, v7] (.int y :: .int x :: st) A Q ↔ XX d 268 1189 [v0, v1, v2, v3, v4, v5, v6, v7] (.int (x + y) :: st) A Q := c_stk i_268_1188 rfl
theorem q_268_1189 : XX d 268 1189 [v0, v1, v2, v3, v4, v5, v6, v7] (.int x :: .ref a :: st) (mk S I L R G) Q ↔ inA (S a) ok_i x ∧ XX d 268 1190 [v0, v1, v2, v3, v4, v5, v6, v7] (.int (I a (ix x)) :: st) (mk S I L R G) Q := r_ia i_268_1189
theorem q_268_1190 : XX d 268 1190 [some (.ref a), v1, v2, v3, v4, v5, v6, v7] st A Q ↔ XX d 268 1191 [some (.ref a), v1, v2, v3, v4, v5, v6, v7] (.ref a :: st) A Q := c_lcl i_268_1190 rfl rfl
theorem q_268_1191 : XX d 268 1191 [v0, v1, v2, v3, some (.int x), v5, v6, v7] st A Q ↔ XX d 268 1193 [v0, v1, v2, v3, some (.int x), v5, v6, v7] (.int x :: st) A Q := c_lcl i_268_1191 rfl rfl
theorem q_268_1193 : XX d 268 1193 [v0, v1, v2, v3, v4, v5, v6, v7] st A Q ↔ XX d 268 1194 [v0, v1, v2, v3, v4, v5, v6, v7] (.int (w 2) :: st) A Q := c_stk i_268_1193 rfl
theorem q_268_1194 : XX d 268 1194 [v0, v1, v2, v3, v4, v5, v6, v7] (.int y :: .int x :: st) A Q ↔ XX d 268 1195 [v0, v1, v2, v3, v4, v5, v6, v7] (.int (x + y) :: st) A Q := c_stk i_268_1194 rfl
theorem q_268_1195 : XX d 268 1195 [v0, v1, v2, v3, v4, v5, v6, v7] (.int x :: .ref a :: st) (mk S I L R G) Q ↔ inA (S a) ok_i x ∧ XX d 268 1196 [v0, v1, v2, v3, v4, v5, v6, v7] (.int (I a (ix x)) :: st) (mk S I L R G) Q := r_ia i_268_1195
theorem q_268_1196 : XX d 268 1196 [some (.ref a), v1, v2, v3, v4, v5, v6, v7] st A Q ↔ XX d 268 1197 [some (.ref a), v1, v2, v3, v4, v5, v6, v7] (.ref a :: st) A Q := c_lcl i_268_1196 rfl rfl
theorem q_268_1197 : XX d 268 1197 [v0, v1, v2, v3, some (.int x), v5, v6, v7] st A Q ↔ XX d 268 1199 [v0, v1, v2, v3, some (.int x), v5, v6, v7] (.int x :: st) A Q := c_lcl i_268_1197 rfl rfl
theorem q_268_1199 : XX d 268 1199 [v0, v1, v2, v3, v4, v5, v6, v7] st A Q ↔ XX d 268 1200 [v0, v1, v2, v3, v4, v5, v6, v7] (.int (w 3) :: st) A Q := c_stk i_268_1199 rfl
theorem q_268_1200 : XX d 268 1200 [v0, v1, v2, v3, v4, v5, v6, v7] (.int y :: .int x :: st) A Q ↔ XX d 268 1201 [v0, v1, v2, v3, v4, v5, v6, v7] (.int (x + y) :: st) A Q := c_stk i_268_1200 rfl
theorem q_268_1201 : XX d 268 1201 [v0, v1, v2, v3, v4, v5, v6, v7] (.int x :: .ref a :: st) (mk S I L R G) Q ↔ inA (S a) ok_i x ∧ XX d 268 1202 [v0, v1, v2, v3, v4, v5, v6, v7] (.int (I a (ix x)) :: st) (mk S I L R G) Q := r_ia i_268_1201
theorem q_268_1202 : XX d 268 1202 [some (.ref a), v1, v2, v3, v4, v5, v6, v7] st A Q ↔ XX d 268 1203 [some (.ref a), v1, v2, v3, v4, v5, v6, v7] (.ref a :: st) A Q := c_lcl i_268_1202 rfl rfl
theorem q_268_1203 : XX d 268 1203 [v0, v1, v2, v3, some (.int x), v5, v6, v7] st A Q ↔ XX d 268 1205 [v0, v1, v2, v3, some (.int x), v5, v6, v7] (.int x :: st) A Q := c_lcl i_268_1203 rfl rfl
theorem q_268_1205 : XX d 268 1205 [v0, v1, v2, v3, v4, v5, v6, v7] st A Q ↔ XX d 268 1206 [v0, v1, v2, v3, v4, v5, v6, v7] (.int (w 4) :: st) A Q := c_stk i_268_1205 rfl
theorem q_268_1206 : XX d 268 1206 [v0, v1, v2, v3, v4, v5, v6, v7] (.int y :: .int x :: st) A Q ↔ XX d 268 1207 [v0, v1, v2, v3, v4, v5, v6, v7] (.int (x + y) :: st) A Q := c_stk i_268_1206 rfl
theorem q_268_1207 : XX d 268 1207 [v0, v1, v2, v3, v4, v5, v6, v7] (.int x :: .ref a :: st) (mk S I L R G) Q ↔ inA (S a) ok_i x ∧ XX d 268 1208 [v0, v1, v2, v3, v4, v5, v6, v7] (.int (I a (ix x)) :: st) (mk S I L R G) Q := r_ia i_268_1207
theorem q_268_1208 : XX d 268 1208 [v0, v1, v2, some (.ref a), v4, v5, v6, v7] st A Q ↔ XX d 268 1209 [v0, v1, v2, some (.ref a), v4, v5, v6, v7] (.ref a :: st) A Q := c_lcl i_268_1208 rfl rfl
theorem q_268_1209 : XX (d + 1) 268 1209 [v0, v1, v2, v3, v4, v5, v6, v7] [.ref a5, .int x4, .int x3, .int x2, .int x1, .ref a0] A Q ↔ XC d 253 [.ref a0, .int x1, .int x2, .int x3, .int x4, .ref a5] A (XK (d + 1) 268 1209 [v0, v1, v2, v3, v4, v5, v6, v7] [] Q) := c_callS i_268_1209 rfl rfl rfl rfl (Nat.le_of_ble_eq_true rfl) (Nat.le_of_ble_eq_true rfl)
theorem q_268_1212 : XX d 268 1212 [v0, v1, v2, v3, some (.int z), v5, v6, v7] (.int x :: st) A Q ↔ XX d 268 1214 [v0, v1, v2, v3, some (.int z), some (.int x), v6, v7] st A Q := c_lcl i_268_1212 rfl rfl
theorem q_268_1214 : XX d 268 1214 [v0, v1, some (.ref a), v3, v4, v5, v6, v7] st A Q ↔ XX d 268 1215 [v0, v1, some (.ref a), v3, v4, v5, v6, v7] (.ref a :: st) A Q := c_lcl i_268_1214 rfl rfl
theorem q_268_1215 : XX d 268 1215 [some (.ref a), v1, v2, v3, v4, v5, v6, v7] st A Q ↔ XX d 268 1216 [some (.ref a), v1, v2, v3, v4, v5, v6, v7] (.ref a :: st) A Q := c_lcl i_268_1215 rfl rfl
theorem q_268_1216 : XX d 268 1216 [v0, v1, v2, v3, some (.int x), v5, v6, v7] st A Q ↔ XX d 268 1218 [v0, v1, v2, v3, some (.int x), v5, v6, v7] (.int x :: st) A Q := c_lcl i_268_1216 rfl rfl
theorem q_268_1218 : XX d 268 1218 [v0, v1, v2, v3, v4, v5, v6, v7] st A Q ↔ XX d 268 1219 [v0, v1, v2, v3, v4, v5, v6, v7] (.int (w 1) :: st) A Q := c_stk i_268_1218 rfl
theorem q_268_1219 : XX d 268 1219 [v0, v1, v2, v3, v4, v5, v6, v7] (.int y :: .int x :: st) A Q ↔ XX d 268 1220 [v0, v1, v2, v3, v4, v5, v6, v7] (.int (x + y) :: st) A Q := c_stk i_268_1219 rfl
theorem q_268_1220 : XX d 268 1220 [v0, v1, v2, v3, v4, v5, v6, v7] (.int x :: .ref a :: st) (mk S I L R G) Q ↔ inA (S a) ok_i x ∧ XX d 268 1221 [v0, v1, v2, v3, v4, v5, v6, v7] (.int (I a (ix x)) :: st) (mk S I L R G) Q := r_ia i_268_1220
theorem q_268_1221 : XX d 268 1221 [some (.ref a), v1, v2, v3, v4, v5, v6, v7] st A Q ↔ XX d 268 1222 [some (.ref a), v1, v2, v3, v4, v5, v6, v7] (.ref a :: st) A Q := c_lcl i_268_1221 rfl rfl
theorem q_268_1222 : XX d 268 1222 [v0, v1, v2, v3, some (.int x), v5, v6, v7] st A Q ↔ XX d 268 1224 [v0, v1, v2, v3, some (.int x), v5, v6, v7] (.int x :: st) A Q := c_lcl i_268_1222 rfl rfl
theorem q_268_1224 : XX d 268 1224 [v0, v1, v2, v3, v4, v5, v6, v7] st A Q ↔ XX d 268 1225 [v0, v1, v2, v3, v4, v5, v6, v7] (.int (w 2) :: st) A Q := c_stk i_268_1224 rfl
theorem q_268_1225 : XX d 268 1225 [v0, v1, v2, v3, v4, v5, v6, v7] (.int y :: .int x :: st) A Q ↔ XX d 268 1226 [v0, v1, v2, v3, v4, v5, v6, v7] (.int (x + y) :: st) A Q := c_stk i_268_1225 rfl
theorem q_268_1226 : XX d 268 1226 [v0, v1, v2, v3, v4, v5, v6, v7] (.int x :: .ref a :: st) (mk S I L R G) Q ↔ inA (S a) ok_i x ∧ XX d 268 1227 [v0, v1, v2, v3, v4, v5, v6, v7] (.int (I a (ix x)) :: st) (mk S I L R G) Q := r_ia i_268_1226
theorem q_268_1227 : XX d 268 1227 [some (.ref a), v1, v2, v3, v4, v5, v6, v7] st A Q ↔ XX d 268 1228 [some (.ref a), v1, v2, v3, v4, v5, v6, v7] (.ref a :: st) A Q := c_lcl i_268_1227 rfl rfl
theorem q_268_1228 : XX d 268 1228 [v0, v1, v2, v3, some (.int x), v5, v6, v7] st A Q ↔ XX d 268 1230 [v0, v1, v2, v3, some (.int x), v5, v6, v7] (.int x :: st) A Q := c_lcl i_268_1228 rfl rfl
theorem q_268_1230 : XX d 268 1230 [v0, v1, v2, v3, v4, v5, v6, v7] st A Q ↔ XX d 268 1231 [v0, v1, v2, v3, v4, v5, v6, v7] (.int (w 3) :: st) A Q := c_stk i_268_1230 rfl
theorem q_268_1231 : XX d 268 1231 [v0, v1, v2, v3, v4, v5, v6, v7] (.int y :: .int x :: st) A Q ↔ XX d 268 1232 [v0, v1, v2, v3, v4, v5, v6, v7] (.int (x + y) :: st) A Q := c_stk i_268_1231 rfl
theorem q_268_1232 : XX d 268 1232 [v0, v1, v2, v3, v4, v5, v6, v7] (.int x :: .ref a :: st) (mk S I L R G) Q ↔ inA (S a) ok_i x ∧ XX d 268 1233 [v0, v1, v2, v3, v4, v5, v6, v7] (.int (I a (ix x)) :: st) (mk S I L R G) Q := r_ia i_268_1232
theorem q_268_1233 : XX d 268 1233 [some (.ref a), v1, v2, v3, v4, v5, v6, v7] st A Q ↔ XX d 268 1234 [some (.ref a), v1, v2, v3, v4, v5, v6, v7] (.ref a :: st) A Q := c_lcl i_268_1233 rfl rfl
theorem q_268_1234 : XX d 268 1234 [v0, v1, v2, v3, some (.int x), v5, v6, v7] st A Q ↔ XX d 268 1236 [v0, v1, v2, v3, some (.int x), v5, v6, v7] (.int x :: st) A Q := c_lcl i_268_1234 rfl rfl
theorem q_268_1236 : XX d 268 1236 [v0, v1, v2, v3, v4, v5, v6, v7] st A Q ↔ XX d 268 1237 [v0, v1, v2, v3, v4, v5, v6, v7] (.int (w 4) :: st) A Q := c_stk i_268_1236 rfl
theorem q_268_1237 : XX d 268 1237 [v0, v1, v2, v3, v4, v5, v6, v7] (.int y :: .int x :: st) A Q ↔ XX d 268 1238 [v0, v1, v2, v3, v4, v5, v6, v7] (.int (x + y) :: st) A Q := c_stk i_268_1237 rfl
theorem q_268_1238 : XX d 268 1238 [v0, v1, v2, v3, v4, v5, v6, v7] (.int x :: .ref a :: st) (mk S I L R G) Q ↔ inA (S a) ok_i x ∧ XX d 268 1239 [v0, v1, v2, v3, v4, v5, v6, v7] (.int (I a (ix x)) :: st) (mk S I L R G) Q := r_ia i_268_1238
theorem q_268_1239 : XX (d + 1) 268 1239 [v0, v1, v2, v3, v4, v5, v6, v7] [.int x4, .int x3, .int x2, .int x1, .ref a0] (mk S I L R G) Q ↔ S a0 = some (.inr 12) ∧ XC d 212 [.ref a0, .int x1, .int x2, .int x3, .int x4] (mk S I L R G) (XK (d + 1) 268 1239 [v0, v1, v2, v3, v4, v5, v6, v7] [] Q) := c_callV i_268_1239 rfl rfl rfl rfl (Nat.le_of_ble_eq_true rfl) (Nat.le_of_ble_eq_true rfl) rfl
theorem q_268_1242 : XX d 268 1242 [v0, v1, v2, v3, v4, some (.int z), v6, v7] (.int x :: st) A Q ↔ XX d 268 1244 [v0, v1, v2, v3, v4, some (.int z), some (.int x), v7] st A Q := c_lcl i_268_1242 rfl rfl
theorem q_268_1244 : XX d 268 1244 [v0, v1, some (.ref a), v3, v4, v5, v6, v7] st A Q ↔ XX d 268 1245 [v0, v1, some (.ref a), v3, v4, v5, v6, v7] (.ref a :: st) A Q := c_lcl i_268_1244 rfl rfl
theorem q_268_1245 : XX (d + 1) 268 1245 [v0, v1, v2, v3, v4, v5, v6, v7] [.ref a0] (mk S I L R G) Q ↔ S a0 = some (.inr 12) ∧ XC d 153 [.ref a0] (mk S I L R G) (XK (d + 1) 268 1245 [v0, v1, v2, v3, v4, v5, v6, v7] [] Q) := c_callV i_268_1245 rfl rfl rfl rfl (Nat.le_of_ble_eq_true rfl) (Nat.le_of_ble_eq_true rfl) rfl
theorem q_268_1248 : XX d 268 1248 [v0, v1, v2, v3, v4, some (.int x), v6, v7] st A Q ↔ XX d 268 1250 [v0, v1, v2, v3, v4, some (.int x), v6, v7] (.int x :: st) A Q := c_lcl i_268_1248 rfl rfl
theorem q_268_1250 : XX d 268 1250 [v0, v1, v2, v3, v4, v5, v6, v7] (.int y :: .int x :: st) A Q ↔ if x = y then XX d 268 1255 [v0, v1, v2, v3, v4, v5, v6, v7] st A Q else XX d 268 1253 [v0, v1, v2, v3, v4, v5, v6, v7] st A Q := b_eq i_268_1250 rfl rfl rfl
theorem q_268_1253 : XX d 268 1253 [v0, v1, v2, v3, v4, v5, v6, v7] st A Q ↔ XX d 268 1254 [v0, v1, v2, v3, v4, v5, v6, v7] (.int (w 0) :: st) A Q := c_stk i_268_1253 rfl
theorem q_268_1254 : XX d 268 1254 [v0, v1, v2, v3, v4, v5, v6, v7] [.int x] A Q ↔ (x = w 0 ∨ x = w 1) ∧ Q (.inl (some (.int x))) A := e_retZ i_268_1254 rfl
theorem q_268_1255 : XX d 268 1255 [v0, v1, v2, v3, v4, some (.int x), v6, v7] st A Q ↔ XX d 268 1257 [v0, v1, v2, v3, v4, some (.int x), v6, v7] (.int x :: st) A Q := c_lcl i_268_1255 rfl rfl
theorem q_268_1257 : XX d 268 1257 [v0, v1, v2, v3, v4, v5, v6, v7] (.int x :: st) A Q ↔ if x = w 0 then XX d 268 1260 [v0, v1, v2, v3, v4, v5, v6, v7] st A Q else XX d 268 1272 [v0, v1, v2, v3, v4, v5, v6, v7] st A Q := z_ne i_268_1257 rfl rfl rfl
theorem q_268_1260 : XX d 268 1260 [v0, v1, v2, some (.ref a), v4, v5, v6, v7] st A Q ↔ XX d 268 1261 [v0, v1, v2, some (.ref a), v4, v5, v6, v7] (.ref a :: st) A Q := c_lcl i_268_1260 rfl rfl
theorem q_268_1261 : XX d 268 1261 [v0, v1, v2, v3, v4, v5, v6, v7] st A Q ↔ XX d 268 1262 [v0, v1, v2, v3, v4, v5, v6, v7] (.int (w 0) :: st) A Q := c_stk i_268_1261 rfl
theorem q_268_1262 : XX d 268 1262 [v0, v1, v2, v3, v4, v5, v6, v7] (.int x :: .ref a :: st) (mk S I L R G) Q ↔ inA (S a) ok_l x ∧ XX d 268 1263 [v0, v1, v2, v3, v4, v5, v6, v7] (.long (L a (ix x)) :: st) (mk S I L R G) Q := r_la i_268_1262
theorem q_268_1263 : XX d 268 1263 [v0, v1, v2, v3, v4, v5, some (.int x), v7] st A Q ↔ XX d 268 1265 [v0, v1, v2, v3, v4, v5, some (.int x), v7] (.int x :: st) A Q := c_lcl i_268_1263 rfl rfl
theorem q_268_1265 : XX d 268 1265 [v0, v1, v2, v3, v4, v5, v6, v7] (.int x :: st) A Q ↔ XX d 268 1266 [v0, v1, v2, v3, v4, v5, v6, v7] (.long x.toInt64 :: st) A Q := c_stk i_268_1265 rfl
theorem q_268_1266 : XX d 268 1266 [v0, v1, v2, v3, v4, v5, v6, v7] (.long ly :: .long lx :: st) A Q ↔ XX d 268 1267 [v0, v1, v2, v3, v4, v5, v6, v7] (.int (lg_cmp lx ly) :: st) A Q := c_stk i_268_1266 rfl
theorem q_268_1267 : XX d 268 1267 [v0, v1, v2, v3, v4, v5, v6, v7] (.int x :: st) A Q ↔ if x = w 0 then XX d 268 1272 [v0, v1, v2, v3, v4, v5, v6, v7] st A Q else XX d 268 1270 [v0, v1, v2, v3, v4, v5, v6, v7] st A Q := z_eq i_268_1267 rfl rfl rfl
theorem q_268_1270 : XX d 268 1270 [v0, v1, v2, v3, v4, v5, v6, v7] st A Q ↔ XX d 268 1271 [v0, v1, v2, v3, v4, v5, v6, v7] (.int (w 0) :: st) A Q := c_stk i_268_1270 rfl
theorem q_268_1271 : XX d 268 1271 [v0, v1, v2, v3, v4, v5, v6, v7] [.int x] A Q ↔ (x = w 0 ∨ x = w 1) ∧ Q (.inl (some (.int x))) A := e_retZ i_268_1271 rfl
theorem q_268_1272 : XX d 268 1272 [v0, v1, v2, v3, v4, v5, v6, v7] st A Q ↔ XX d 268 2288 [v0, v1, v2, v3, v4, v5, v6, v7] st A Q := c_go i_268_1272 rfl rfl
theorem q_268_1275 : XX d 268 1275 [v0, some (.ref a), v2, v3, v4, v5, v6, v7] st A Q ↔ XX d 268 1276 [v0, some (.ref a), v2, v3, v4, v5, v6, v7] (.ref a :: st) A Q := c_lcl i_268_1275 rfl rfl
theorem q_268_1276 : XX d 268 1276 [some (.ref a), v1, v2, v3, v4, v5, v6, v7] st A Q ↔ XX d 268 1277 [some (.ref a), v1, v2, v3, v4, v5, v6, v7] (.ref a :: st) A Q := c_lcl i_268_1276 rfl rfl
theorem q_268_1277 : XX d 268 1277 [v0, v1, v2, v3, some (.int x), v5, v6, v7] st A Q ↔ XX d 268 1279 [v0, v1, v2, v3, some (.int x), v5, v6, v7] (.int x :: st) A Q := c_lcl i_268_1277 rfl rfl
theorem q_268_1279 : XX d 268 1279 [v0, v1, v2, v3, v4, v5, v6, v7] st A Q ↔ XX d 268 1280 [v0, v1, v2, v3, v4, v5, v6, v7] (.int (w 1) :: st) A Q := c_stk i_268_1279 rfl
theorem q_268_1280 : XX d 268 1280 [v0, v1, v2, v3, v4, v5, v6, v7] (.int y :: .int x :: st) A Q ↔ XX d 268 1281 [v0, v1, v2, v3, v4, v5, v6, v7] (.int (x + y) :: st) A Q := c_stk i_268_1280 rfl
theorem q_268_1281 : XX d 268 1281 [v0, v1, v2, v3, v4, v5, v6, v7] (.int x :: .ref a :: st) (mk S I L R G) Q ↔ inA (S a) ok_i x ∧ XX d 268 1282 [v0, v1, v2, v3, v4, v5, v6, v7] (.int (I a (ix x)) :: st) (mk S I L R G) Q := r_ia i_268_1281
theorem q_268_1282 : XX d 268 1282 [some (.ref a), v1, v2, v3, v4, v5, v6, v7] st A Q ↔ XX d 268 1283 [some (.ref a), v1, v2, v3, v4, v5, v6, v7] (.ref a :: st) A Q := c_lcl i_268_1282 rfl rfl
theorem q_268_1283 : XX d 268 1283 [v0, v1, v2, v3, some (.int x), v5, v6, v7] st A Q ↔ XX d 268 1285 [v0, v1, v2, v3, some (.int x), v5, v6, v7] (.int x :: st) A Q := c_lcl i_268_1283 rfl rfl
theorem q_268_1285 : XX d 268 1285 [v0, v1, v2, v3, v4, v5, v6, v7] st A Q ↔ XX d 268 1286 [v0, v1, v2, v3, v4, v5, v6, v7] (.int (w 2) :: st) A Q := c_stk i_268_1285 rfl
theorem q_268_1286 : XX d 268 1286 [v0, v1, v2, v3, v4, v5, v6, v7] (.int y :: .int x :: st) A Q ↔ XX d 268 1287 [v0, v1, v2, v3, v4, v5, v6, v7] (.int (x + y) :: st) A Q := c_stk i_268_1286 rfl
theorem q_268_1287 : XX d 268 1287 [v0, v1, v2, v3, v4, v5, v6, v7] (.int x :: .ref a :: st) (mk S I L R G) Q ↔ inA (S a) ok_i x ∧ XX d 268 1288 [v0, v1, v2, v3, v4, v5, v6, v7] (.int (I a (ix x)) :: st) (mk S I L R G) Q := r_ia i_268_1287
theorem q_268_1288 : XX d 268 1288 [v0, v1, v2, some (.ref a), v4, v5, v6, v7] st A Q ↔ XX d 268 1289 [v0, v1, v2, some (.ref a), v4, v5, v6, v7] (.ref a :: st) A Q := c_lcl i_268_1288 rfl rfl
theorem q_268_1289 : XX (d + 1) 268 1289 [v0, v1, v2, v3, v4, v5, v6, v7] [.ref a3, .int x2, .int x1, .ref a0] A Q ↔ XC d 254 [.ref a0, .int x1, .int x2, .ref a3] A (XK (d + 1) 268 1289 [v0, v1, v2, v3, v4, v5, v6, v7] [] Q) := c_callS i_268_1289 rfl rfl rfl rfl (Nat.le_of_ble_eq_true rfl) (Nat.le_of_ble_eq_true rfl)
theorem q_268_1292 : XX d 268 1292 [v0, v1, v2, v3, some (.int z), v5, v6, v7] (.int x :: st) A Q ↔ XX d 268 1294 [v0, v1, v2, v3, some (.int z), some (.int x), v6, v7] st A Q := c_lcl i_268_1292 rfl rfl
theorem q_268_1294 : XX d 268 1294 [v0, v1, some (.ref a), v3, v4, v5, v6, v7] st A Q ↔ XX d 268 1295 [v0, v1, some (.ref a), v3, v4, v5, v6, v7] (.ref a :: st) A Q := c_lcl i_268_1294 rfl rfl
theorem q_268_1295 : XX d 268 1295 [some (.ref a), v1, v2, v3, v4, v5, v6, v7] st A Q ↔ XX d 268 1296 [some (.ref a), v1, v2, v3, v4, v5, v6, v7] (.ref a :: st) A Q := c_lcl i_268_1295 rfl rfl
theorem q_268_1296 : XX d 268 1296 [v0, v1, v2, v3, some (.int x), v5, v6, v7] st A Q ↔ XX d 268 1298 [v0, v1, v2, v3, some (.int x), v5, v6, v7] (.int x :: st) A Q := c_lcl i_268_1296 rfl rfl
theorem q_268_1298 : XX d 268 1298 [v0, v1, v2, v3, v4, v5, v6, v7] st A Q ↔ XX d 268 1299 [v0, v1, v2, v3, v4, v5, v6, v7] (.int (w 1) :: st) A Q := c_stk i_268_1298 rfl
theorem q_268_1299 : XX d 268 1299 [v0, v1, v2, v3, v4, v5, v6, v7] (.int y :: .int x :: st) A Q ↔ XX d 268 1300 [v0, v1, v2, v3, v4, v5, v6, v7] (.int (x + y) :: st) A Q := c_stk i_268_1299 rfl
theorem q_268_1300 : XX d 268 1300 [v0, v1, v2, v3, v4, v5, v6, v7] (.int x :: .ref a :: st) (mk S I L R G) Q ↔ inA (S a) ok_i x ∧ XX d 268 1301 [v0, v1, v2, v3, v4, v5, v6, v7] (.int (I a (ix x)) :: st) (mk S I L R G) Q := r_ia i_268_1300
theorem q_268_1301 : XX d 268 1301 [some (.ref a), v1, v2, v3, v4, v5, v6, v7] st A Q ↔ XX d 268 1302 [some (.ref a), v1, v2, v3, v4, v5, v6, v7] (.ref a :: st) A Q := c_lcl i_268_1301 rfl rfl
theorem q_268_1302 : XX d 268 1302 [v0, v1, v2, v3, some (.int x), v5, v6, v7] st A Q ↔ XX d 268 1304 [v0, v1, v2, v3, some (.int x), v5, v6, v7] (.int x :: st) A Q := c_lcl i_268_1302 rfl rfl
theorem q_268_1304 : XX d 268 1304 [v0, v1, v2, v3, v4, v5, v6, v7] st A Q ↔ XX d 268 1305 [v0, v1, v2, v3, v4, v5, v6, v7] (.int (w 2) :: st) A Q := c_stk i_268_1304 rfl
theorem q_268_1305 : XX d 268 1305 [v0, v1, v2, v3, v4, v5, v6, v7] (.int y :: .int x :: st) A Q ↔ XX d 268 1306 [v0, v1, v2, v3, v4, v5, v6, v7] (.int (x + y) :: st) A Q := c_stk i_268_1305 rfl
theorem q_268_1306 : XX d 268 1306 [v0, v1, v2, v3, v4, v5, v6, v7] (.int x :: .ref a :: st) (mk S I L R G) Q ↔ inA (S a) ok_i x ∧ XX d 268 1307 [v0, v1, v2, v3, v4, v5, v6, v7] (.int (I a (ix x)) :: st) (mk S I L R G) Q := r_ia i_268_1306
theorem q_268_1307 : XX (d + 1) 268 1307 [v0, v1, v2, v3, v4, v5, v6, v7] [.int x2, .int x1, .ref a0] (mk S I L R G) Q ↔ S a0 = some (.inr 12) ∧ XC d 213 [.ref a0, .int x1, .int x2] (mk S I L R G) (XK (d + 1) 268 1307 [v0, v1, v2, v3, v4, v5, v6, v7] [] Q) := c_callV i_268_1307 rfl rfl rfl rfl (Nat.le_of_ble_eq_true rfl) (Nat.le_of_ble_eq_true rfl) rfl
theorem q_268_1310 : XX d 268 1310 [v0, v1, v2, v3, v4, some (.int z), v6, v7] (.int x :: st) A Q ↔ XX d 268 1312 [v0, v1, v2, v3, v4, some (.int z), some (.int x), v7] st A Q := c_lcl i_268_1310 rfl rfl
theorem q_268_1312 : XX d 268 1312 [v0, v1, some (.ref a), v3, v4, v5, v6, v7] st A Q ↔ XX d 268 1313 [v0, v1, some (.ref a), v3, v4, v5, v6, v7] (.ref a :: st) A Q := c_lcl i_268_1312 rfl rfl
theorem q_268_1313 : XX (d + 1) 268 1313 [v0, v1, v2, v3, v4, v5, v6, v7] [.ref a0] (mk S I L R G) Q ↔ S a0 = some (.inr 12) ∧ XC d 153 [.ref a0] (mk S I L R G) (XK (d + 1) 268 1313 [v0, v1, v2, v3, v4, v5, v6, v7] [] Q) := c_callV i_268_1313 rfl rfl rfl rfl (Nat.le_of_ble_eq_true rfl) (Nat.le_of_ble_eq_true rfl) rfl
theorem q_268_1316 : XX d 268 1316 [v0, v1, v2, v3, v4, some (.int x), v6, v7] st A Q ↔ XX d 268 1318 [v0, v1, v2, v3, v4, some (.int x), v6, v7] (.int x :: st) A Q := c_lcl i_268_1316 rfl rfl
theorem q_268_1318 : XX d 268 1318 [v0, v1, v2, v3, v4, v5, v6, v7] (.int y :: .int x :: st) A Q ↔ if x = y then XX d 268 1323 [v0, v1, v2, v3, v4, v5, v6, v7] st A Q else XX d 268 1321 [v0, v1, v2, v3, v4, v5, v6, v7] st A Q := b_eq i_268_1318 rfl rfl rfl
theorem q_268_1321 : XX d 268 1321 [v0, v1, v2, v3, v4, v5, v6, v7] st A Q ↔ XX d 268 1322 [v0, v1, v2, v3, v4, v5, v6, v7] (.int (w 0) :: st) A Q := c_stk i_268_1321 rfl
theorem q_268_1322 : XX d 268 1322 [v0, v1, v2, v3, v4, v5, v6, v7] [.int x] A Q ↔ (x = w 0 ∨ x = w 1) ∧ Q (.inl (some (.int x))) A := e_retZ i_268_1322 rfl
theorem q_268_1323 : XX d 268 1323 [v0, v1, v2, v3, v4, some (.int x), v6, v7] st A Q ↔ XX d 268 1325 [v0, v1, v2, v3, v4, some (.int x), v6, v7] (.int x :: st) A Q := c_lcl i_268_1323 rfl rfl
theorem q_268_1325 : XX d 268 1325 [v0, v1, v2, v3, v4, v5, v6, v7] (.int x :: st) A Q ↔ if x = w 0 then XX d 268 1328 [v0, v1, v2, v3, v4, v5, v6, v7] st A Q else XX d 268 1340 [v0, v1, v2, v3, v4, v5, v6, v7] st A Q := z_ne i_268_1325 rfl rfl rfl
theorem q_268_1328 : XX d 268 1328 [v0, v1, v2, some (.ref a), v4, v5, v6, v7] st A Q ↔ XX d 268 1329 [v0, v1, v2, some (.ref a), v4, v5, v6, v7] (.ref a :: st) A Q := c_lcl i_268_1328 rfl rfl
theorem q_268_1329 : XX d 268 1329 [v0, v1, v2, v3, v4, v5, v6, v7] st A Q ↔ XX d 268 1330 [v0, v1, v2, v3, v4, v5, v6, v7] (.int (w 0) :: st) A Q := c_stk i_268_1329 rfl
theorem q_268_1330 : XX d 268 1330 [v0, v1, v2, v3, v4, v5, v6, v7] (.int x :: .ref a :: st) (mk S I L R G) Q ↔ inA (S a) ok_l x ∧ XX d 268 1331 [v0, v1, v2, v3, v4, v5, v6, v7] (.long (L a (ix x)) :: st) (mk S I L R G) Q := r_la i_268_1330
theorem q_268_1331 : XX d 268 1331 [v0, v1, v2, v3, v4, v5, some (.int x), v7] st A Q ↔ XX d 268 1333 [v0, v1, v2, v3, v4, v5, some (.int x), v7] (.int x :: st) A Q := c_lcl i_268_1331 rfl rfl
theorem q_268_1333 : XX d 268 1333 [v0, v1, v2, v3, v4, v5, v6, v7] (.int x :: st) A Q ↔ XX d 268 1334 [v0, v1, v2, v3, v4, v5, v6, v7] (.long x.toInt64 :: st) A Q := c_stk i_268_1333 rfl
theorem q_268_1334 : XX d 268 1334 [v0, v1, v2, v3, v4, v5, v6, v7] (.long ly :: .long lx :: st) A Q ↔ XX d 268 1335 [v0, v1, v2, v3, v4, v5, v6, v7] (.int (lg_cmp lx ly) :: st) A Q := c_stk i_268_1334 rfl
theorem q_268_1335 : XX d 268 1335 [v0, v1, v2, v3, v4, v5, v6, v7] (.int x :: st) A Q ↔ if x = w 0 then XX d 268 1340 [v0, v1, v2, v3, v4, v5, v6, v7] st A Q else XX d 268 1338 [v0, v1, v2, v3, v4, v5, v6, v7] st A Q := z_eq i_268_1335 rfl rfl rfl
theorem q_268_1338 : XX d 268 1338 [v0, v1, v2, v3, v4, v5, v6, v7] st A Q ↔ XX d 268 1339 [v0, v1, v2, v3, v4, v5, v6, v7] (.int (w 0) :: st) A Q := c_stk i_268_1338 rfl
theorem q_268_1339 : XX d 268 1339 [v0, v1, v2, v3, v4, v5, v6, v7] [.int x] A Q ↔ (x = w 0 ∨ x = w 1) ∧ Q (.inl (some (.int x))) A := e_retZ i_268_1339 rfl
theorem q_268_1340 : XX d 268 1340 [v0, v1, v2, v3, v4, v5, v6, v7] st A Q ↔ XX d 268 2288 [v0, v1, v2, v3, v4, v5, v6, v7] st A Q := c_go i_268_1340 rfl rfl
theorem q_268_1343 : XX d 268 1343 [v0, some (.ref a), v2, v3, v4, v5, v6, v7] st A Q ↔ XX d 268 1344 [v0, some (.ref a), v2, v3, v4, v5, v6, v7] (.ref a :: st) A Q := c_lcl i_268_1343 rfl rfl
theorem q_268_1344 : XX d 268 1344 [some (.ref a), v1, v2, v3, v4, v5, v6, v7] st A Q ↔ XX d 268 1345 [some (.ref a), v1, v2, v3, v4, v5, v6, v7] (.ref a :: st) A Q := c_lcl i_268_1344 rfl rfl
theorem q_268_1345 : XX d 268 1345 [v0, v1, v2, v3, some (.int x), v5, v6, v7] st A Q ↔ XX d 268 1347 [v0, v1, v2, v3, some (.int x), v5, v6, v7] (.int x :: st) A Q := c_lcl i_268_1345 rfl rfl
theorem q_268_1347 : XX d 268 1347 [v0, v1, v2, v3, v4, v5, v6, v7] st A Q ↔ XX d 268 1348 [v0, v1, v2, v3, v4, v5, v6, v7] (.int (w 1) :: st) A Q := c_stk i_268_1347 rfl
theorem q_268_1348 : XX d 268 1348 [v0, v1, v2, v3, v4, v5, v6, v7] (.int y :: .int x :: st) A Q ↔ XX d 268 1349 [v0, v1, v2, v3, v4, v5, v6, v7] (.int (x + y) :: st) A Q := c_stk i_268_1348 rfl
theorem q_268_1349 : XX d 268 1349 [v0, v1, v2, v3, v4, v5, v6, v7] (.int x :: .ref a :: st) (mk S I L R G) Q ↔ inA (S a) ok_i x ∧ XX d 268 1350 [v0, v1, v2, v3, v4, v5, v6, v7] (.int (I a (ix x)) :: st) (mk S I L R G) Q := r_ia i_268_1349
theorem q_268_1350 : XX d 268 1350 [some (.ref a), v1, v2, v3, v4, v5, v6, v7] st A Q ↔ XX d 268 1351 [some (.ref a), v1, v2, v3, v4, v5, v6, v7] (.ref a :: st) A Q := c_lcl i_268_1350 rfl rfl
theorem q_268_1351 : XX d 268 1351 [v0, v1, v2, v3, some (.int x), v5, v6, v7] st A Q ↔ XX d 268 1353 [v0, v1, v2, v3, some (.int x), v5, v6, v7] (.int x :: st) A Q := c_lcl i_268_1351 rfl rfl
theorem q_268_1353 : XX d 268 1353 [v0, v1, v2, v3, v4, v5, v6, v7] st A Q ↔ XX d 268 1354 [v0, v1, v2, v3, v4, v5, v6, v7] (.int (w 2) :: st) A Q := c_stk i_268_1353 rfl
theorem q_268_1354 : XX d 268 1354 [v0, v1, v2, v3, v4, v5, v6, v7] (.int y :: .int x :: st) A Q ↔ XX d 268 1355 [v0, v1, v2, v3, v4, v5, v6, v7] (.int (x + y) :: st) A Q := c_stk i_268_1354 rfl
theorem q_268_1355 : XX d 268 1355 [v0, v1, v2, v3, v4, v5, v6, v7] (.int x :: .ref a :: st) (mk S I L R G) Q ↔ inA (S a) ok_i x ∧ XX d 268 1356 [v0, v1, v2, v3, v4, v5, v6, v7] (.int (I a (ix x)) :: st) (mk S I L R G) Q := r_ia i_268_1355
theorem q_268_1356 : XX d 268 1356 [v0, v1, v2, some (.ref a), v4, v5, v6, v7] st A Q ↔ XX d 268 1357 [v0, v1, v2, some (.ref a), v4, v5, v6, v7] (.ref a :: st) A Q := c_lcl i_268_1356 rfl rfl
theorem q_268_1357 : XX (d + 1) 268 1357 [v0, v1, v2, v3, v4, v5, v6, v7] [.ref a3, .int x2, .int x1, .ref a0] A Q ↔ XC d 255 [.ref a0, .int x1, .int x2, .ref a3] A (XK (d + 1) 268 1357 [v0, v1, v2, v3, v4, v5, v6, v7] [] Q) := c_callS i_268_1357 rfl rfl rfl rfl (Nat.le_of_ble_eq_true rfl) (Nat.le_of_ble_eq_true rfl)
theorem q_268_1360 : XX d 268 1360 [v0, v1, v2, v3, some (.int z), v5, v6, v7] (.int x :: st) A Q ↔ XX d 268 1362 [v0, v1, v2, v3, some (.int z), some (.int x), v6, v7] st A Q := c_lcl i_268_1360 rfl rfl
theorem q_268_1362 : XX d 268 1362 [v0, v1, some (.ref a), v3, v4, v5, v6, v7] st A Q ↔ XX d 268 1363 [v0, v1, some (.ref a), v3, v4, v5, v6, v7] (.ref a :: st) A Q := c_lcl i_268_1362 rfl rfl
theorem q_268_1363 : XX d 268 1363 [some (.ref a), v1, v2, v3, v4, v5, v6, v7] st A Q ↔ XX d 268 1364 [some (.ref a), v1, v2, v3, v4, v5, v6, v7] (.ref a :: st) A Q := c_lcl i_268_1363 rfl rfl
theorem q_268_1364 : XX d 268 1364 [v0, v1, v2, v3, some (.int x), v5, v6, v7] st A Q ↔ XX d 268 1366 [v0, v1, v2, v3, some (.int x), v5, v6, v7] (.int x :: st) A Q := c_lcl i_268_1364 rfl rfl
theorem q_268_1366 : XX d 268 1366 [v0, v1, v2, v3, v4, v5, v6, v7] st A Q ↔ XX d 268 1367 [v0, v1, v2, v3, v4, v5, v6, v7] (.int (w 1) :: st) A Q := c_stk i_268_1366 rfl
theorem q_268_1367 : XX d 268 1367 [v0, v1, v2, v3, v4, v5, v6, v7] (.int y :: .int x :: st) A Q ↔ XX d 268 1368 [v0, v1, v2, v3, v4, v5, v6, v7] (.int (x + y) :: st) A Q := c_stk i_268_1367 rfl
theorem q_268_1368 : XX d 268 1368 [v0, v1, v2, v3, v4, v5, v6, v7] (.int x :: .ref a :: st) (mk S I L R G) Q ↔ inA (S a) ok_i x ∧ XX d 268 1369 [v0, v1, v2, v3, v4, v5, v6, v7] (.int (I a (ix x)) :: st) (mk S I L R G) Q := r_ia i_268_1368
theorem q_268_1369 : XX d 268 1369 [some (.ref a), v1, v2, v3, v4, v5, v6, v7] st A Q ↔ XX d 268 1370 [some (.ref a), v1, v2, v3, v4, v5, v6, v7] (.ref a :: st) A Q := c_lcl i_268_1369 rfl rfl
theorem q_268_1370 : XX d 268 1370 [v0, v1, v2, v3, some (.int x), v5, v6, v7] st A Q ↔ XX d 268 1372 [v0, v1, v2, v3, some (.int x), v5, v6, v7] (.int x :: st) A Q := c_lcl i_268_1370 rfl rfl
theorem q_268_1372 : XX d 268 1372 [v0, v1, v2, v3, v4, v5, v6, v7] st A Q ↔ XX d 268 1373 [v0, v1, v2, v3, v4, v5, v6, v7] (.int (w 2) :: st) A Q := c_stk i_268_1372 rfl
theorem q_268_1373 : XX d 268 1373 [v0, v1, v2, v3, v4, v5, v6, v7] (.int y :: .int x :: st) A Q ↔ XX d 268 1374 [v0, v1, v2, v3, v4, v5, v6, v7] (.int (x + y) :: st) A Q := c_stk i_268_1373 rfl
theorem q_268_1374 : XX d 268 1374 [v0, v1, v2, v3, v4, v5, v6, v7] (.int x :: .ref a :: st) (mk S I L R G) Q ↔ inA (S a) ok_i x ∧ XX d 268 1375 [v0, v1, v2, v3, v4, v5, v6, v7] (.int (I a (ix x)) :: st) (mk S I L R G) Q := r_ia i_268_1374
theorem q_268_1375 : XX (d + 1) 268 1375 [v0, v1, v2, v3, v4, v5, v6, v7] [.int x2, .int x1, .ref a0] (mk S I L R G) Q ↔ S a0 = some (.inr 12) ∧ XC d 217 [.ref a0, .int x1, .int x2] (mk S I L R G) (XK (d + 1) 268 1375 [v0, v1, v2, v3, v4, v5, v6, v7] [] Q) := c_callV i_268_1375 rfl rfl rfl rfl (Nat.le_of_ble_eq_true rfl) (Nat.le_of_ble_eq_true rfl) rfl
theorem q_268_1378 : XX d 268 1378 [v0, v1, v2, v3, v4, some (.int z), v6, v7] (.int x :: st) A Q ↔ XX d 268 1380 [v0, v1, v2, v3, v4, some (.int z), some (.int x), v7] st A Q := c_lcl i_268_1378 rfl rfl
theorem q_268_1380 : XX d 268 1380 [v0, v1, some (.ref a), v3, v4, v5, v6, v7] st A Q ↔ XX d 268 1381 [v0, v1, some (.ref a), v3, v4, v5, v6, v7] (.ref a :: st) A Q := c_lcl i_268_1380 rfl rfl
theorem q_268_1381 : XX (d + 1) 268 1381 [v0, v1, v2, v3, v4, v5, v6, v7] [.ref a0] (mk S I L R G) Q ↔ S a0 = some (.inr 12) ∧ XC d 153 [.ref a0] (mk S I L R G) (XK (d + 1) 268 1381 [v0, v1, v2, v3, v4, v5, v6, v7] [] Q) := c_callV i_268_1381 rfl rfl rfl rfl (Nat.le_of_ble_eq_true rfl) (Nat.le_of_ble_eq_true rfl) rfl
theorem q_268_1384 : XX d 268 1384 [v0, v1, v2, v3, v4, some (.int x), v6, v7] st A Q ↔ XX d 268 1386 [v0, v1, v2, v3, v4, some (.int x), v6, v7] (.int x :: st) A Q := c_lcl i_268_1384 rfl rfl
theorem q_268_1386 : XX d 268 1386 [v0, v1, v2, v3, v4, v5, v6, v7] (.int y :: .int x :: st) A Q ↔ if x = y then XX d 268 1391 [v0, v1, v2, v3, v4, v5, v6, v7] st A Q else XX d 268 1389 [v0, v1, v2, v3, v4, v5, v6, v7] st A Q := b_eq i_268_1386 rfl rfl rfl
theorem q_268_1389 : XX d 268 1389 [v0, v1, v2, v3, v4, v5, v6, v7] st A Q ↔ XX d 268 1390 [v0, v1, v2, v3, v4, v5, v6, v7] (.int (w 0) :: st) A Q := c_stk i_268_1389 rfl
theorem q_268_1390 : XX d 268 1390 [v0, v1, v2, v3, v4, v5, v6, v7] [.int x] A Q ↔ (x = w 0 ∨ x = w 1) ∧ Q (.inl (some (.int x))) A := e_retZ i_268_1390 rfl
theorem q_268_1391 : XX d 268 1391 [v0, v1, v2, v3, v4, some (.int x), v6, v7] st A Q ↔ XX d 268 1393 [v0, v1, v2, v3, v4, some (.int x), v6, v7] (.int x :: st) A Q := c_lcl i_268_1391 rfl rfl
theorem q_268_1393 : XX d 268 1393 [v0, v1, v2, v3, v4, v5, v6, v7] (.int x :: st) A Q ↔ if x = w 0 then XX d 268 1396 [v0, v1, v2, v3, v4, v5, v6, v7] st A Q else XX d 268 1408 [v0, v1, v2, v3, v4, v5, v6, v7] st A Q := z_ne i_268_1393 rfl rfl rfl
theorem q_268_1396 : XX d 268 1396 [v0, v1, v2, some (.ref a), v4, v5, v6, v7] st A Q ↔ XX d 268 1397 [v0, v1, v2, some (.ref a), v4, v5, v6, v7] (.ref a :: st) A Q := c_lcl i_268_1396 rfl rfl
theorem q_268_1397 : XX d 268 1397 [v0, v1, v2, v3, v4, v5, v6, v7] st A Q ↔ XX d 268 1398 [v0, v1, v2, v3, v4, v5, v6, v7] (.int (w 0) :: st) A Q := c_stk i_268_1397 rfl
theorem q_268_1398 : XX d 268 1398 [v0, v1, v2, v3, v4, v5, v6, v7] (.int x :: .ref a :: st) (mk S I L R G) Q ↔ inA (S a) ok_l x ∧ XX d 268 1399 [v0, v1, v2, v3, v4, v5, v6, v7] (.long (L a (ix x)) :: st) (mk S I L R G) Q := r_la i_268_1398
theorem q_268_1399 : XX d 268 1399 [v0, v1, v2, v3, v4, v5, some (.int x), v7] st A Q ↔ XX d 268 1401 [v0, v1, v2, v3, v4, v5, some (.int x), v7] (.int x :: st) A Q := c_lcl i_268_1399 rfl rfl
theorem q_268_1401 : XX d 268 1401 [v0, v1, v2, v3, v4, v5, v6, v7] (.int x :: st) A Q ↔ XX d 268 1402 [v0, v1, v2, v3, v4, v5, v6, v7] (.long x.toInt64 :: st) A Q := c_stk i_268_1401 rfl
theorem q_268_1402 : XX d 268 1402 [v0, v1, v2, v3, v4, v5, v6, v7] (.long ly :: .long lx :: st) A Q ↔ XX d 268 1403 [v0, v1, v2, v3, v4, v5, v6, v7] (.int (lg_cmp lx ly) :: st) A Q := c_stk i_268_1402 rfl
theorem q_268_1403 : XX d 268 1403 [v0, v1, v2, v3, v4, v5, v6, v7] (.int x :: st) A Q ↔ if x = w 0 then XX d 268 1408 [v0, v1, v2, v3, v4, v5, v6, v7] st A Q else XX d 268 1406 [v0, v1, v2, v3, v4, v5, v6, v7] st A Q := z_eq i_268_1403 rfl rfl rfl
theorem q_268_1406 : XX d 268 1406 [v0, v1, v2, v3, v4, v5, v6, v7] st A Q ↔ XX d 268 1407 [v0, v1, v2, v3, v4, v5, v6, v7] (.int (w 0) :: st) A Q := c_stk i_268_1406 rfl
theorem q_268_1407 : XX d 268 1407 [v0, v1, v2, v3, v4, v5, v6, v7] [.int x] A Q ↔ (x = w 0 ∨ x = w 1) ∧ Q (.inl (some (.int x))) A := e_retZ i_268_1407 rfl
theorem q_268_1408 : XX d 268 1408 [v0, v1, v2, v3, v4, v5, v6, v7] st A Q ↔ XX d 268 2288 [v0, v1, v2, v3, v4, v5, v6, v7] st A Q := c_go i_268_1408 rfl rfl
theorem q_268_1411 : XX d 268 1411 [v0, some (.ref a), v2, v3, v4, v5, v6, v7] st A Q ↔ XX d 268 1412 [v0, some (.ref a), v2, v3, v4, v5, v6, v7] (.ref a :: st) A Q := c_lcl i_268_1411 rfl rfl
theorem q_268_1412 : XX d 268 1412 [some (.ref a), v1, v2, v3, v4, v5, v6, v7] st A Q ↔ XX d 268 1413 [some (.ref a), v1, v2, v3, v4, v5, v6, v7] (.ref a :: st) A Q := c_lcl i_268_1412 rfl rfl
theorem q_268_1413 : XX d 268 1413 [v0, v1, v2, v3, some (.int x), v5, v6, v7] st A Q ↔ XX d 268 1415 [v0, v1, v2, v3, some (.int x), v5, v6, v7] (.int x :: st) A Q := c_lcl i_268_1413 rfl rfl
theorem q_268_1415 : XX d 268 1415 [v0, v1, v2, v3, v4, v5, v6, v7] st A Q ↔ XX d 268 1416 [v0, v1, v2, v3, v4, v5, v6, v7] (.int (w 1) :: st) A Q := c_stk i_268_1415 rfl
theorem q_268_1416 : XX d 268 1416 [v0, v1, v2, v3, v4, v5, v6, v7] (.int y :: .int x :: st) A Q ↔ XX d 268 1417 [v0, v1, v2, v3, v4, v5, v6, v7] (.int (x + y) :: st) A Q := c_stk i_268_1416 rfl
theorem q_268_1417 : XX d 268 1417 [v0, v1, v2, v3, v4, v5, v6, v7] (.int x :: .ref a :: st) (mk S I L R G) Q ↔ inA (S a) ok_i x ∧ XX d 268 1418 [v0, v1, v2, v3, v4, v5, v6, v7] (.int (I a (ix x)) :: st) (mk S I L R G) Q := r_ia i_268_1417
theorem q_268_1418 : XX d 268 1418 [some (.ref a), v1, v2, v3, v4, v5, v6, v7] st A Q ↔ XX d 268 1419 [some (.ref a), v1, v2, v3, v4, v5, v6, v7] (.ref a :: st) A Q := c_lcl i_268_1418 rfl rfl
theorem q_268_1419 : XX d 268 1419 [v0, v1, v2, v3, some (.int x), v5, v6, v7] st A Q ↔ XX d 268 1421 [v0, v1, v2, v3, some (.int x), v5, v6, v7] (.int x :: st) A Q := c_lcl i_268_1419 rfl rfl
theorem q_268_1421 : XX d 268 1421 [v0, v1, v2, v3, v4, v5, v6, v7] st A Q ↔ XX d 268 1422 [v0, v1, v2, v3, v4, v5, v6, v7] (.int (w 2) :: st) A Q := c_stk i_268_1421 rfl
theorem q_268_1422 : XX d 268 1422 [v0, v1, v2, v3, v4, v5, v6, v7] (.int y :: .int x :: st) A Q ↔ XX d 268 1423 [v0, v1, v2, v3, v4, v5, v6, v7] (.int (x + y) :: st) A Q := c_stk i_268_1422 rfl
theorem q_268_1423 : XX d 268 1423 [v0, v1, v2, v3, v4, v5, v6, v7] (.int x :: .ref a :: st) (mk S I L R G) Q ↔ inA (S a) ok_i x ∧ XX d 268 1424 [v0, v1, v2, v3, v4, v5, v6, v7] (.int (I a (ix x)) :: st) (mk S I L R G) Q := r_ia i_268_1423
theorem q_268_1424 : XX d 268 1424 [some (.ref a), v1, v2, v3, v4, v5, v6, v7] st A Q ↔ XX d 268 1425 [some (.ref a), v1, v2, v3, v4, v5, v6, v7] (.ref a :: st) A Q := c_lcl i_268_1424 rfl rfl
theorem q_268_1425 : XX d 268 1425 [v0, v1, v2, v3, some (.int x), v5, v6, v7] st A Q ↔ XX d 268 1427 [v0, v1, v2, v3, some (.int x), v5, v6, v7] (.int x :: st) A Q := c_lcl i_268_1425 rfl rfl
theorem q_268_1427 : XX d 268 1427 [v0, v1, v2, v3, v4, v5, v6, v7] st A Q ↔ XX d 268 1428 [v0, v1, v2, v3, v4, v5, v6, v7] (.int (w 3) :: st) A Q := c_stk i_268_1427 rfl
theorem q_268_1428 : XX d 268 1428 [v0, v1, v2, v3, v4, v5, v6, v7] (.int y :: .int x :: st) A Q ↔ XX d 268 1429 [v0, v1, v2, v3, v4, v5, v6, v7] (.int (x + y) :: st) A Q := c_stk i_268_1428 rfl
theorem q_268_1429 : XX d 268 1429 [v0, v1, v2, v3, v4, v5, v6, v7] (.int x :: .ref a :: st) (mk S I L R G) Q ↔ inA (S a) ok_i x ∧ XX d 268 1430 [v0, v1, v2, v3, v4, v5, v6, v7] (.int (I a (ix x)) :: st) (mk S I L R G) Q := r_ia i_268_1429
theorem q_268_1430 : XX d 268 1430 [v0, v1, v2, some (.ref a), v4, v5, v6, v7] st A Q ↔ XX d 268 1431 [v0, v1, v2, some (.ref a), v4, v5, v6, v7] (.ref a :: st) A Q := c_lcl i_268_1430 rfl rfl
theorem q_268_1431 : XX (d + 1) 268 1431 [v0, v1, v2, v3, v4, v5, v6, v7] [.ref a4, .int x3, .int x2, .int x1, .ref a0] A Q ↔ XC d 256 [.ref a0, .int x1, .int x2, .int x3, .ref a4] A (XK (d + 1) 268 1431 [v0, v1, v2, v3, v4, v5, v6, v7] [] Q) := c_callS i_268_1431 rfl rfl rfl rfl (Nat.le_of_ble_eq_true rfl) (Nat.le_of_ble_eq_true rfl)
theorem q_268_1434 : XX d 268 1434 [v0, v1, v2, v3, some (.int z), v5, v6, v7] (.int x :: st) A Q ↔ XX d 268 1436 [v0, v1, v2, v3, some (.int z), some (.int x), v6, v7] st A Q := c_lcl i_268_1434 rfl rfl
theorem q_268_1436 : XX d 268 1436 [v0, v1, some (.ref a), v3, v4, v5, v6, v7] st A Q ↔ XX d 268 1437 [v0, v1, some (.ref a), v3, v4, v5, v6, v7] (.ref a :: st) A Q := c_lcl i_268_1436 rfl rfl
theorem q_268_1437 : XX d 268 1437 [some (.ref a), v1, v2, v3, v4, v5, v6, v7] st A Q ↔ XX d 268 1438 [some (.ref a), v1, v2, v3, v4, v5, v6, v7] (.ref a :: st) A Q := c_lcl i_268_1437 rfl rfl
theorem q_268_1438 : XX d 268 1438 [v0, v1, v2, v3, some (.int x), v5, v6, v7] st A Q ↔ XX d 268 1440 [v0, v1, v2, v3, some (.int x), v5, v6, v7] (.int x :: st) A Q := c_lcl i_268_1438 rfl rfl
theorem q_268_1440 : XX d 268 1440 [v0, v1, v2, v3, v4, v5, v6, v7] st A Q ↔ XX d 268 1441 [v0, v1, v2, v3, v4, v5, v6, v7] (.int (w 1) :: st) A Q := c_stk i_268_1440 rfl
theorem q_268_1441 : XX d 268 1441 [v0, v1, v2, v3, v4, v5, v6, v7] (.int y :: .int x :: st) A Q ↔ XX d 268 1442 [v0, v1, v2, v3, v4, v5, v6, v7] (.int (x + y) :: st) A Q := c_stk i_268_1441 rfl
theorem q_268_1442 : XX d 268 1442 [v0, v1, v2, v3, v4, v5, v6, v7] (.int x :: .ref a :: st) (mk S I L R G) Q ↔ inA (S a) ok_i x ∧ XX d 268 1443 [v0, v1, v2, v3, v4, v5, v6, v7] (.int (I a (ix x)) :: st) (mk S I L R G) Q := r_ia i_268_1442
theorem q_268_1443 : XX d 268 1443 [some (.ref a), v1, v2, v3, v4, v5, v6, v7] st A Q ↔ XX d 268 1444 [some (.ref a), v1, v2, v3, v4, v5, v6, v7] (.ref a :: st) A Q := c_lcl i_268_1443 rfl rfl
theorem q_268_1444 : XX d 268 1444 [v0, v1, v2, v3, some (.int x), v5, v6, v7] st A Q ↔ XX d 268 1446 [v0, v1, v2, v3, some (.int x), v5, v6, v7] (.int x :: st) A Q := c_lcl i_268_1444 rfl rfl
theorem q_268_1446 : XX d 268 1446 [v0, v1, v2, v3, v4, v5, v6, v7] st A Q ↔ XX d 268 1447 [v0, v1, v2, v3, v4, v5, v6, v7] (.int (w 2) :: st) A Q := c_stk i_268_1446 rfl
theorem q_268_1447 : XX d 268 1447 [v0, v1, v2, v3, v4, v5, v6, v7] (.int y :: .int x :: st) A Q ↔ XX d 268 1448 [v0, v1, v2, v3, v4, v5, v6, v7] (.int (x + y) :: st) A Q := c_stk i_268_1447 rfl
theorem q_268_1448 : XX d 268 1448 [v0, v1, v2, v3, v4, v5, v6, v7] (.int x :: .ref a :: st) (mk S I L R G) Q ↔ inA (S a) ok_i x ∧ XX d 268 1449 [v0, v1, v2, v3, v4, v5, v6, v7] (.int (I a (ix x)) :: st) (mk S I L R G) Q := r_ia i_268_1448
theorem q_268_1449 : XX d 268 1449 [some (.ref a), v1, v2, v3, v4, v5, v6, v7] st A Q ↔ XX d 268 1450 [some (.ref a), v1, v2, v3, v4, v5, v6, v7] (.ref a :: st) A Q := c_lcl i_268_1449 rfl rfl
theorem q_268_1450 : XX d 268 1450 [v0, v1, v2, v3, some (.int x), v5, v6, v7] st A Q ↔ XX d 268 1452 [v0, v1, v2, v3, some (.int x), v5, v6, v7] (.int x :: st) A Q := c_lcl i_268_1450 rfl rfl
theorem q_268_1452 : XX d 268 1452 [v0, v1, v2, v3, v4, v5, v6, v7] st A Q ↔ XX d 268 1453 [v0, v1, v2, v3, v4, v5, v6, v7] (.int (w 3) :: st) A Q := c_stk i_268_1452 rfl
theorem q_268_1453 : XX d 268 1453 [v0, v1, v2, v3, v4, v5, v6, v7] (.int y :: .int x :: st) A Q ↔ XX d 268 1454 [v0, v1, v2, v3, v4, v5, v6, v7] (.int (x + y) :: st) A Q := c_stk i_268_1453 rfl
theorem q_268_1454 : XX d 268 1454 [v0, v1, v2, v3, v4, v5, v6, v7] (.int x :: .ref a :: st) (mk S I L R G) Q ↔ inA (S a) ok_i x ∧ XX d 268 1455 [v0, v1, v2, v3, v4, v5, v6, v7] (.int (I a (ix x)) :: st) (mk S I L R G) Q := r_ia i_268_1454
theorem q_268_1455 : XX (d + 1) 268 1455 [v0, v1, v2, v3, v4, v5, v6, v7] [.int x3, .int x2, .int x1, .ref a0] (mk S I L R G) Q ↔ S a0 = some (.inr 12) ∧ XC d 220 [.ref a0, .int x1, .int x2, .int x3] (mk S I L R G) (XK (d + 1) 268 1455 [v0, v1, v2, v3, v4, v5, v6, v7] [] Q) := c_callV i_268_1455 rfl rfl rfl rfl (Nat.le_of_ble_eq_true rfl) (Nat.le_of_ble_eq_true rfl) rfl
theorem q_268_1458 : XX d 268 1458 [v0, v1, v2, v3, v4, some (.int z), v6, v7] (.int x :: st) A Q ↔ XX d 268 1460 [v0, v1, v2, v3, v4, some (.int z), some (.int x), v7] st A Q := c_lcl i_268_1458 rfl rfl
theorem q_268_1460 : XX d 268 1460 [v0, v1, some (.ref a), v3, v4, v5, v6, v7] st A Q ↔ XX d 268 1461 [v0, v1, some (.ref a), v3, v4, v5, v6, v7] (.ref a :: st) A Q := c_lcl i_268_1460 rfl rfl
theorem q_268_1461 : XX (d + 1) 268 1461 [v0, v1, v2, v3, v4, v5, v6, v7] [.ref a0] (mk S I L R G) Q ↔ S a0 = some (.inr 12) ∧ XC d 153 [.ref a0] (mk S I L R G) (XK (d + 1) 268 1461 [v0, v1, v2, v3, v4, v5, v6, v7] [] Q) := c_callV i_268_1461 rfl rfl rfl rfl (Nat.le_of_ble_eq_true rfl) (Nat.le_of_ble_eq_true rfl) rfl
theorem q_268_1464 : XX d 268 1464 [v0, v1, v2, v3, v4, some (.int x), v6, v7] st A Q ↔ XX d 268 1466 [v0, v1, v2, v3, v4, some (.int x), v6, v7] (.int x :: st) A Q := c_lcl i_268_1464 rfl rfl
theorem q_268_1466 : XX d 268 1466 [v0, v1, v2, v3, v4, v5, v6, v7] (.int y :: .int x :: st) A Q ↔ if x = y then XX d 268 1471 [v0, v1, v2, v3, v4, v5, v6, v7] st A Q else XX d 268 1469 [v0, v1, v2, v3, v4, v5, v6, v7] st A Q := b_eq i_268_1466 rfl rfl rfl
theorem q_268_1469 : XX d 268 1469 [v0, v1, v2, v3, v4, v5, v6, v7] st A Q ↔ XX d 268 1470 [v0, v1, v2, v3, v4, v5, v6, v7] (.int (w 0) :: st) A Q := c_stk i_268_1469 rfl
theorem q_268_1470 : XX d 268 1470 [v0, v1, v2, v3, v4, v5, v6, v7] [.int x] A Q ↔ (x = w 0 ∨ x = w 1) ∧ Q (.inl (some (.int x))) A := e_retZ i_268_1470 rfl
theorem q_268_1471 : XX d 268 1471 [v0, v1, v2, v3, v4, some (.int x), v6, v7] st A Q ↔ XX d 268 1473 [v0, v1, v2, v3, v4, some (.int x), v6, v7] (.int x :: st) A Q := c_lcl i_268_1471 rfl rfl
theorem q_268_1473 : XX d 268 1473 [v0, v1, v2, v3, v4, v5, v6, v7] (.int x :: st) A Q ↔ if x = w 0 then XX d 268 1476 [v0, v1, v2, v3, v4, v5, v6, v7] st A Q else XX d 268 1488 [v0, v1, v2, v3, v4, v5, v6, v7] st A Q := z_ne i_268_1473 rfl rfl rfl
theorem q_268_1476 : XX d 268 1476 [v0, v1, v2, some (.ref a), v4, v5, v6, v7] st A Q ↔ XX d 268 1477 [v0, v1, v2, some (.ref a), v4, v5, v6, v7] (.ref a :: st) A Q := c_lcl i_268_1476 rfl rfl
theorem q_268_1477 : XX d 268 1477 [v0, v1, v2, v3, v4, v5, v6, v7] st A Q ↔ XX d 268 1478 [v0, v1, v2, v3, v4, v5, v6, v7] (.int (w 0) :: st) A Q := c_stk i_268_1477 rfl
theorem q_268_1478 : XX d 268 1478 [v0, v1, v2, v3, v4, v5, v6, v7] (.int x :: .ref a :: st) (mk S I L R G) Q ↔ inA (S a) ok_l x ∧ XX d 268 1479 [v0, v1, v2, v3, v4, v5, v6, v7] (.long (L a (ix x)) :: st) (mk S I L R G) Q := r_la i_268_1478
theorem q_268_1479 : XX d 268 1479 [v0, v1, v2, v3, v4, v5, some (.int x), v7] st A Q ↔ XX d 268 1481 [v0, v1, v2, v3, v4, v5, some (.int x), v7] (.int x :: st) A Q := c_lcl i_268_1479 rfl rfl
theorem q_268_1481 : XX d 268 1481 [v0, v1, v2, v3, v4, v5, v6, v7] (.int x :: st) A Q ↔ XX d 268 1482 [v0, v1, v2, v3, v4, v5, v6, v7] (.long x.toInt64 :: st) A Q := c_stk i_268_1481 rfl
theorem q_268_1482 : XX d 268 1482 [v0, v1, v2, v3, v4, v5, v6, v7] (.long ly :: .long lx :: st) A Q ↔ XX d 268 1483 [v0, v1, v2, v3, v4, v5, v6, v7] (.int (lg_cmp lx ly) :: st) A Q := c_stk i_268_1482 rfl
theorem q_268_1483 : XX d 268 1483 [v0, v1, v2, v3, v4, v5, v6, v7] (.int x :: st) A Q ↔ if x = w 0 then XX d 268 1488 [v0, v1, v2, v3, v4, v5, v6, v7] st A Q else XX d 268 1486 [v0, v1, v2, v3, v4, v5, v6, v7] st A Q := z_eq i_268_1483 rfl rfl rfl
theorem q_268_1486 : XX d 268 1486 [v0, v1, v2, v3, v4, v5, v6, v7] st A Q ↔ XX d 268 1487 [v0, v1, v2, v3, v4, v5, v6, v7] (.int (w 0) :: st) A Q := c_stk i_268_1486 rfl
theorem q_268_1487 : XX d 268 1487 [v0, v1, v2, v3, v4, v5, v6, v7] [.int x] A Q ↔ (x = w 0 ∨ x = w 1) ∧ Q (.inl (some (.int x))) A := e_retZ i_268_1487 rfl
theorem q_268_1488 : XX d 268 1488 [v0, v1, v2, v3, v4, v5, v6, v7] st A Q ↔ XX d 268 2288 [v0, v1, v2, v3, v4, v5, v6, v7] st A Q := c_go i_268_1488 rfl rfl
theorem q_268_1491 : XX d 268 1491 [v0, some (.ref a), v2, v3, v4, v5, v6, v7] st A Q ↔ XX d 268 1492 [v0, some (.ref a), v2, v3, v4, v5, v6, v7] (.ref a :: st) A Q := c_lcl i_268_1491 rfl rfl
theorem q_268_1492 : XX d 268 1492 [some (.ref a), v1, v2, v3, v4, v5, v6, v7] st A Q ↔ XX d 268 1493 [some (.ref a), v1, v2, v3, v4, v5, v6, v7] (.ref a :: st) A Q := c_lcl i_268_1492 rfl rfl
theorem q_268_1493 : XX d 268 1493 [v0, v1, v2, v3, some (.int x), v5, v6, v7] st A Q ↔ XX d 268 1495 [v0, v1, v2, v3, some (.int x), v5, v6, v7] (.int x :: st) A Q := c_lcl i_268_1493 rfl rfl
theorem q_268_1495 : XX d 268 1495 [v0, v1, v2, v3, v4, v5, v6, v7] st A Q ↔ XX d 268 1496 [v0, v1, v2, v3, v4, v5, v6, v7] (.int (w 1) :: st) A Q := c_stk i_268_1495 rfl
theorem q_268_1496 : XX d 268 1496 [v0, v1, v2, v3, v4, v5, v6, v7] (.int y :: .int x :: st) A Q ↔ XX d 268 1497 [v0, v1, v2, v3, v4, v5, v6, v7] (.int (x + y) :: st) A Q := c_stk i_268_1496 rfl
theorem q_268_1497 : XX d 268 1497 [v0, v1, v2, v3, v4, v5, v6, v7] (.int x :: .ref a :: st) (mk S I L R G) Q ↔ inA (S a) ok_i x ∧ XX d 268 1498 [v0, v1, v2, v3, v4, v5, v6, v7] (.int (I a (ix x)) :: st) (mk S I L R G) Q := r_ia i_268_1497
theorem q_268_1498 : XX d 268 1498 [some (.ref a), v1, v2, v3, v4, v5, v6, v7] st A Q ↔ XX d 268 1499 [some (.ref a), v1, v2, v3, v4, v5, v6, v7] (.ref a :: st) A Q := c_lcl i_268_1498 rfl rfl
theorem q_268_1499 : XX d 268 1499 [v0, v1, v2, v3, some (.int x), v5, v6, v7] st A Q ↔ XX d 268 1501 [v0, v1, v2, v3, some (.int x), v5, v6, v7] (.int x :: st) A Q := c_lcl i_268_1499 rfl rfl
theorem q_268_1501 : XX d 268 1501 [v0, v1, v2, v3, v4, v5, v6, v7] st A Q ↔ XX d 268 1502 [v0, v1, v2, v3, v4, v5, v6, v7] (.int (w 2) :: st) A Q := c_stk i_268_1501 rfl
theorem q_268_1502 : XX d 268 1502 [v0, v1, v2, v3, v4, v5, v6, v7] (.int y :: .int x :: st) A Q ↔ XX d 268 1503 [v0, v1, v2, v3, v4, v5, v6, v7] (.int (x + y) :: st) A Q := c_stk i_268_1502 rfl
theorem q_268_1503 : XX d 268 1503 [v0, v1, v2, v3, v4, v5, v6, v7] (.int x :: .ref a :: st) (mk S I L R G) Q ↔ inA (S a) ok_i x ∧ XX d 268 1504 [v0, v1, v2, v3, v4, v5, v6, v7] (.int (I a (ix x)) :: st) (mk S I L R G) Q := r_ia i_268_1503
theorem q_268_1504 : XX d 268 1504 [some (.ref a), v1, v2, v3, v4, v5, v6, v7] st A Q ↔ XX d 268 1505 [some (.ref a), v1, v2, v3, v4, v5, v6, v7] (.ref a :: st) A Q := c_lcl i_268_1504 rfl rfl
theorem q_268_1505 : XX d 268 1505 [v0, v1, v2, v3, some (.int x), v5, v6, v7] st A Q ↔ XX d 268 1507 [v0, v1, v2, v3, some (.int x), v5, v6, v7] (.int x :: st) A Q := c_lcl i_268_1505 rfl rfl
theorem q_268_1507 : XX d 268 1507 [v0, v1, v2, v3, v4, v5, v6, v7] st A Q ↔ XX d 268 1508 [v0, v1, v2, v3, v4, v5, v6, v7] (.int (w 3) :: st) A Q := c_stk i_268_1507 rfl
theorem q_268_1508 : XX d 268 1508 [v0, v1, v2, v3, v4, v5, v6, v7] (.int y :: .int x :: st) A Q ↔ XX d 268 1509 [v0, v1, v2, v3, v4, v5, v6, v7] (.int (x + y) :: st) A Q := c_stk i_268_1508 rfl
theorem q_268_1509 : XX d 268 1509 [v0, v1, v2, v3, v4, v5, v6, v7] (.int x :: .ref a :: st) (mk S I L R G) Q ↔ inA (S a) ok_i x ∧ XX d 268 1510 [v0, v1, v2, v3, v4, v5, v6, v7] (.int (I a (ix x)) :: st) (mk S I L R G) Q := r_ia i_268_1509
theorem q_268_1510 : XX d 268 1510 [v0, v1, v2, some (.ref a), v4, v5, v6, v7] st A Q ↔ XX d 268 1511 [v0, v1, v2, some (.ref a), v4, v5, v6, v7] (.ref a :: st) A Q := c_lcl i_268_1510 rfl rfl
theorem q_268_1511 : XX (d + 1) 268 1511 [v0, v1, v2, v3, v4, v5, v6, v7] [.ref a4, .int x3, .int x2, .int x1, .ref a0] A Q ↔ XC d 257 [.ref a0, .int x1, .int x2, .int x3, .ref a4] A (XK (d + 1) 268 1511 [v0, v1, v2, v3, v4, v5, v6, v7] [] Q) := c_callS i_268_1511 rfl rfl rfl rfl (Nat.le_of_ble_eq_true rfl) (Nat.le_of_ble_eq_true rfl)
theorem q_268_1514 : XX d 268 1514 [v0, v1, v2, v3, some (.int z), v5, v6, v7] (.int x :: st) A Q ↔ XX d 268 1516 [v0, v1, v2, v3, some (.int z), some (.int x), v6, v7] st A Q := c_lcl i_268_1514 rfl rfl
theorem q_268_1516 : XX d 268 1516 [v0, v1, some (.ref a), v3, v4, v5, v6, v7] st A Q ↔ XX d 268 1517 [v0, v1, some (.ref a), v3, v4, v5, v6, v7] (.ref a :: st) A Q := c_lcl i_268_1516 rfl rfl
theorem q_268_1517 : XX d 268 1517 [some (.ref a), v1, v2, v3, v4, v5, v6, v7] st A Q ↔ XX d 268 1518 [some (.ref a), v1, v2, v3, v4, v5, v6, v7] (.ref a :: st) A Q := c_lcl i_268_1517 rfl rfl
theorem q_268_1518 : XX d 268 1518 [v0, v1, v2, v3, some (.int x), v5, v6, v7] st A Q ↔ XX d 268 1520 [v0, v1, v2, v3, some (.int x), v5, v6, v7] (.int x :: st) A Q := c_lcl i_268_1518 rfl rfl
theorem q_268_1520 : XX d 268 1520 [v0, v1, v2, v3, v4, v5, v6, v7] st A Q ↔ XX d 268 1521 [v0, v1, v2, v3, v4, v5, v6, v7] (.int (w 1) :: st) A Q := c_stk i_268_1520 rfl
theorem q_268_1521 : XX d 268 1521 [v0, v1, v2, v3, v4, v5, v6, v7] (.int y :: .int x :: st) A Q ↔ XX d 268 1522 [v0, v1, v2, v3, v4, v5, v6, v7] (.int (x + y) :: st) A Q := c_stk i_268_1521 rfl
theorem q_268_1522 : XX d 268 1522 [v0, v1, v2, v3, v4, v5, v6, v7] (.int x :: .ref a :: st) (mk S I L R G) Q ↔ inA (S a) ok_i x ∧ XX d 268 1523 [v0, v1, v2, v3, v4, v5, v6, v7] (.int (I a (ix x)) :: st) (mk S I L R G) Q := r_ia i_268_1522
theorem q_268_1523 : XX d 268 1523 [some (.ref a), v1, v2, v3, v4, v5, v6, v7] st A Q ↔ XX d 268 1524 [some (.ref a), v1, v2, v3, v4, v5, v6, v7] (.ref a :: st) A Q := c_lcl i_268_1523 rfl rfl
theorem q_268_1524 : XX d 268 1524 [v0, v1, v2, v3, some (.int x), v5, v6, v7] st A Q ↔ XX d 268 1526 [v0, v1, v2, v3, some (.int x), v5, v6, v7] (.int x :: st) A Q := c_lcl i_268_1524 rfl rfl
theorem q_268_1526 : XX d 268 1526 [v0, v1, v2, v3, v4, v5, v6, v7] st A Q ↔ XX d 268 1527 [v0, v1, v2, v3, v4, v5, v6, v7] (.int (w 2) :: st) A Q := c_stk i_268_1526 rfl
theorem q_268_1527 : XX d 268 1527 [v0, v1, v2, v3, v4, v5, v6, v7] (.int y :: .int x :: st) A Q ↔ XX d 268 1528 [v0, v1, v2, v3, v4, v5, v6, v7] (.int (x + y) :: st) A Q := c_stk i_268_1527 rfl
theorem q_268_1528 : XX d 268 1528 [v0, v1, v2, v3, v4, v5, v6, v7] (.int x :: .ref a :: st) (mk S I L R G) Q ↔ inA (S a) ok_i x ∧ XX d 268 1529 [v0, v1, v2, v3, v4, v5, v6, v7] (.int (I a (ix x)) :: st) (mk S I L R G) Q := r_ia i_268_1528
theorem q_268_1529 : XX d 268 1529 [some (.ref a), v1, v2, v3, v4, v5, v6, v7] st A Q ↔ XX d 268 1530 [some (.ref a), v1, v2, v3, v4, v5, v6, v7] (.ref a :: st) A Q := c_lcl i_268_1529 rfl rfl
theorem q_268_1530 : XX d 268 1530 [v0, v1, v2, v3, some (.int x), v5, v6, v7] st A Q ↔ XX d 268 1532 [v0, v1, v2, v3, some (.int x), v5, v6, v7] (.int x :: st) A Q := c_lcl i_268_1530 rfl rfl
theorem q_268_1532 : XX d 268 1532 [v0, v1, v2, v3, v4, v5, v6, v7] st A Q ↔ XX d 268 1533 [v0, v1, v2, v3, v4, v5, v6, v7] (.int (w 3) :: st) A Q := c_stk i_268_1532 rfl
theorem q_268_1533 : XX d 268 1533 [v0, v1, v2, v3, v4, v5, v6, v7] (.int y :: .int x :: st) A Q ↔ XX d 268 1534 [v0, v1, v2, v3, v4, v5, v6, v7] (.int (x + y) :: st) A Q := c_stk i_268_1533 rfl
theorem q_268_1534 : XX d 268 1534 [v0, v1, v2, v3, v4, v5, v6, v7] (.int x :: .ref a :: st) (mk S I L R G) Q ↔ inA (S a) ok_i x ∧ XX d 268 1535 [v0, v1, v2, v3, v4, v5, v6, v7] (.int (I a (ix x)) :: st) (mk S I L R G) Q := r_ia i_268_1534
theorem q_268_1535 : XX (d + 1) 268 1535 [v0, v1, v2, v3, v4, v5, v6, v7] [.int x3, .int x2, .int x1, .ref a0] (mk S I L R G) Q ↔ S a0 = some (.inr 12) ∧ XC d 225 [.ref a0, .int x1, .int x2, .int x3] (mk S I L R G) (XK (d + 1) 268 1535 [v0, v1, v2, v3, v4, v5, v6, v7] [] Q) := c_callV i_268_1535 rfl rfl rfl rfl (Nat.le_of_ble_eq_true rfl) (Nat.le_of_ble_eq_true rfl) rfl
theorem q_268_1538 : XX d 268 1538 [v0, v1, v2, v3, v4, some (.int z), v6, v7] (.int x :: st) A Q ↔ XX d 268 1540 [v0, v1, v2, v3, v4, some (.int z), some (.int x), v7] st A Q := c_lcl i_268_1538 rfl rfl
theorem q_268_1540 : XX d 268 1540 [v0, v1, some (.ref a), v3, v4, v5, v6, v7] st A Q ↔ XX d 268 1541 [v0, v1, some (.ref a), v3, v4, v5, v6, v7] (.ref a :: st) A Q := c_lcl i_268_1540 rfl rfl
theorem q_268_1541 : XX (d + 1) 268 1541 [v0, v1, v2, v3, v4, v5, v6, v7] [.ref a0] (mk S I L R G) Q ↔ S a0 = some (.inr 12) ∧ XC d 153 [.ref a0] (mk S I L R G) (XK (d + 1) 268 1541 [v0, v1, v2, v3, v4, v5, v6, v7] [] Q) := c_callV i_268_1541 rfl rfl rfl rfl (Nat.le_of_ble_eq_true rfl) (Nat.le_of_ble_eq_true rfl) rfl
theorem q_268_1544 : XX d 268 1544 [v0, v1, v2, v3, v4, some (.int x), v6, v7] st A Q ↔ XX d 268 1546 [v0, v1, v2, v3, v4, some (.int x), v6, v7] (.int x :: st) A Q := c_lcl i_268_1544 rfl rfl
theorem q_268_1546 : XX d 268 1546 [v0, v1, v2, v3, v4, v5, v6, v7] (.int y :: .int x :: st) A Q ↔ if x = y then XX d 268 1551 [v0, v1, v2, v3, v4, v5, v6, v7] st A Q else XX d 268 1549 [v0, v1, v2, v3, v4, v5, v6, v7] st A Q := b_eq i_268_1546 rfl rfl rfl
theorem q_268_1549 : XX d 268 1549 [v0, v1, v2, v3, v4, v5, v6, v7] st A Q ↔ XX d 268 1550 [v0, v1, v2, v3, v4, v5, v6, v7] (.int (w 0) :: st) A Q := c_stk i_268_1549 rfl
theorem q_268_1550 : XX d 268 1550 [v0, v1, v2, v3, v4, v5, v6, v7] [.int x] A Q ↔ (x = w 0 ∨ x = w 1) ∧ Q (.inl (some (.int x))) A := e_retZ i_268_1550 rfl
theorem q_268_1551 : XX d 268 1551 [v0, v1, v2, v3, v4, some (.int x), v6, v7] st A Q ↔ XX d 268 1553 [v0, v1, v2, v3, v4, some (.int x), v6, v7] (.int x :: st) A Q := c_lcl i_268_1551 rfl rfl
theorem q_268_1553 : XX d 268 1553 [v0, v1, v2, v3, v4, v5, v6, v7] (.int x :: st) A Q ↔ if x = w 0 then XX d 268 1556 [v0, v1, v2, v3, v4, v5, v6, v7] st A Q else XX d 268 1568 [v0, v1, v2, v3, v4, v5, v6, v7] st A Q := z_ne i_268_1553 rfl rfl rfl
theorem q_268_1556 : XX d 268 1556 [v0, v1, v2, some (.ref a), v4, v5, v6, v7] st A Q ↔ XX d 268 1557 [v0, v1, v2, some (.ref a), v4, v5, v6, v7] (.ref a :: st) A Q := c_lcl i_268_1556 rfl rfl
theorem q_268_1557 : XX d 268 1557 [v0, v1, v2, v3, v4, v5, v6, v7] st A Q ↔ XX d 268 1558 [v0, v1, v2, v3, v4, v5, v6, v7] (.int (w 0) :: st) A Q := c_stk i_268_1557 rfl
theorem q_268_1558 : XX d 268 1558 [v0, v1, v2, v3, v4, v5, v6, v7] (.int x :: .ref a :: st) (mk S I L R G) Q ↔ inA (S a) ok_l x ∧ XX d 268 1559 [v0, v1, v2, v3, v4, v5, v6, v7] (.long (L a (ix x)) :: st) (mk S I L R G) Q := r_la i_268_1558
theorem q_268_1559 : XX d 268 1559 [v0, v1, v2, v3, v4, v5, some (.int x), v7] st A Q ↔ XX d 268 1561 [v0, v1, v2, v3, v4, v5, some (.int x), v7] (.int x :: st) A Q := c_lcl i_268_1559 rfl rfl
theorem q_268_1561 : XX d 268 1561 [v0, v1, v2, v3, v4, v5, v6, v7] (.int x :: st) A Q ↔ XX d 268 1562 [v0, v1, v2, v3, v4, v5, v6, v7] (.long x.toInt64 :: st) A Q := c_stk i_268_1561 rfl
theorem q_268_1562 : XX d 268 1562 [v0, v1, v2, v3, v4, v5, v6, v7] (.long ly :: .long lx :: st) A Q ↔ XX d 268 1563 [v0, v1, v2, v3, v4, v5, v6, v7] (.int (lg_cmp lx ly) :: st) A Q := c_stk i_268_1562 rfl
theorem q_268_1563 : XX d 268 1563 [v0, v1, v2, v3, v4, v5, v6, v7] (.int x :: st) A Q ↔ if x = w 0 then XX d 268 1568 [v0, v1, v2, v3, v4, v5, v6, v7] st A Q else XX d 268 1566 [v0, v1, v2, v3, v4, v5, v6, v7] st A Q := z_eq i_268_1563 rfl rfl rfl
theorem q_268_1566 : XX d 268 1566 [v0, v1, v2, v3, v4, v5, v6, v7] st A Q ↔ XX d 268 1567 [v0, v1, v2, v3, v4, v5, v6, v7] (.int (w 0) :: st) A Q := c_stk i_268_1566 rfl
theorem q_268_1567 : XX d 268 1567 [v0, v1, v2, v3, v4, v5, v6, v7] [.int x] A Q ↔ (x = w 0 ∨ x = w 1) ∧ Q (.inl (some (.int x))) A := e_retZ i_268_1567 rfl
theorem q_268_1568 : XX d 268 1568 [v0, v1, v2, v3, v4, v5, v6, v7] st A Q ↔ XX d 268 2288 [v0, v1, v2, v3, v4, v5, v6, v7] st A Q := c_go i_268_1568 rfl rfl
theorem q_268_1571 : XX d 268 1571 [v0, some (.ref a), v2, v3, v4, v5, v6, v7] st A Q ↔ XX d 268 1572 [v0, some (.ref a), v2, v3, v4, v5, v6, v7] (.ref a :: st) A Q := c_lcl i_268_1571 rfl rfl
theorem q_268_1572 : XX d 268 1572 [some (.ref a), v1, v2, v3, v4, v5, v6, v7] st A Q ↔ XX d 268 1573 [some (.ref a), v1, v2, v3, v4, v5, v6, v7] (.ref a :: st) A Q := c_lcl i_268_1572 rfl rfl
theorem q_268_1573 : XX d 268 1573 [v0, v1, v2, v3, some (.int x), v5, v6, v7] st A Q ↔ XX d 268 1575 [v0, v1, v2, v3, some (.int x), v5, v6, v7] (.int x :: st) A Q := c_lcl i_268_1573 rfl rfl
theorem q_268_1575 : XX d 268 1575 [v0, v1, v2, v3, v4, v5, v6, v7] st A Q ↔ XX d 268 1576 [v0, v1, v2, v3, v4, v5, v6, v7] (.int (w 1) :: st) A Q := c_stk i_268_1575 rfl
theorem q_268_1576 : XX d 268 1576 [v0, v1, v2, v3, v4, v5, v6, v7] (.int y :: .int x :: st) A Q ↔ XX d 268 1577 [v0, v1, v2, v3, v4, v5, v6, v7] (.int (x + y) :: st) A Q := c_stk i_268_1576 rfl
theorem q_268_1577 : XX d 268 1577 [v0, v1, v2, v3, v4, v5, v6, v7] (.int x :: .ref a :: st) (mk S I L R G) Q ↔ inA (S a) ok_i x ∧ XX d 268 1578 [v0, v1, v2, v3, v4, v5, v6, v7] (.int (I a (ix x)) :: st) (mk S I L R G) Q := r_ia i_268_1577
theorem q_268_1578 : XX d 268 1578 [some (.ref a), v1, v2, v3, v4, v5, v6, v7] st A Q ↔ XX d 268 1579 [some (.ref a), v1, v2, v3, v4, v5, v6, v7] (.ref a :: st) A Q := c_lcl i_268_1578 rfl rfl
theorem q_268_1579 : XX d 268 1579 [v0, v1, v2, v3, some (.int x), v5, v6, v7] st A Q ↔ XX d 268 1581 [v0, v1, v2, v3, some (.int x), v5, v6, v7] (.int x :: st) A Q := c_lcl i_268_1579 rfl rfl
theorem q_268_1581 : XX d 268 1581 [v0, v1, v2, v3, v4, v5, v6, v7] st A Q ↔ XX d 268 1582 [v0, v1, v2, v3, v4, v5, v6, v7] (.int (w 2) :: st) A Q := c_stk i_268_1581 rfl
theorem q_268_1582 : XX d 268 1582 [v0, v1, v2, v3, v4, v5, v6, v7] (.int y :: .int x :: st) A Q ↔ XX d 268 1583 [v0, v1, v2, v3, v4, v5, v6, v7] (.int (x + y) :: st) A Q := c_stk i_268_1582 rfl
theorem q_268_1583 : XX d 268 1583 [v0, v1, v2, v3, v4, v5, v6, v7] (.int x :: .ref a :: st) (mk S I L R G) Q ↔ inA (S a) ok_i x ∧ XX d 268 1584 [v0, v1, v2, v3, v4, v5, v6, v7] (.int (I a (ix x)) :: st) (mk S I L R G) Q := r_ia i_268_1583
theorem q_268_1584 : XX d 268 1584 [some (.ref a), v1, v2, v3, v4, v5, v6, v7] st A Q ↔ XX d 268 1585 [some (.ref a), v1, v2, v3, v4, v5, v6, v7] (.ref a :: st) A Q := c_lcl i_268_1584 rfl rfl
theorem q_268_1585 : XX d 268 1585 [v0, v1, v2, v3, some (.int x), v5, v6, v7] st A Q ↔ XX d 268 1587 [v0, v1, v2, v3, some (.int x), v5, v6, v7] (.int x :: st) A Q := c_lcl i_268_1585 rfl rfl
theorem q_268_1587 : XX d 268 1587 [v0, v1, v2, v3, v4, v5, v6, v7] st A Q ↔ XX d 268 1588 [v0, v1, v2, v3, v4, v5, v6, v7] (.int (w 3) :: st) A Q := c_stk i_268_1587 rfl
theorem q_268_1588 : XX d 268 1588 [v0, v1, v2, v3, v4, v5, v6, v7] (.int y :: .int x :: st) A Q ↔ XX d 268 1589 [v0, v1, v2, v3, v4, v5, v6, v7] (.int (x + y) :: st) A Q := c_stk i_268_1588 rfl
theorem q_268_1589 : XX d 268 1589 [v0, v1, v2, v3, v4, v5, v6, v7] (.int x :: .ref a :: st) (mk S I L R G) Q ↔ inA (S a) ok_i x ∧ XX d 268 1590 [v0, v1, v2, v3, v4, v5, v6, v7] (.int (I a (ix x)) :: st) (mk S I L R G) Q := r_ia i_268_1589
theorem q_268_1590 : XX d 268 1590 [some (.ref a), v1, v2, v3, v4, v5, v6, v7] st A Q ↔ XX d 268 1591 [some (.ref a), v1, v2, v3, v4, v5, v6, v7] (.ref a :: st) A Q := c_lcl i_268_1590 rfl rfl
theorem q_268_1591 : XX d 268 1591 [v0, v1, v2, v3, some (.int x), v5, v6, v7] st A Q ↔ XX d 268 1593 [v0, v1, v2, v3, some (.int x), v5, v6, v7] (.int x :: st) A Q := c_lcl i_268_1591 rfl rfl
theorem q_268_1593 : XX d 268 1593 [v0, v1, v2, v3, v4, v5, v6, v7] st A Q ↔ XX d 268 1594 [v0, v1, v2, v3, v4, v5, v6, v7] (.int (w 4) :: st) A Q := c_stk i_268_1593 rfl
theorem q_268_1594 : XX d 268 1594 [v0, v1, v2, v3, v4, v5, v6, v7] (.int y :: .int x :: st) A Q ↔ XX d 268 1595 [v0, v1, v2, v3, v4, v5, v6, v7] (.int (x + y) :: st) A Q := c_stk i_268_1594 rfl
theorem q_268_1595 : XX d 268 1595 [v0, v1, v2, v3, v4, v5, v6, v7] (.int x :: .ref a :: st) (mk S I L R G) Q ↔ inA (S a) ok_i x ∧ XX d 268 1596 [v0, v1, v2, v3, v4, v5, v6, v7] (.int (I a (ix x)) :: st) (mk S I L R G) Q := r_ia i_268_1595
theorem q_268_1596 : XX d 268 1596 [v0, v1, v2, some (.ref a), v4, v5, v6, v7] st A Q ↔ XX d 268 1597 [v0, v1, v2, some (.ref a), v4, v5, v6, v7] (.ref a :: st) A Q := c_lcl i_268_1596 rfl rfl
theorem q_268_1597 : XX (d + 1) 268 1597 [v0, v1, v2, v3, v4, v5, v6, v7] [.ref a5, .int x4, .int x3, .int x2, .int x1, .ref a0] A Q ↔ XC d 258 [.ref a0, .int x1, .int x2, .int x3, .int x4, .ref a5] A (XK (d + 1) 268 1597 [v0, v1, v2, v3, v4, v5, v6, v7] [] Q) := c_callS i_268_1597 rfl rfl rfl rfl (Nat.le_of_ble_eq_true rfl) (Nat.le_of_ble_eq_true rfl)
theorem q_268_1600 : XX d 268 1600 [v0, v1, v2, v3, some (.int z), v5, v6, v7] (.int x :: st) A Q ↔ XX d 268 1602 [v0, v1, v2, v3, some (.int z), some (.int x), v6, v7] st A Q := c_lcl i_268_1600 rfl rfl
theorem q_268_1602 : XX d 268 1602 [v0, v1, some (.ref a), v3, v4, v5, v6, v7] st A Q ↔ XX d 268 1603 [v0, v1, some (.ref a), v3, v4, v5, v6, v7] (.ref a :: st) A Q := c_lcl i_268_1602 rfl rfl
theorem q_268_1603 : XX d 268 1603 [some (.ref a), v1, v2, v3, v4, v5, v6, v7] st A Q ↔ XX d 268 1604 [some (.ref a), v1, v2, v3, v4, v5, v6, v7] (.ref a :: st) A Q := c_lcl i_268_1603 rfl rfl
theorem q_268_1604 : XX d 268 1604 [v0, v1, v2, v3, some (.int x), v5, v6, v7] st A Q ↔ XX d 268 1606 [v0, v1, v2, v3, some (.int x), v5, v6, v7] (.int x :: st) A Q := c_lcl i_268_1604 rfl rfl
theorem q_268_1606 : XX d 268 1606 [v0, v1, v2, v3, v4, v5, v6, v7] st A Q ↔ XX d 268 1607 [v0, v1, v2, v3, v4, v5, v6, v7] (.int (w 1) :: st) A Q := c_stk i_268_1606 rfl
theorem q_268_1607 : XX d 268 1607 [v0, v1, v2, v3, v4, v5, v6, v7] (.int y :: .int x :: st) A Q ↔ XX d 268 1608 [v0, v1, v2, v3, v4, v5, v6, v7] (.int (x + y) :: st) A Q := c_stk i_268_1607 rfl
theorem q_268_1608 : XX d 268 1608 [v0, v1, v2, v3, v4, v5, v6, v7] (.int x :: .ref a :: st) (mk S I L R G) Q ↔ inA (S a) ok_i x ∧ XX d 268 1609 [v0, v1, v2, v3, v4, v5, v6, v7] (.int (I a (ix x)) :: st) (mk S I L R G) Q := r_ia i_268_1608
theorem q_268_1609 : XX d 268 1609 [some (.ref a), v1, v2, v3, v4, v5, v6, v7] st A Q ↔ XX d 268 1610 [some (.ref a), v1, v2, v3, v4, v5, v6, v7] (.ref a :: st) A Q := c_lcl i_268_1609 rfl rfl
theorem q_268_1610 : XX d 268 1610 [v0, v1, v2, v3, some (.int x), v5, v6, v7] st A Q ↔ XX d 268 1612 [v0, v1, v2, v3, some (.int x), v5, v6, v7] (.int x :: st) A Q := c_lcl i_268_1610 rfl rfl
theorem q_268_1612 : XX d 268 1612 [v0, v1, v2, v3, v4, v5, v6, v7] st A Q ↔ XX d 268 1613 [v0, v1, v2, v3, v4, v5, v6, v7] (.int (w 2) :: st) A Q := c_stk i_268_1612 rfl
theorem q_268_1613 : XX d 268 1613 [v0, v1, v2, v3, v4, v5, v6, v7] (.int y :: .int x :: st) A Q ↔ XX d 268 1614 [v0, v1, v2, v3, v4, v5, v6, v7] (.int (x + y) :: st) A Q := c_stk i_268_1613 rfl
theorem q_268_1614 : XX d 268 1614 [v0, v1, v2, v3, v4, v5, v6, v7] (.int x :: .ref a :: st) (mk S I L R G) Q ↔ inA (S a) ok_i x ∧ XX d 268 1615 [v0, v1, v2, v3, v4, v5, v6, v7] (.int (I a (ix x)) :: st) (mk S I L R G) Q := r_ia i_268_1614
theorem q_268_1615 : XX d 268 1615 [some (.ref a), v1, v2, v3, v4, v5, v6, v7] st A Q ↔ XX d 268 1616 [some (.ref a), v1, v2, v3, v4, v5, v6, v7] (.ref a :: st) A Q := c_lcl i_268_1615 rfl rfl
theorem q_268_1616 : XX d 268 1616 [v0, v1, v2, v3, some (.int x), v5, v6, v7] st A Q ↔ XX d 268 1618 [v0, v1, v2, v3, some (.int x), v5, v6, v7] (.int x :: st) A Q := c_lcl i_268_1616 rfl rfl
theorem q_268_1618 : XX d 268 1618 [v0, v1, v2, v3, v4, v5, v6, v7] st A Q ↔ XX d 268 1619 [v0, v1, v2, v3, v4, v5, v6, v7] (.int (w 3) :: st) A Q := c_stk i_268_1618 rfl
theorem q_268_1619 : XX d 268 1619 [v0, v1, v2, v3, v4, v5, v6, v7] (.int y :: .int x :: st) A Q ↔ XX d 268 1620 [v0, v1, v2, v3, v4, v5, v6, v7] (.int (x + y) :: st) A Q := c_stk i_268_1619 rfl
theorem q_268_1620 : XX d 268 1620 [v0, v1, v2, v3, v4, v5, v6, v7] (.int x :: .ref a :: st) (mk S I L R G) Q ↔ inA (S a) ok_i x ∧ XX d 268 1621 [v0, v1, v2, v3, v4, v5, v6, v7] (.int (I a (ix x)) :: st) (mk S I L R G) Q := r_ia i_268_1620
theorem q_268_1621 : XX d 268 1621 [some (.ref a), v1, v2, v3, v4, v5, v6, v7] st A Q ↔ XX d 268 1622 [some (.ref a), v1, v2, v3, v4, v5, v6, v7] (.ref a :: st) A Q := c_lcl i_268_1621 rfl rfl
theorem q_268_1622 : XX d 268 1622 [v0, v1, v2, v3, some (.int x), v5, v6, v7] st A Q ↔ XX d 268 1624 [v0, v1, v2, v3, some (.int x), v5, v6, v7] (.int x :: st) A Q := c_lcl i_268_1622 rfl rfl
theorem q_268_1624 : XX d 268 1624 [v0, v1, v2, v3, v4, v5, v6, v7] st A Q ↔ XX d 268 1625 [v0, v1, v2, v3, v4, v5, v6, v7] (.int (w 4) :: st) A Q := c_stk i_268_1624 rfl
theorem q_268_1625 : XX d 268 1625 [v0, v1, v2, v3, v4, v5, v6, v7] (.int y :: .int x :: st) A Q ↔ XX d 268 1626 [v0, v1, v2, v3, v4, v5, v6, v7] (.int (x + y) :: st) A Q := c_stk i_268_1625 rfl
end
