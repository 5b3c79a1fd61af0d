/-! the law's words for its calls -/
set_option maxRecDepth 20000 in
theorem ggL_law_X11_half : GoodIn wsL_law wsX11_half := goodIn_r _ [1062, 19, 1063, 1064, 1065, 18, 1066, 76, 521, 83, 84, 85, 86, 45, 1152, 1153, 1154, 1155, 1163, 1164, 1165, 1166, 1167, 1168, 1169, 1170, 1171, 1176, 1177, 1178, 1179, 1180, 1181, 1182, 1183, 1184, 1185, 1186, 1187, 1188, 1189, 1190, 1191, 1192, 1193, 1194] (by decide +kernel) (by decide +kernel)
set_option maxRecDepth 20000 in
theorem gL_law_X11_half : GoodIn wsL_law (wsV RL 137 RX11 yX11_half wsX11_half) := goodIn_app (goodIn_of _ (by decide +kernel)) ggL_law_X11_half
set_option maxRecDepth 20000 in
theorem ggL_law_X13_half : GoodIn wsL_law wsX13_half := goodIn_r _ [1070, 132, 54, 1156, 1157, 1158, 1159, 1160, 1161, 1172, 1173, 1174, 1175] (by decide +kernel) (by decide +kernel)
set_option maxRecDepth 20000 in
theorem gL_law_X13_half : GoodIn wsL_law (wsV RL 140 RX13 yX13_half wsX13_half) := goodIn_app (goodIn_of _ (by decide +kernel)) ggL_law_X13_half
set_option maxRecDepth 20000 in
theorem ggL_law_X11_sum : GoodIn wsL_law wsX11_sum := goodIn_r _ [1074, 19, 1075, 1076, 1077, 18, 1078, 74, 975, 46, 226, 1079, 1080, 1081, 1082, 76, 846, 83, 84, 85, 86, 45, 862, 863, 864, 90, 865, 866, 867, 868, 869, 870, 871, 532, 533, 1083, 1044, 1045, 1046, 1084, 1085, 1086, 15, 1087, 231, 232, 233, 234, 26, 1088, 1089, 1090, 1091, 1092, 1093, 1094, 1095, 102, 96, 103, 104, 1096, 1097, 1098, 1099, 1152, 1153, 1154, 1155, 1163, 1164, 1165, 1166, 1167, 1168, 1169, 1170, 1171, 1176, 1177, 1178, 1179, 1180, 1181, 1182, 1183, 1184, 1185, 1186, 1187, 1188, 1189, 1190, 1191, 1192, 1193, 1194, 1162] (by decide +kernel) (by decide +kernel)
set_option maxRecDepth 20000 in
theorem gL_law_X11_sum : GoodIn wsL_law (wsV RL 141 RX11 yX11_sum wsX11_sum) := goodIn_app (goodIn_of _ (by decide +kernel)) ggL_law_X11_sum
set_option maxRecDepth 20000 in
theorem ggL_law_X13_sum : GoodIn wsL_law wsX13_sum := goodIn_r _ [1103, 132, 1026, 134, 135, 136, 5, 137, 54, 138, 139, 140, 141, 124, 125, 126, 127, 142, 143, 144, 145, 146, 147, 148, 149, 150, 151, 152, 153, 154, 155, 156, 157, 1156, 1157, 1158, 1159, 1160, 1161, 1172, 1173, 1174, 1175] (by decide +kernel) (by decide +kernel)
set_option maxRecDepth 20000 in
theorem gL_law_X13_sum : GoodIn wsL_law (wsV RL 145 RX13 yX13_sum wsX13_sum) := goodIn_app (goodIn_of _ (by decide +kernel)) ggL_law_X13_sum
set_option maxRecDepth 20000 in
theorem ggL_law_X11_as : GoodIn wsL_law wsX11_as := goodIn_r _ [1107, 19, 1075, 1076, 1077, 18, 1078, 74, 975, 46, 226, 1079, 1080, 1081, 1082, 76, 846, 83, 84, 85, 86, 45, 862, 863, 864, 90, 865, 866, 867, 868, 869, 870, 871, 532, 533, 1083, 1044, 1045, 1046, 1084, 1085, 1086, 15, 1087, 231, 232, 233, 234, 26, 1088, 1089, 1090, 1091, 1092, 1093, 1094, 1095, 102, 96, 103, 104, 1096, 1097, 1098, 1099, 1152, 1153, 1154, 1155, 1163, 1164, 1165, 1166, 1167, 1168, 1169, 1170, 1171, 1176, 1177, 1178, 1179, 1180, 1181, 1182, 1183, 1184, 1185, 1186, 1187, 1188, 1189, 1190, 1191, 1192, 1193, 1194, 1162] (by decide +kernel) (by decide +kernel)
set_option maxRecDepth 20000 in
theorem gL_law_X11_as : GoodIn wsL_law (wsV RL 146 RX11 yX11_as wsX11_as) := goodIn_app (goodIn_of _ (by decide +kernel)) ggL_law_X11_as
set_option maxRecDepth 20000 in
theorem ggL_law_X13_as : GoodIn wsL_law wsX13_as := goodIn_r _ [1111, 132, 1026, 57, 124, 125, 126, 5, 127, 54, 134, 135, 136, 137, 138, 139, 140, 141, 142, 143, 144, 145, 146, 147, 148, 149, 150, 151, 152, 153, 154, 155, 156, 157, 1156, 1157, 1158, 1159, 1160, 1161, 1172, 1173, 1174, 1175] (by decide +kernel) (by decide +kernel)
set_option maxRecDepth 20000 in
theorem gL_law_X13_as : GoodIn wsL_law (wsV RL 149 RX13 yX13_as wsX13_as) := goodIn_app (goodIn_of _ (by decide +kernel)) ggL_law_X13_as
set_option maxRecDepth 20000 in
theorem ggL_law_X11_check : GoodIn wsL_law wsX11_check := goodIn_r _ [1115, 19, 1116, 1117, 1118, 18, 1119, 1120, 1121, 1122, 1123, 46, 226, 76, 78, 1096, 1097, 1098, 15, 1099, 26, 79, 80, 81, 82, 83, 84, 85, 86, 45, 87, 88, 89, 90, 91, 92, 1124, 1125, 1126, 1127, 1128, 1129, 1130, 1131, 463, 1132, 1133, 1134, 1135, 1136, 1137, 1138, 1139, 39, 43, 464, 199, 200, 201, 1152, 1153, 1154, 1155, 1163, 1164, 1165, 1166, 1167, 1168, 1169, 1170, 1171, 1176, 1177, 1178, 1179, 1180, 1181, 1182, 1183, 1184, 1185, 1186, 1187, 1188, 1189, 1190, 1191, 1192, 1193, 1194, 1162] (by decide +kernel) (by decide +kernel)
set_option maxRecDepth 20000 in
theorem gL_law_X11_check : GoodIn wsL_law (wsV RL 150 RX11 yX11_check wsX11_check) := goodIn_app (goodIn_of _ (by decide +kernel)) ggL_law_X11_check
set_option maxRecDepth 20000 in
theorem ggL_law_X13_check : GoodIn wsL_law wsX13_check := goodIn_r _ [1143, 132, 1156, 1157, 1158, 1159, 1160, 1161] (by decide +kernel) (by decide +kernel)
set_option maxRecDepth 20000 in
theorem gL_law_X13_check : GoodIn wsL_law (wsV RL 153 RX13 yX13_check wsX13_check) := goodIn_app (goodIn_of _ (by decide +kernel)) ggL_law_X13_check
set_option maxRecDepth 20000 in
theorem ggL_law_X11_status : GoodIn wsL_law wsX11_status := goodIn_r _ [1147, 118, 1152, 1153, 1154, 1155] (by decide +kernel) (by decide +kernel)
set_option maxRecDepth 20000 in
theorem gL_law_X11_status : GoodIn wsL_law (wsV RL 154 RX11 yX11_status wsX11_status) := goodIn_app (goodIn_of _ (by decide +kernel)) ggL_law_X11_status
set_option maxRecDepth 20000 in
theorem ggL_law_X13_status : GoodIn wsL_law wsX13_status := goodIn_r _ [1151, 132, 133, 1156, 1157, 1158, 1159, 1160, 1161] (by decide +kernel) (by decide +kernel)
set_option maxRecDepth 20000 in
theorem gL_law_X13_status : GoodIn wsL_law (wsV RL 157 RX13 yX13_status wsX13_status) := goodIn_app (goodIn_of _ (by decide +kernel)) ggL_law_X13_status
