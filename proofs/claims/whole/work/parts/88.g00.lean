/-! the law's words for its calls -/
set_option maxRecDepth 20000 in
theorem ggL_law_X11_init : GoodIn wsL_law wsX11_init := goodIn_r _ [9, 10, 11, 12, 13, 14, 15, 16, 17, 18, 19, 20, 21, 22, 23, 24, 25, 26, 27, 28, 29, 30, 31, 32, 33, 34, 35, 36, 37, 38, 39, 40, 41, 42, 43, 44, 45, 46, 1162, 1163, 1164, 1165, 1166, 1167, 1168, 1169, 1170, 1171, 1152, 1153, 1154, 1155] (by decide +kernel) (by decide +kernel)
set_option maxRecDepth 20000 in
theorem gL_law_X11_init : GoodIn wsL_law (wsX11_init) := ggL_law_X11_init
set_option maxRecDepth 20000 in
theorem ggL_law_X13_init : GoodIn wsL_law wsX13_init := goodIn_r _ [49, 50, 11, 12, 51, 52, 53, 54, 55, 56, 25, 57, 58, 59, 60, 61, 42, 62, 63, 64, 65, 1172, 1173, 1174, 1175, 1156, 1157, 1158, 1159, 1160, 1161] (by decide +kernel) (by decide +kernel)
set_option maxRecDepth 20000 in
theorem gL_law_X13_init : GoodIn wsL_law (wsX13_init) := ggL_law_X13_init
set_option maxRecDepth 20000 in
theorem ggL_law_X11_day : GoodIn wsL_law wsX11_day := goodIn_r _ [69, 19, 70, 71, 72, 18, 73, 74, 75, 76, 77, 78, 79, 80, 81, 82, 83, 84, 85, 86, 45, 87, 88, 89, 90, 91, 92, 93, 94, 95, 96, 97, 98, 99, 100, 101, 102, 103, 104, 105, 106, 107, 108, 109, 110, 2, 111, 112, 113, 114, 115, 116, 117, 118, 1152, 1153, 1154, 1155, 1163, 1164, 1165, 1166, 1167, 1168, 1169, 1170, 1171, 1176, 1177, 1178, 1179, 1180, 1181, 1182, 1183, 1184, 1185, 1186, 1187, 1188, 1189, 1190, 1191, 1192, 1193, 1194, 1195, 1196, 1197, 1198, 1199, 1200] (by decide +kernel) (by decide +kernel)
set_option maxRecDepth 20000 in
theorem gL_law_X11_day : GoodIn wsL_law (wsV RL 13 RX11 yX11_day wsX11_day) := goodIn_app (goodIn_of _ (by decide +kernel)) ggL_law_X11_day
set_option maxRecDepth 20000 in
theorem ggL_law_X13_day : GoodIn wsL_law wsX13_day := goodIn_r _ [122, 123, 57, 54, 124, 125, 126, 5, 127, 128, 129, 130, 131, 132, 133, 134, 135, 136, 137, 138, 139, 140, 141, 142, 143, 144, 145, 146, 147, 148, 149, 150, 151, 152, 153, 154, 155, 156, 157, 158, 159, 160, 161, 162, 163, 164, 165, 166, 167, 168, 169, 1156, 1157, 1158, 1159, 1160, 1161, 1172, 1173, 1174, 1175] (by decide +kernel) (by decide +kernel)
set_option maxRecDepth 20000 in
theorem gL_law_X13_day : GoodIn wsL_law (wsV RL 17 RX13 yX13_day wsX13_day) := goodIn_app (goodIn_of _ (by decide +kernel)) ggL_law_X13_day
set_option maxRecDepth 20000 in
theorem ggL_law_X11_rule : GoodIn wsL_law wsX11_rule := goodIn_r _ [173, 19, 174, 175, 176, 18, 177, 37, 114, 115, 116, 2, 117, 118, 1152, 1153, 1154, 1155, 1163, 1164, 1165, 1166, 1167, 1168, 1169, 1170, 1171] (by decide +kernel) (by decide +kernel)
set_option maxRecDepth 20000 in
theorem gL_law_X11_rule : GoodIn wsL_law (wsV RL 18 RX11 yX11_rule wsX11_rule) := goodIn_app (goodIn_of _ (by decide +kernel)) ggL_law_X11_rule
set_option maxRecDepth 20000 in
theorem ggL_law_X13_rule : GoodIn wsL_law wsX13_rule := goodIn_r _ [181, 182, 183, 54, 128, 129, 130, 5, 131, 132, 133, 1156, 1157, 1158, 1159, 1160, 1161, 1172, 1173, 1174, 1175] (by decide +kernel) (by decide +kernel)
set_option maxRecDepth 20000 in
theorem gL_law_X13_rule : GoodIn wsL_law (wsV RL 22 RX13 yX13_rule wsX13_rule) := goodIn_app (goodIn_of _ (by decide +kernel)) ggL_law_X13_rule
set_option maxRecDepth 20000 in
theorem ggL_law_X11_thing : GoodIn wsL_law wsX11_thing := goodIn_r _ [187, 19, 188, 189, 190, 18, 191, 192, 193, 194, 195, 196, 197, 198, 199, 200, 201, 202, 203, 204, 205, 39, 41, 206, 207, 208, 209, 210, 211, 212, 213, 214, 215, 216, 217, 11, 12, 218, 219, 220, 221, 222, 223, 224, 225, 46, 226, 74, 227, 228, 229, 15, 230, 231, 232, 233, 234, 235, 236, 237, 26, 238, 239, 240, 241, 114, 115, 116, 2, 117, 118, 1152, 1153, 1154, 1155, 1201, 1163, 1164, 1165, 1166, 1167, 1168, 1169, 1170, 1171, 1162] (by decide +kernel) (by decide +kernel)
set_option maxRecDepth 20000 in
theorem gL_law_X11_thing : GoodIn wsL_law (wsV RL 23 RX11 yX11_thing wsX11_thing) := goodIn_app (goodIn_of _ (by decide +kernel)) ggL_law_X11_thing
set_option maxRecDepth 20000 in
theorem ggL_law_X13_thing : GoodIn wsL_law wsX13_thing := goodIn_r _ [245, 246, 247, 248, 5, 249, 250, 251, 252, 154, 155, 156, 157, 54, 128, 129, 130, 131, 132, 133, 253, 254, 255, 256, 257, 258, 259, 260, 261, 262, 263, 264, 124, 125, 126, 127, 1156, 1157, 1158, 1159, 1160, 1161, 1172, 1173, 1174, 1175] (by decide +kernel) (by decide +kernel)
set_option maxRecDepth 20000 in
theorem gL_law_X13_thing : GoodIn wsL_law (wsV RL 26 RX13 yX13_thing wsX13_thing) := goodIn_app (goodIn_of _ (by decide +kernel)) ggL_law_X13_thing
set_option maxRecDepth 20000 in
theorem ggL_law_X11_gold : GoodIn wsL_law wsX11_gold := goodIn_r _ [268, 19, 269, 270, 271, 18, 272, 273, 274, 275, 195, 196, 197, 198, 199, 200, 201, 202, 203, 204, 205, 39, 41, 276, 277, 278, 279, 280, 281, 282, 283, 284, 285, 286, 287, 288, 289, 290, 291, 214, 215, 216, 217, 11, 12, 218, 219, 220, 221, 222, 223, 224, 225, 46, 226, 74, 227, 228, 229, 15, 230, 231, 232, 233, 234, 235, 236, 237, 26, 238, 239, 240, 241, 292, 293, 294, 295, 296, 114, 115, 116, 2, 117, 118, 1152, 1153, 1154, 1155, 1202, 1203, 1204, 1163, 1164, 1165, 1166, 1167, 1168, 1169, 1170, 1171, 1205, 1206, 1207, 1208, 1209, 1210, 1162] (by decide +kernel) (by decide +kernel)
set_option maxRecDepth 20000 in
theorem gL_law_X11_gold : GoodIn wsL_law (wsV RL 28 RX11 yX11_gold wsX11_gold) := goodIn_app (goodIn_of _ (by decide +kernel)) ggL_law_X11_gold
set_option maxRecDepth 20000 in
theorem ggL_law_X13_gold : GoodIn wsL_law wsX13_gold := goodIn_r _ [300, 246, 247, 248, 5, 249, 250, 251, 252, 154, 155, 156, 157, 54, 128, 129, 130, 131, 132, 133, 301, 302, 303, 304, 257, 258, 259, 260, 261, 262, 263, 264, 124, 125, 126, 127, 305, 306, 307, 308, 309, 310, 1156, 1157, 1158, 1159, 1160, 1161, 1172, 1173, 1174, 1175] (by decide +kernel) (by decide +kernel)
set_option maxRecDepth 20000 in
theorem gL_law_X13_gold : GoodIn wsL_law (wsV RL 32 RX13 yX13_gold wsX13_gold) := goodIn_app (goodIn_of _ (by decide +kernel)) ggL_law_X13_gold
set_option maxRecDepth 20000 in
theorem ggL_law_X11_coat : GoodIn wsL_law wsX11_coat := goodIn_r _ [314, 19, 315, 316, 317, 18, 318, 319, 320, 321, 74, 195, 196, 197, 198, 199, 200, 201, 202, 203, 204, 205, 39, 41, 206, 207, 208, 209, 322, 323, 324, 325, 326, 327, 214, 215, 216, 217, 11, 12, 218, 219, 220, 221, 222, 223, 224, 225, 46, 226, 227, 228, 229, 15, 230, 231, 232, 233, 234, 235, 236, 237, 26, 238, 239, 240, 241, 114, 115, 116, 2, 117, 118, 1152, 1153, 1154, 1155, 1211, 1212, 1213, 1163, 1164, 1165, 1166, 1167, 1168, 1169, 1170, 1171, 1162] (by decide +kernel) (by decide +kernel)
set_option maxRecDepth 20000 in
theorem gL_law_X11_coat : GoodIn wsL_law (wsV RL 33 RX11 yX11_coat wsX11_coat) := goodIn_app (goodIn_of _ (by decide +kernel)) ggL_law_X11_coat
set_option maxRecDepth 20000 in
theorem ggL_law_X13_coat : GoodIn wsL_law wsX13_coat := goodIn_r _ [331, 246, 247, 248, 5, 249, 250, 251, 252, 154, 155, 156, 157, 54, 128, 129, 130, 131, 132, 133, 253, 254, 255, 256, 257, 258, 259, 260, 261, 262, 263, 264, 124, 125, 126, 127, 1156, 1157, 1158, 1159, 1160, 1161, 1172, 1173, 1174, 1175] (by decide +kernel) (by decide +kernel)
set_option maxRecDepth 20000 in
theorem gL_law_X13_coat : GoodIn wsL_law (wsV RL 37 RX13 yX13_coat wsX13_coat) := goodIn_app (goodIn_of _ (by decide +kernel)) ggL_law_X13_coat
