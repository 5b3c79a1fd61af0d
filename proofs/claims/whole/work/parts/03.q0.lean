set_option maxRecDepth 20000 in
theorem ggL_law_X11_init : GoodIn wsL_law wsX11_init := goodIn_r _ [9, 10, 11, 12, 13, 14, 15, 16, 17, 18, 19, 20, 21, 22, 23, 24, 25, 26, 27, 28, 29, 30, 31, 32, 33, 34, 35, 36, 37, 38, 39, 40, 41, 42, 43, 44, 45, 46, 1162, 1163, 1164, 1165, 1166, 1167, 1168, 1169, 1170, 1171, 1152, 1153, 1154, 1155] (by decide +kernel) (by decide +kernel)
set_option maxRecDepth 20000 in
theorem gL_law_X11_init : GoodIn wsL_law (wsX11_init) := ggL_law_X11_init
set_option maxRecDepth 20000 in
theorem ggL_law_X13_init : GoodIn wsL_law wsX13_init := goodIn_r _ [49, 50, 11, 12, 51, 52, 53, 54, 55, 56, 25, 57, 58, 59, 60, 61, 42, 62, 63, 64, 65, 1172, 1173, 1174, 1175, 1156, 1157, 1158, 1159, 1160, 1161] (by decide +kernel) (by decide +kernel)
set_option maxRecDepth 20000 in
theorem gL_law_X13_init : GoodIn wsL_law (wsX13_init) := ggL_law_X13_init
set_option maxRecDepth 20000 in
theorem ggL_law_X11_day : GoodIn wsL_law wsX11_day := goodIn_r _ [69, 19, 70, 71, 72, 18, 73, 74, 75, 76, 77, 78, 79, 80, 81, 82, 83, 84, 85, 86, 45, 87, 88, 89, 90, 91, 92, 93, 94, 95, 96, 97, 98, 99, 100, 101, 102, 103, 104, 105, 106, 107, 108, 109, 110, 2, 111, 112, 113, 114, 115, 116, 117, 118, 1152, 1153, 1154, 1155, 1163, 1164, 1165, 1166, 1167, 1168, 1169, 1170, 1171, 1176, 1177, 1178, 1179, 1180, 1181, 1182, 1183, 1184, 1185, 1186, 1187, 1188, 1189, 1190, 1191, 1192, 1193, 1194, 1195, 1196, 1197, 1198, 1199, 1200] (by decide +kernel) (by decide +kernel)
set_option maxRecDepth 20000 in
theorem gL_law_X11_day : GoodIn wsL_law (wsV RL 13 RX11 yX11_day wsX11_day) := goodIn_app (goodIn_of _ (by decide +kernel)) ggL_law_X11_day
set_option maxRecDepth 20000 in
theorem ggL_law_X13_day : GoodIn wsL_law wsX13_day := goodIn_r _ [122, 123, 57, 54, 124, 125, 126, 5, 127, 128, 129, 130, 131, 132, 133, 134, 135, 136, 137, 138, 139, 140, 141, 142, 143, 144, 145, 146, 147, 148, 149, 150, 151, 152, 153, 154, 155, 156, 157, 158, 159, 160, 161, 162, 163, 164, 165, 166, 167, 168, 169, 1156, 1157, 1158, 1159, 1160, 1161, 1172, 1173, 1174, 1175] (by decide +kernel) (by decide +kernel)
set_option maxRecDepth 20000 in
theorem gL_law_X13_day : GoodIn wsL_law (wsV RL 17 RX13 yX13_day wsX13_day) := goodIn_app (goodIn_of _ (by decide +kernel)) ggL_law_X13_day
set_option maxRecDepth 20000 in
theorem ggL_law_X11_rule : GoodIn wsL_law wsX11_rule := goodIn_r _ [173, 19, 174, 175, 176, 18, 177, 37, 114, 115, 116, 2, 117, 118, 1152, 1153, 1154, 1155, 1163, 1164, 1165, 1166, 1167, 1168, 1169, 1170, 1171] (by decide +kernel) (by decide +kernel)
set_option maxRecDepth 20000 in
theorem gL_law_X11_rule : GoodIn wsL_law (wsV RL 18 RX11 yX11_rule wsX11_rule) := goodIn_app (goodIn_of _ (by decide +kernel)) ggL_law_X11_rule
set_option maxRecDepth 20000 in
theorem ggL_law_X13_rule : GoodIn wsL_law wsX13_rule := goodIn_r _ [181, 182, 183, 54, 128, 129, 130, 5, 131, 132, 133, 1156, 1157, 1158, 1159, 1160, 1161, 1172, 1173, 1174, 1175] (by decide +kernel) (by decide +kernel)
set_option maxRecDepth 20000 in
theorem gL_law_X13_rule : GoodIn wsL_law (wsV RL 22 RX13 yX13_rule wsX13_rule) := goodIn_app (goodIn_of _ (by decide +kernel)) ggL_law_X13_rule
set_option maxRecDepth 20000 in
theorem ggL_law_X11_thing : GoodIn wsL_law wsX11_thing := goodIn_r _ [187, 19, 188, 189, 190, 18, 191, 192, 193, 194, 195, 196, 197, 198, 199, 200, 201, 202, 203, 204, 205, 39, 41, 206, 207, 208, 209, 210, 211, 212, 213, 214, 215, 216, 217, 11, 12, 218, 219, 220, 221, 222, 223, 224, 225, 46, 226, 74, 227, 228, 229, 15, 230, 231, 232, 233, 234, 235, 236, 237, 26, 238, 239, 240, 241, 114, 115, 116, 2, 117, 118, 1152, 1153, 1154, 1155, 1201, 1163, 1164, 1165, 1166, 1167, 1168, 1169, 1170, 1171, 1162] (by decide +kernel) (by decide +kernel)
set_option maxRecDepth 20000 in
theorem gL_law_X11_thing : GoodIn wsL_law (wsV RL 23 RX11 yX11_thing wsX11_thing) := goodIn_app (goodIn_of _ (by decide +kernel)) ggL_law_X11_thing
set_option maxRecDepth 20000 in
theorem ggL_law_X13_thing : GoodIn wsL_law wsX13_thing := goodIn_r _ [245, 246, 247, 248, 5, 249, 250, 251, 252, 154, 155, 156, 157, 54, 128, 129, 130, 131, 132, 133, 253, 254, 255, 256, 257, 258, 259, 260, 261, 262, 263, 264, 124, 125, 126, 127, 1156, 1157, 1158, 1159, 1160, 1161, 1172, 1173, 1174, 1175] (by decide +kernel) (by decide +kernel)
set_option maxRecDepth 20000 in
theorem gL_law_X13_thing : GoodIn wsL_law (wsV RL 26 RX13 yX13_thing wsX13_thing) := goodIn_app (goodIn_of _ (by decide +kernel)) ggL_law_X13_thing
set_option maxRecDepth 20000 in
theorem ggL_law_X11_gold : GoodIn wsL_law wsX11_gold := goodIn_r _ [268, 19, 269, 270, 271, 18, 272, 273, 274, 275, 195, 196, 197, 198, 199, 200, 201, 202, 203, 204, 205, 39, 41, 276, 277, 278, 279, 280, 281, 282, 283, 284, 285, 286, 287, 288, 289, 290, 291, 214, 215, 216, 217, 11, 12, 218, 219, 220, 221, 222, 223, 224, 225, 46, 226, 74, 227, 228, 229, 15, 230, 231, 232, 233, 234, 235, 236, 237, 26, 238, 239, 240, 241, 292, 293, 294, 295, 296, 114, 115, 116, 2, 117, 118, 1152, 1153, 1154, 1155, 1202, 1203, 1204, 1163, 1164, 1165, 1166, 1167, 1168, 1169, 1170, 1171, 1205, 1206, 1207, 1208, 1209, 1210, 1162] (by decide +kernel) (by decide +kernel)
set_option maxRecDepth 20000 in
theorem gL_law_X11_gold : GoodIn wsL_law (wsV RL 28 RX11 yX11_gold wsX11_gold) := goodIn_app (goodIn_of _ (by decide +kernel)) ggL_law_X11_gold
set_option maxRecDepth 20000 in
theorem ggL_law_X13_gold : GoodIn wsL_law wsX13_gold := goodIn_r _ [300, 246, 247, 248, 5, 249, 250, 251, 252, 154, 155, 156, 157, 54, 128, 129, 130, 131, 132, 133, 301, 302, 303, 304, 257, 258, 259, 260, 261, 262, 263, 264, 124, 125, 126, 127, 305, 306, 307, 308, 309, 310, 1156, 1157, 1158, 1159, 1160, 1161, 1172, 1173, 1174, 1175] (by decide +kernel) (by decide +kernel)
set_option maxRecDepth 20000 in
theorem gL_law_X13_gold : GoodIn wsL_law (wsV RL 32 RX13 yX13_gold wsX13_gold) := goodIn_app (goodIn_of _ (by decide +kernel)) ggL_law_X13_gold
set_option maxRecDepth 20000 in
theorem ggL_law_X11_coat : GoodIn wsL_law wsX11_coat := goodIn_r _ [314, 19, 315, 316, 317, 18, 318, 319, 320, 321, 74, 195, 196, 197, 198, 199, 200, 201, 202, 203, 204, 205, 39, 41, 206, 207, 208, 209, 322, 323, 324, 325, 326, 327, 214, 215, 216, 217, 11, 12, 218, 219, 220, 221, 222, 223, 224, 225, 46, 226, 227, 228, 229, 15, 230, 231, 232, 233, 234, 235, 236, 237, 26, 238, 239, 240, 241, 114, 115, 116, 2, 117, 118, 1152, 1153, 1154, 1155, 1211, 1212, 1213, 1163, 1164, 1165, 1166, 1167, 1168, 1169, 1170, 1171, 1162] (by decide +kernel) (by decide +kernel)
set_option maxRecDepth 20000 in
theorem gL_law_X11_coat : GoodIn wsL_law (wsV RL 33 RX11 yX11_coat wsX11_coat) := goodIn_app (goodIn_of _ (by decide +kernel)) ggL_law_X11_coat
set_option maxRecDepth 20000 in
theorem ggL_law_X13_coat : GoodIn wsL_law wsX13_coat := goodIn_r _ [331, 246, 247, 248, 5, 249, 250, 251, 252, 154, 155, 156, 157, 54, 128, 129, 130, 131, 132, 133, 253, 254, 255, 256, 257, 258, 259, 260, 261, 262, 263, 264, 124, 125, 126, 127, 1156, 1157, 1158, 1159, 1160, 1161, 1172, 1173, 1174, 1175] (by decide +kernel) (by decide +kernel)
set_option maxRecDepth 20000 in
theorem gL_law_X13_coat : GoodIn wsL_law (wsV RL 37 RX13 yX13_coat wsX13_coat) := goodIn_app (goodIn_of _ (by decide +kernel)) ggL_law_X13_coat
set_option maxRecDepth 20000 in
theorem ggL_law_X11_rare : GoodIn wsL_law wsX11_rare := goodIn_r _ [335, 19, 336, 337, 338, 18, 339, 340, 341, 342, 195, 196, 197, 198, 199, 200, 201, 202, 203, 204, 205, 39, 41, 276, 277, 278, 279, 280, 343, 344, 345, 346, 347, 348, 349, 350, 286, 287, 288, 289, 290, 291, 214, 215, 216, 217, 11, 12, 218, 219, 220, 221, 222, 223, 224, 225, 46, 226, 74, 227, 228, 229, 15, 230, 231, 232, 233, 234, 235, 236, 237, 26, 238, 239, 240, 241, 351, 352, 353, 295, 296, 114, 115, 116, 2, 117, 118, 1152, 1153, 1154, 1155, 1205, 1206, 1207, 1208, 1209, 1210, 1163, 1164, 1165, 1166, 1167, 1168, 1169, 1170, 1171, 1202, 1203, 1204, 1162] (by decide +kernel) (by decide +kernel)
set_option maxRecDepth 20000 in
theorem gL_law_X11_rare : GoodIn wsL_law (wsV RL 38 RX11 yX11_rare wsX11_rare) := goodIn_app (goodIn_of _ (by decide +kernel)) ggL_law_X11_rare
set_option maxRecDepth 20000 in
theorem ggL_law_X13_rare : GoodIn wsL_law wsX13_rare := goodIn_r _ [357, 246, 247, 248, 5, 249, 250, 251, 252, 154, 155, 156, 157, 54, 128, 129, 130, 131, 132, 133, 301, 302, 303, 304, 257, 258, 259, 260, 261, 262, 263, 264, 124, 125, 126, 127, 305, 306, 307, 308, 309, 310, 1156, 1157, 1158, 1159, 1160, 1161, 1172, 1173, 1174, 1175] (by decide +kernel) (by decide +kernel)
set_option maxRecDepth 20000 in
theorem gL_law_X13_rare : GoodIn wsL_law (wsV RL 42 RX13 yX13_rare wsX13_rare) := goodIn_app (goodIn_of _ (by decide +kernel)) ggL_law_X13_rare
set_option maxRecDepth 20000 in
theorem ggL_law_X11_second : GoodIn wsL_law wsX11_second := goodIn_r _ [361, 19, 362, 363, 364, 18, 365, 43, 39, 366, 199, 200, 201, 206, 207, 208, 209, 367, 368, 369, 342, 370, 371, 341, 346, 347, 348, 372, 344, 345, 349, 350, 286, 278, 287, 288, 289, 290, 291, 214, 215, 216, 217, 11, 12, 373, 374, 375, 376, 114, 115, 116, 2, 117, 118, 1152, 1153, 1154, 1155, 1163, 1164, 1165, 1166, 1167, 1168, 1169, 1170, 1171, 1205, 1206, 1207, 1208, 1209, 1210, 1202, 1203, 1204] (by decide +kernel) (by decide +kernel)
set_option maxRecDepth 20000 in
theorem gL_law_X11_second : GoodIn wsL_law (wsV RL 43 RX11 yX11_second wsX11_second) := goodIn_app (goodIn_of _ (by decide +kernel)) ggL_law_X11_second
set_option maxRecDepth 20000 in
theorem ggL_law_X13_second : GoodIn wsL_law wsX13_second := goodIn_r _ [380, 250, 251, 5, 252, 128, 129, 130, 131, 132, 133, 154, 155, 156, 157, 54, 253, 254, 255, 256, 261, 262, 263, 264, 1156, 1157, 1158, 1159, 1160, 1161, 1172, 1173, 1174, 1175] (by decide +kernel) (by decide +kernel)
set_option maxRecDepth 20000 in
theorem gL_law_X13_second : GoodIn wsL_law (wsV RL 46 RX13 yX13_second wsX13_second) := goodIn_app (goodIn_of _ (by decide +kernel)) ggL_law_X13_second
set_option maxRecDepth 20000 in
theorem ggL_law_X11_item : GoodIn wsL_law wsX11_item := goodIn_r _ [384, 19, 385, 386, 387, 18, 388, 43, 39, 389, 199, 200, 201, 202, 203, 204, 205, 41, 390, 391, 392, 393, 206, 207, 208, 209, 394, 395, 396, 397, 398, 399, 42, 400, 401, 402, 403, 404, 214, 215, 216, 217, 11, 12, 405, 406, 407, 408, 409, 32, 33, 34, 35, 410, 218, 219, 220, 221, 222, 223, 224, 225, 46, 226, 74, 227, 228, 229, 15, 230, 231, 232, 233, 234, 235, 236, 237, 26, 238, 239, 240, 241, 411, 412, 413, 414, 415, 416, 417, 418, 114, 115, 116, 2, 117, 118, 1152, 1153, 1154, 1155, 1163, 1164, 1165, 1166, 1167, 1168, 1169, 1170, 1171, 1214, 1215, 1162] (by decide +kernel) (by decide +kernel)
set_option maxRecDepth 20000 in
theorem gL_law_X11_item : GoodIn wsL_law (wsV RL 47 RX11 yX11_item wsX11_item) := goodIn_app (goodIn_of _ (by decide +kernel)) ggL_law_X11_item
set_option maxRecDepth 20000 in
theorem ggL_law_X13_item : GoodIn wsL_law wsX13_item := goodIn_r _ [422, 250, 251, 5, 252, 128, 129, 130, 131, 132, 133, 154, 155, 156, 157, 54, 253, 254, 255, 256, 257, 258, 259, 260, 261, 262, 263, 264, 124, 125, 126, 127, 1156, 1157, 1158, 1159, 1160, 1161, 1172, 1173, 1174, 1175] (by decide +kernel) (by decide +kernel)
set_option maxRecDepth 20000 in
theorem gL_law_X13_item : GoodIn wsL_law (wsV RL 50 RX13 yX13_item wsX13_item) := goodIn_app (goodIn_of _ (by decide +kernel)) ggL_law_X13_item
set_option maxRecDepth 20000 in
theorem ggL_law_X11_box : GoodIn wsL_law wsX11_box := goodIn_r _ [426, 19, 427, 428, 429, 18, 430, 39, 41, 199, 200, 201, 114, 115, 116, 2, 117, 118, 1152, 1153, 1154, 1155, 1163, 1164, 1165, 1166, 1167, 1168, 1169, 1170, 1171] (by decide +kernel) (by decide +kernel)
set_option maxRecDepth 20000 in
theorem gL_law_X11_box : GoodIn wsL_law (wsV RL 51 RX11 yX11_box wsX11_box) := goodIn_app (goodIn_of _ (by decide +kernel)) ggL_law_X11_box
set_option maxRecDepth 20000 in
theorem ggL_law_X13_box : GoodIn wsL_law wsX13_box := goodIn_r _ [434, 250, 251, 5, 252, 128, 129, 130, 131, 132, 133, 154, 155, 156, 157, 54, 257, 258, 259, 260, 261, 262, 263, 264, 124, 125, 126, 127, 435, 436, 437, 438, 1156, 1157, 1158, 1159, 1160, 1161, 1172, 1173, 1174, 1175] (by decide +kernel) (by decide +kernel)
set_option maxRecDepth 20000 in
theorem gL_law_X13_box : GoodIn wsL_law (wsV RL 54 RX13 yX13_box wsX13_box) := goodIn_app (goodIn_of _ (by decide +kernel)) ggL_law_X13_box
set_option maxRecDepth 20000 in
theorem ggL_law_X11_away : GoodIn wsL_law wsX11_away := goodIn_r _ [442, 19, 443, 444, 445, 18, 446, 39, 447, 448, 449, 450, 43, 199, 200, 201, 222, 223, 224, 225, 46, 226, 74, 227, 228, 229, 15, 230, 231, 232, 233, 234, 235, 236, 237, 26, 238, 239, 240, 241, 114, 115, 116, 2, 117, 118, 1152, 1153, 1154, 1155, 1163, 1164, 1165, 1166, 1167, 1168, 1169, 1170, 1171, 1162] (by decide +kernel) (by decide +kernel)
set_option maxRecDepth 20000 in
theorem gL_law_X11_away : GoodIn wsL_law (wsV RL 55 RX11 yX11_away wsX11_away) := goodIn_app (goodIn_of _ (by decide +kernel)) ggL_law_X11_away
set_option maxRecDepth 20000 in
theorem ggL_law_X13_away : GoodIn wsL_law wsX13_away := goodIn_r _ [454, 250, 251, 5, 252, 128, 129, 130, 131, 132, 133, 150, 151, 152, 153, 154, 155, 156, 157, 54, 435, 436, 437, 438, 257, 258, 259, 260, 261, 262, 263, 264, 124, 125, 126, 127, 1156, 1157, 1158, 1159, 1160, 1161, 1172, 1173, 1174, 1175] (by decide +kernel) (by decide +kernel)
set_option maxRecDepth 20000 in
theorem gL_law_X13_away : GoodIn wsL_law (wsV RL 58 RX13 yX13_away wsX13_away) := goodIn_app (goodIn_of _ (by decide +kernel)) ggL_law_X13_away
set_option maxRecDepth 20000 in
theorem ggL_law_X11_lend : GoodIn wsL_law wsX11_lend := goodIn_r _ [458, 19, 459, 460, 461, 18, 462, 39, 76, 463, 43, 464, 447, 448, 449, 450, 199, 200, 201, 465, 466, 467, 468, 469, 470, 471, 321, 472, 473, 474, 275, 475, 476, 477, 396, 478, 479, 480, 342, 481, 482, 483, 194, 484, 485, 486, 487, 488, 74, 37, 489, 490, 491, 492, 493, 494, 326, 327, 325, 495, 496, 497, 284, 498, 499, 293, 294, 295, 278, 296, 289, 500, 501, 502, 403, 503, 504, 505, 347, 348, 349, 506, 232, 233, 234, 507, 508, 509, 213, 510, 511, 512, 513, 514, 515, 516, 517, 518, 44, 519, 90, 45, 520, 78, 521, 77, 522, 523, 524, 11, 12, 525, 526, 96, 527, 528, 529, 530, 531, 532, 533, 534, 535, 536, 537, 538, 539, 540, 541, 542, 543, 544, 98, 545, 109, 100, 99, 546, 93, 94, 95, 97, 101, 102, 103, 104, 105, 106, 107, 108, 110, 2, 111, 112, 113, 222, 223, 224, 225, 46, 226, 227, 228, 229, 15, 230, 231, 235, 236, 237, 26, 238, 239, 240, 241, 547, 548, 549, 550, 551, 552, 553, 554, 555, 114, 115, 116, 117, 118, 1152, 1153, 1154, 1155, 1163, 1164, 1165, 1166, 1167, 1168, 1169, 1170, 1171, 1176, 1177, 1178, 1179, 1180, 1181, 1182, 1183, 1184, 1185, 1186, 1187, 1188, 1189, 1190, 1191, 1192, 1193, 1194, 1211, 1212, 1213, 1202, 1203, 1204, 1205, 1206, 1207, 1208, 1209, 1210, 1214, 1215, 1201, 1195, 1196, 1197, 1198, 1199, 1200, 1162] (by decide +kernel) (by decide +kernel)
set_option maxRecDepth 20000 in
theorem gL_law_X11_lend : GoodIn wsL_law (wsV RL 59 RX11 yX11_lend wsX11_lend) := goodIn_app (goodIn_of _ (by decide +kernel)) ggL_law_X11_lend
set_option maxRecDepth 20000 in
theorem ggL_law_X13_lend : GoodIn wsL_law wsX13_lend := goodIn_r _ [559, 162, 54, 560, 561, 250, 251, 5, 252, 128, 129, 130, 131, 132, 133, 150, 151, 152, 153, 154, 155, 156, 157, 562, 563, 564, 565, 566, 567, 232, 233, 234, 568, 569, 570, 571, 124, 125, 126, 127, 163, 164, 165, 166, 261, 262, 263, 264, 142, 143, 144, 145, 158, 159, 160, 161, 167, 168, 169, 1156, 1157, 1158, 1159, 1160, 1161, 1172, 1173, 1174, 1175] (by decide +kernel) (by decide +kernel)
set_option maxRecDepth 20000 in
theorem gL_law_X13_lend : GoodIn wsL_law (wsV RL 62 RX13 yX13_lend wsX13_lend) := goodIn_app (goodIn_of _ (by decide +kernel)) ggL_law_X13_lend
set_option maxRecDepth 20000 in
theorem ggL_law_X11_tear : GoodIn wsL_law wsX11_tear := goodIn_r _ [575, 19, 576, 84, 85, 18, 86, 76, 45, 577, 578, 579, 580, 581, 582, 583, 90, 584, 585, 586, 587, 588, 589, 590, 591, 592, 593, 114, 115, 116, 2, 117, 118, 1152, 1153, 1154, 1155, 1163, 1164, 1165, 1166, 1167, 1168, 1169, 1170, 1171, 1176, 1177, 1178, 1179, 1180, 1181, 1182, 1183, 1184, 1185, 1186, 1187, 1188, 1189, 1190, 1191, 1192, 1193, 1194] (by decide +kernel) (by decide +kernel)
set_option maxRecDepth 20000 in
theorem gL_law_X11_tear : GoodIn wsL_law (wsV RL 63 RX11 yX11_tear wsX11_tear) := goodIn_app (goodIn_of _ (by decide +kernel)) ggL_law_X11_tear
set_option maxRecDepth 20000 in
theorem ggL_law_X13_tear : GoodIn wsL_law wsX13_tear := goodIn_r _ [597, 598, 599, 600, 5, 601, 54, 128, 129, 130, 131, 132, 133, 142, 143, 144, 145, 163, 164, 165, 166, 1156, 1157, 1158, 1159, 1160, 1161, 1172, 1173, 1174, 1175] (by decide +kernel) (by decide +kernel)
set_option maxRecDepth 20000 in
theorem gL_law_X13_tear : GoodIn wsL_law (wsV RL 66 RX13 yX13_tear wsX13_tear) := goodIn_app (goodIn_of _ (by decide +kernel)) ggL_law_X13_tear
set_option maxRecDepth 20000 in
theorem ggL_law_X11_oath : GoodIn wsL_law wsX11_oath := goodIn_r _ [605, 19, 576, 84, 85, 18, 86, 76, 45, 606, 607, 608, 609, 74, 610, 87, 88, 89, 90, 91, 92, 114, 115, 116, 2, 117, 118, 1152, 1153, 1154, 1155, 1163, 1164, 1165, 1166, 1167, 1168, 1169, 1170, 1171, 1176, 1177, 1178, 1179, 1180, 1181, 1182, 1183, 1184, 1185, 1186, 1187, 1188, 1189, 1190, 1191, 1192, 1193, 1194] (by decide +kernel) (by decide +kernel)
set_option maxRecDepth 20000 in
theorem gL_law_X11_oath : GoodIn wsL_law (wsV RL 67 RX11 yX11_oath wsX11_oath) := goodIn_app (goodIn_of _ (by decide +kernel)) ggL_law_X11_oath
set_option maxRecDepth 20000 in
theorem ggL_law_X13_oath : GoodIn wsL_law wsX13_oath := goodIn_r _ [614, 598, 599, 600, 5, 601, 54, 128, 129, 130, 131, 132, 133, 146, 147, 148, 149, 142, 143, 144, 145, 124, 125, 126, 127, 163, 164, 165, 166, 1156, 1157, 1158, 1159, 1160, 1161, 1172, 1173, 1174, 1175] (by decide +kernel) (by decide +kernel)
set_option maxRecDepth 20000 in
theorem gL_law_X13_oath : GoodIn wsL_law (wsV RL 70 RX13 yX13_oath wsX13_oath) := goodIn_app (goodIn_of _ (by decide +kernel)) ggL_law_X13_oath
set_option maxRecDepth 20000 in
theorem ggL_law_X11_pay : GoodIn wsL_law wsX11_pay := goodIn_r _ [618, 19, 576, 84, 85, 18, 86, 76, 45, 619, 620, 621, 622, 74, 77, 623, 624, 232, 233, 234, 78, 625, 626, 627, 628, 90, 629, 630, 631, 88, 89, 91, 92, 632, 633, 634, 635, 530, 636, 637, 638, 582, 583, 584, 585, 639, 640, 641, 642, 643, 527, 644, 222, 223, 224, 225, 46, 226, 227, 228, 229, 15, 230, 231, 235, 236, 237, 26, 238, 239, 240, 241, 547, 548, 549, 550, 551, 552, 553, 554, 555, 106, 107, 96, 108, 109, 110, 2, 111, 112, 113, 645, 646, 647, 648, 114, 115, 116, 117, 118, 1152, 1153, 1154, 1155, 1163, 1164, 1165, 1166, 1167, 1168, 1169, 1170, 1171, 1176, 1177, 1178, 1179, 1180, 1181, 1182, 1183, 1184, 1185, 1186, 1187, 1188, 1189, 1190, 1191, 1192, 1193, 1194, 1195, 1196, 1197, 1198, 1199, 1200, 1162] (by decide +kernel) (by decide +kernel)
set_option maxRecDepth 20000 in
theorem gL_law_X11_pay : GoodIn wsL_law (wsV RL 71 RX11 yX11_pay wsX11_pay) := goodIn_app (goodIn_of _ (by decide +kernel)) ggL_law_X11_pay
set_option maxRecDepth 20000 in
theorem ggL_law_X13_pay : GoodIn wsL_law wsX13_pay := goodIn_r _ [652, 567, 232, 233, 234, 54, 598, 599, 600, 5, 601, 128, 129, 130, 131, 132, 133, 653, 654, 655, 656, 146, 147, 148, 149, 142, 143, 144, 145, 657, 658, 659, 660, 124, 125, 126, 127, 661, 662, 663, 664, 163, 164, 165, 166, 665, 666, 667, 668, 1156, 1157, 1158, 1159, 1160, 1161, 1172, 1173, 1174, 1175] (by decide +kernel) (by decide +kernel)
set_option maxRecDepth 20000 in
theorem gL_law_X13_pay : GoodIn wsL_law (wsV RL 74 RX13 yX13_pay wsX13_pay) := goodIn_app (goodIn_of _ (by decide +kernel)) ggL_law_X13_pay
set_option maxRecDepth 20000 in
theorem ggL_law_X11_renew : GoodIn wsL_law wsX11_renew := goodIn_r _ [672, 19, 576, 84, 85, 18, 86, 76, 45, 673, 674, 675, 676, 77, 623, 677, 520, 74, 625, 678, 679, 680, 681, 626, 627, 628, 90, 629, 630, 631, 88, 89, 91, 92, 682, 683, 684, 685, 531, 632, 633, 634, 635, 530, 636, 637, 638, 582, 583, 584, 585, 465, 466, 467, 222, 223, 224, 225, 46, 226, 227, 228, 229, 15, 230, 231, 232, 233, 234, 235, 236, 237, 26, 238, 239, 240, 241, 547, 548, 549, 550, 551, 552, 553, 554, 555, 106, 107, 96, 108, 109, 110, 2, 111, 112, 113, 686, 687, 688, 689, 98, 545, 100, 99, 546, 690, 691, 692, 693, 537, 538, 539, 540, 37, 541, 542, 543, 544, 645, 646, 647, 648, 114, 115, 116, 117, 118, 1152, 1153, 1154, 1155, 1163, 1164, 1165, 1166, 1167, 1168, 1169, 1170, 1171, 1176, 1177, 1178, 1179, 1180, 1181, 1182, 1183, 1184, 1185, 1186, 1187, 1188, 1189, 1190, 1191, 1192, 1193, 1194, 1195, 1196, 1197, 1198, 1199, 1200, 1162] (by decide +kernel) (by decide +kernel)
set_option maxRecDepth 20000 in
theorem gL_law_X11_renew : GoodIn wsL_law (wsV RL 75 RX11 yX11_renew wsX11_renew) := goodIn_app (goodIn_of _ (by decide +kernel)) ggL_law_X11_renew
set_option maxRecDepth 20000 in
theorem ggL_law_X13_renew : GoodIn wsL_law wsX13_renew := goodIn_r _ [697, 54, 598, 599, 600, 5, 601, 128, 129, 130, 131, 132, 133, 653, 654, 655, 656, 146, 147, 148, 149, 142, 143, 144, 145, 698, 699, 700, 701, 657, 658, 659, 660, 124, 125, 126, 127, 163, 164, 165, 166, 568, 569, 570, 571, 665, 666, 667, 668, 1156, 1157, 1158, 1159, 1160, 1161, 1172, 1173, 1174, 1175] (by decide +kernel) (by decide +kernel)
set_option maxRecDepth 20000 in
theorem gL_law_X13_renew : GoodIn wsL_law (wsV RL 78 RX13 yX13_renew wsX13_renew) := goodIn_app (goodIn_of _ (by decide +kernel)) ggL_law_X13_renew
set_option maxRecDepth 20000 in
theorem ggL_law_X11_undo : GoodIn wsL_law wsX11_undo := goodIn_r _ [705, 19, 576, 84, 85, 18, 86, 76, 45, 706, 707, 708, 709, 625, 74, 77, 677, 623, 87, 88, 89, 90, 91, 92, 222, 223, 224, 225, 46, 226, 227, 228, 229, 15, 230, 231, 232, 233, 234, 235, 236, 237, 26, 238, 239, 240, 241, 547, 548, 549, 550, 551, 552, 553, 554, 555, 106, 107, 96, 108, 109, 110, 2, 111, 112, 113, 686, 687, 688, 689, 98, 545, 100, 99, 546, 114, 115, 116, 117, 118, 1152, 1153, 1154, 1155, 1163, 1164, 1165, 1166, 1167, 1168, 1169, 1170, 1171, 1176, 1177, 1178, 1179, 1180, 1181, 1182, 1183, 1184, 1185, 1186, 1187, 1188, 1189, 1190, 1191, 1192, 1193, 1194, 1195, 1196, 1197, 1198, 1199, 1200, 1162] (by decide +kernel) (by decide +kernel)
set_option maxRecDepth 20000 in
theorem gL_law_X11_undo : GoodIn wsL_law (wsV RL 79 RX11 yX11_undo wsX11_undo) := goodIn_app (goodIn_of _ (by decide +kernel)) ggL_law_X11_undo
set_option maxRecDepth 20000 in
theorem ggL_law_X13_undo : GoodIn wsL_law wsX13_undo := goodIn_r _ [713, 54, 598, 599, 600, 5, 601, 128, 129, 130, 131, 132, 133, 146, 147, 148, 149, 142, 143, 144, 145, 124, 125, 126, 127, 163, 164, 165, 166, 1156, 1157, 1158, 1159, 1160, 1161, 1172, 1173, 1174, 1175] (by decide +kernel) (by decide +kernel)
set_option maxRecDepth 20000 in
theorem gL_law_X13_undo : GoodIn wsL_law (wsV RL 82 RX13 yX13_undo wsX13_undo) := goodIn_app (goodIn_of _ (by decide +kernel)) ggL_law_X13_undo
set_option maxRecDepth 20000 in
theorem ggL_law_X11_redeem : GoodIn wsL_law wsX11_redeem := goodIn_r _ [717, 19, 576, 84, 85, 18, 86, 76, 45, 718, 719, 720, 721, 77, 623, 78, 678, 679, 680, 681, 74, 626, 627, 628, 90, 629, 630, 631, 88, 89, 91, 92, 682, 683, 684, 685, 531, 632, 633, 634, 635, 530, 636, 637, 638, 582, 583, 584, 585, 639, 640, 641, 642, 643, 527, 644, 645, 646, 647, 648, 722, 723, 724, 725, 726, 463, 39, 43, 222, 223, 224, 225, 46, 226, 227, 228, 229, 15, 230, 231, 232, 233, 234, 235, 236, 237, 26, 238, 239, 240, 241, 547, 548, 549, 550, 551, 552, 553, 554, 555, 106, 107, 96, 108, 109, 110, 2, 111, 112, 113, 199, 200, 201, 114, 115, 116, 117, 118, 1152, 1153, 1154, 1155, 1163, 1164, 1165, 1166, 1167, 1168, 1169, 1170, 1171, 1176, 1177, 1178, 1179, 1180, 1181, 1182, 1183, 1184, 1185, 1186, 1187, 1188, 1189, 1190, 1191, 1192, 1193, 1194, 1195, 1196, 1197, 1198, 1199, 1200, 1162] (by decide +kernel) (by decide +kernel)
set_option maxRecDepth 20000 in
theorem gL_law_X11_redeem : GoodIn wsL_law (wsV RL 83 RX11 yX11_redeem wsX11_redeem) := goodIn_app (goodIn_of _ (by decide +kernel)) ggL_law_X11_redeem
set_option maxRecDepth 20000 in
theorem ggL_law_X13_redeem : GoodIn wsL_law wsX13_redeem := goodIn_r _ [730, 54, 598, 599, 600, 5, 601, 128, 129, 130, 131, 132, 133, 653, 654, 655, 656, 146, 147, 148, 149, 142, 143, 144, 145, 698, 699, 700, 701, 657, 658, 659, 660, 124, 125, 126, 127, 661, 662, 663, 664, 665, 666, 667, 668, 163, 164, 165, 166, 731, 732, 733, 734, 435, 436, 437, 438, 257, 258, 259, 260, 261, 262, 263, 264, 1156, 1157, 1158, 1159, 1160, 1161, 1172, 1173, 1174, 1175] (by decide +kernel) (by decide +kernel)
set_option maxRecDepth 20000 in
theorem gL_law_X13_redeem : GoodIn wsL_law (wsV RL 86 RX13 yX13_redeem wsX13_redeem) := goodIn_app (goodIn_of _ (by decide +kernel)) ggL_law_X13_redeem
set_option maxRecDepth 20000 in
theorem ggL_law_X11_out : GoodIn wsL_law wsX11_out := goodIn_r _ [738, 19, 576, 84, 85, 18, 86, 76, 45, 739, 740, 741, 742, 39, 463, 625, 743, 744, 745, 746, 389, 626, 627, 628, 90, 629, 630, 631, 88, 89, 91, 92, 199, 200, 201, 747, 748, 749, 396, 750, 403, 678, 679, 680, 681, 74, 682, 683, 684, 685, 531, 632, 633, 634, 635, 530, 636, 637, 638, 582, 583, 584, 585, 751, 752, 753, 754, 409, 32, 33, 34, 35, 410, 398, 399, 404, 400, 401, 402, 214, 215, 216, 217, 11, 12, 485, 486, 487, 488, 37, 489, 490, 491, 492, 321, 493, 494, 326, 327, 325, 495, 496, 275, 497, 284, 498, 499, 293, 294, 295, 278, 296, 289, 500, 501, 502, 503, 504, 342, 505, 347, 348, 349, 506, 232, 233, 234, 507, 508, 194, 509, 213, 755, 756, 757, 758, 639, 640, 641, 642, 643, 527, 644, 510, 511, 512, 513, 514, 645, 646, 647, 648, 114, 115, 116, 2, 117, 118, 1152, 1153, 1154, 1155, 1163, 1164, 1165, 1166, 1167, 1168, 1169, 1170, 1171, 1176, 1177, 1178, 1179, 1180, 1181, 1182, 1183, 1184, 1185, 1186, 1187, 1188, 1189, 1190, 1191, 1192, 1193, 1194, 1214, 1215, 1211, 1212, 1213, 1202, 1203, 1204, 1205, 1206, 1207, 1208, 1209, 1210, 1201, 1195, 1196, 1197, 1198, 1199, 1200] (by decide +kernel) (by decide +kernel)
set_option maxRecDepth 20000 in
theorem gL_law_X11_out : GoodIn wsL_law (wsV RL 87 RX11 yX11_out wsX11_out) := goodIn_app (goodIn_of _ (by decide +kernel)) ggL_law_X11_out
set_option maxRecDepth 20000 in
theorem ggL_law_X13_out : GoodIn wsL_law wsX13_out := goodIn_r _ [762, 162, 598, 599, 600, 5, 601, 54, 128, 129, 130, 131, 132, 133, 142, 143, 144, 145, 653, 654, 655, 656, 146, 147, 148, 149, 154, 155, 156, 157, 698, 699, 700, 701, 657, 658, 659, 660, 124, 125, 126, 127, 562, 563, 564, 565, 566, 567, 232, 233, 234, 568, 569, 570, 571, 763, 764, 765, 766, 661, 662, 663, 664, 261, 262, 263, 264, 163, 164, 165, 166, 665, 666, 667, 668, 1156, 1157, 1158, 1159, 1160, 1161, 1172, 1173, 1174, 1175] (by decide +kernel) (by decide +kernel)
set_option maxRecDepth 20000 in
theorem gL_law_X13_out : GoodIn wsL_law (wsV RL 90 RX13 yX13_out wsX13_out) := goodIn_app (goodIn_of _ (by decide +kernel)) ggL_law_X13_out
set_option maxRecDepth 20000 in
theorem ggL_law_X11_forfeit : GoodIn wsL_law wsX11_forfeit := goodIn_r _ [770, 19, 576, 84, 85, 18, 86, 76, 45, 771, 772, 773, 774, 74, 37, 775, 626, 627, 628, 90, 629, 630, 631, 88, 89, 91, 92, 682, 683, 684, 685, 531, 776, 777, 778, 779, 527, 780, 781, 782, 96, 783, 98, 545, 784, 785, 786, 787, 788, 789, 790, 791, 792, 793, 794, 236, 233, 237, 795, 639, 640, 641, 642, 643, 644, 114, 115, 116, 2, 117, 118, 1152, 1153, 1154, 1155, 1163, 1164, 1165, 1166, 1167, 1168, 1169, 1170, 1171, 1176, 1177, 1178, 1179, 1180, 1181, 1182, 1183, 1184, 1185, 1186, 1187, 1188, 1189, 1190, 1191, 1192, 1193, 1194, 1195, 1196, 1197, 1198, 1199, 1200] (by decide +kernel) (by decide +kernel)
set_option maxRecDepth 20000 in
theorem gL_law_X11_forfeit : GoodIn wsL_law (wsV RL 91 RX11 yX11_forfeit wsX11_forfeit) := goodIn_app (goodIn_of _ (by decide +kernel)) ggL_law_X11_forfeit
set_option maxRecDepth 20000 in
theorem ggL_law_X13_forfeit : GoodIn wsL_law wsX13_forfeit := goodIn_r _ [799, 598, 599, 600, 5, 601, 54, 128, 129, 130, 131, 132, 133, 653, 654, 655, 656, 146, 147, 148, 149, 142, 143, 144, 145, 698, 699, 700, 701, 124, 125, 126, 127, 800, 801, 802, 803, 804, 805, 806, 807, 568, 569, 570, 571, 808, 809, 810, 811, 812, 236, 233, 237, 163, 164, 165, 166, 661, 662, 663, 664, 1156, 1157, 1158, 1159, 1160, 1161, 1172, 1173, 1174, 1175] (by decide +kernel) (by decide +kernel)
set_option maxRecDepth 20000 in
theorem gL_law_X13_forfeit : GoodIn wsL_law (wsV RL 94 RX13 yX13_forfeit wsX13_forfeit) := goodIn_app (goodIn_of _ (by decide +kernel)) ggL_law_X13_forfeit
set_option maxRecDepth 20000 in
theorem ggL_law_X11_bid : GoodIn wsL_law wsX11_bid := goodIn_r _ [816, 19, 576, 84, 85, 18, 86, 76, 45, 817, 818, 819, 820, 821, 822, 823, 824, 236, 233, 237, 825, 826, 827, 90, 828, 630, 631, 88, 89, 91, 92, 114, 115, 116, 2, 117, 118, 1152, 1153, 1154, 1155, 1163, 1164, 1165, 1166, 1167, 1168, 1169, 1170, 1171, 1176, 1177, 1178, 1179, 1180, 1181, 1182, 1183, 1184, 1185, 1186, 1187, 1188, 1189, 1190, 1191, 1192, 1193, 1194] (by decide +kernel) (by decide +kernel)
set_option maxRecDepth 20000 in
theorem gL_law_X11_bid : GoodIn wsL_law (wsV RL 95 RX11 yX11_bid wsX11_bid) := goodIn_app (goodIn_of _ (by decide +kernel)) ggL_law_X11_bid
set_option maxRecDepth 20000 in
theorem ggL_law_X13_bid : GoodIn wsL_law wsX13_bid := goodIn_r _ [832, 833, 812, 236, 233, 237, 598, 599, 600, 5, 601, 54, 128, 129, 130, 131, 132, 133, 834, 835, 836, 837, 146, 147, 148, 149, 142, 143, 144, 145, 163, 164, 165, 166, 1156, 1157, 1158, 1159, 1160, 1161, 1172, 1173, 1174, 1175] (by decide +kernel) (by decide +kernel)
set_option maxRecDepth 20000 in
theorem gL_law_X13_bid : GoodIn wsL_law (wsV RL 98 RX13 yX13_bid wsX13_bid) := goodIn_app (goodIn_of _ (by decide +kernel)) ggL_law_X13_bid
set_option maxRecDepth 20000 in
theorem ggL_law_X11_sale : GoodIn wsL_law wsX11_sale := goodIn_r _ [841, 19, 576, 84, 85, 18, 86, 76, 45, 842, 843, 844, 845, 822, 823, 37, 77, 623, 624, 232, 233, 234, 78, 846, 74, 847, 848, 825, 826, 827, 90, 828, 630, 631, 88, 89, 91, 92, 682, 683, 684, 685, 531, 110, 2, 111, 112, 113, 722, 723, 724, 725, 726, 463, 39, 43, 222, 223, 224, 225, 46, 226, 227, 228, 229, 15, 230, 231, 235, 236, 237, 26, 238, 239, 240, 241, 547, 548, 549, 550, 551, 552, 553, 554, 555, 106, 107, 96, 108, 109, 199, 200, 201, 639, 640, 641, 642, 643, 527, 644, 114, 115, 116, 117, 118, 1152, 1153, 1154, 1155, 1163, 1164, 1165, 1166, 1167, 1168, 1169, 1170, 1171, 1176, 1177, 1178, 1179, 1180, 1181, 1182, 1183, 1184, 1185, 1186, 1187, 1188, 1189, 1190, 1191, 1192, 1193, 1194, 1195, 1196, 1197, 1198, 1199, 1200, 1162] (by decide +kernel) (by decide +kernel)
set_option maxRecDepth 20000 in
theorem gL_law_X11_sale : GoodIn wsL_law (wsV RL 99 RX11 yX11_sale wsX11_sale) := goodIn_app (goodIn_of _ (by decide +kernel)) ggL_law_X11_sale
set_option maxRecDepth 20000 in
theorem ggL_law_X13_sale : GoodIn wsL_law wsX13_sale := goodIn_r _ [852, 162, 567, 232, 233, 234, 54, 598, 599, 600, 5, 601, 128, 129, 130, 131, 132, 133, 834, 835, 836, 837, 146, 147, 148, 149, 142, 143, 144, 145, 698, 699, 700, 701, 568, 569, 570, 571, 167, 168, 169, 661, 662, 663, 664, 163, 164, 165, 166, 124, 125, 126, 127, 731, 732, 733, 734, 435, 436, 437, 438, 257, 258, 259, 260, 261, 262, 263, 264, 1156, 1157, 1158, 1159, 1160, 1161, 1172, 1173, 1174, 1175] (by decide +kernel) (by decide +kernel)
set_option maxRecDepth 20000 in
theorem gL_law_X13_sale : GoodIn wsL_law (wsV RL 102 RX13 yX13_sale wsX13_sale) := goodIn_app (goodIn_of _ (by decide +kernel)) ggL_law_X13_sale
set_option maxRecDepth 20000 in
theorem ggL_law_X11_fetch : GoodIn wsL_law wsX11_fetch := goodIn_r _ [856, 19, 576, 84, 85, 18, 86, 76, 45, 857, 858, 859, 860, 846, 861, 74, 632, 633, 634, 90, 635, 530, 636, 637, 638, 582, 583, 584, 585, 862, 863, 864, 865, 866, 867, 868, 869, 870, 871, 532, 533, 645, 646, 647, 648, 222, 223, 224, 225, 46, 226, 227, 228, 229, 15, 230, 231, 232, 233, 234, 235, 236, 237, 26, 238, 239, 240, 241, 114, 115, 116, 2, 117, 118, 1152, 1153, 1154, 1155, 1163, 1164, 1165, 1166, 1167, 1168, 1169, 1170, 1171, 1176, 1177, 1178, 1179, 1180, 1181, 1182, 1183, 1184, 1185, 1186, 1187, 1188, 1189, 1190, 1191, 1192, 1193, 1194, 1162] (by decide +kernel) (by decide +kernel)
set_option maxRecDepth 20000 in
theorem gL_law_X11_fetch : GoodIn wsL_law (wsV RL 103 RX11 yX11_fetch wsX11_fetch) := goodIn_app (goodIn_of _ (by decide +kernel)) ggL_law_X11_fetch
set_option maxRecDepth 20000 in
theorem ggL_law_X13_fetch : GoodIn wsL_law wsX13_fetch := goodIn_r _ [875, 54, 598, 599, 600, 5, 601, 128, 129, 130, 131, 132, 133, 142, 143, 144, 145, 657, 658, 659, 660, 124, 125, 126, 127, 163, 164, 165, 166, 665, 666, 667, 668, 1156, 1157, 1158, 1159, 1160, 1161, 1172, 1173, 1174, 1175] (by decide +kernel) (by decide +kernel)
set_option maxRecDepth 20000 in
theorem gL_law_X13_fetch : GoodIn wsL_law (wsV RL 106 RX13 yX13_fetch wsX13_fetch) := goodIn_app (goodIn_of _ (by decide +kernel)) ggL_law_X13_fetch
set_option maxRecDepth 20000 in
theorem ggL_law_X11_claim : GoodIn wsL_law wsX11_claim := goodIn_r _ [879, 19, 576, 84, 85, 18, 86, 76, 45, 880, 881, 882, 883, 74, 884, 625, 87, 88, 89, 90, 91, 92, 682, 683, 684, 685, 531, 114, 115, 116, 2, 117, 118, 1152, 1153, 1154, 1155, 1163, 1164, 1165, 1166, 1167, 1168, 1169, 1170, 1171, 1176, 1177, 1178, 1179, 1180, 1181, 1182, 1183, 1184, 1185, 1186, 1187, 1188, 1189, 1190, 1191, 1192, 1193, 1194] (by decide +kernel) (by decide +kernel)
set_option maxRecDepth 20000 in
theorem gL_law_X11_claim : GoodIn wsL_law (wsV RL 107 RX11 yX11_claim wsX11_claim) := goodIn_app (goodIn_of _ (by decide +kernel)) ggL_law_X11_claim
set_option maxRecDepth 20000 in
theorem ggL_law_X13_claim : GoodIn wsL_law wsX13_claim := goodIn_r _ [888, 598, 599, 600, 5, 601, 54, 128, 129, 130, 131, 132, 133, 146, 147, 148, 149, 142, 143, 144, 145, 698, 699, 700, 701, 124, 125, 126, 127, 163, 164, 165, 166, 1156, 1157, 1158, 1159, 1160, 1161, 1172, 1173, 1174, 1175] (by decide +kernel) (by decide +kernel)
set_option maxRecDepth 20000 in
theorem gL_law_X13_claim : GoodIn wsL_law (wsV RL 110 RX13 yX13_claim wsX13_claim) := goodIn_app (goodIn_of _ (by decide +kernel)) ggL_law_X13_claim
set_option maxRecDepth 20000 in
theorem ggL_law_X11_drop : GoodIn wsL_law wsX11_drop := goodIn_r _ [892, 19, 576, 84, 85, 18, 86, 76, 45, 893, 894, 895, 896, 74, 77, 897, 898, 899, 900, 87, 88, 89, 90, 91, 92, 682, 683, 684, 685, 531, 901, 902, 903, 904, 527, 788, 784, 785, 786, 787, 789, 790, 791, 792, 96, 793, 794, 236, 233, 237, 795, 781, 782, 783, 98, 545, 114, 115, 116, 2, 117, 118, 1152, 1153, 1154, 1155, 1163, 1164, 1165, 1166, 1167, 1168, 1169, 1170, 1171, 1176, 1177, 1178, 1179, 1180, 1181, 1182, 1183, 1184, 1185, 1186, 1187, 1188, 1189, 1190, 1191, 1192, 1193, 1194, 1195, 1196, 1197, 1198, 1199, 1200] (by decide +kernel) (by decide +kernel)
set_option maxRecDepth 20000 in
theorem gL_law_X11_drop : GoodIn wsL_law (wsV RL 111 RX11 yX11_drop wsX11_drop) := goodIn_app (goodIn_of _ (by decide +kernel)) ggL_law_X11_drop
set_option maxRecDepth 20000 in
theorem ggL_law_X13_drop : GoodIn wsL_law wsX13_drop := goodIn_r _ [908, 598, 599, 600, 5, 601, 54, 128, 129, 130, 131, 132, 133, 146, 147, 148, 149, 142, 143, 144, 145, 698, 699, 700, 701, 909, 910, 911, 912, 808, 809, 810, 811, 812, 236, 233, 237, 124, 125, 126, 127, 804, 805, 806, 807, 163, 164, 165, 166, 1156, 1157, 1158, 1159, 1160, 1161, 1172, 1173, 1174, 1175] (by decide +kernel) (by decide +kernel)
set_option maxRecDepth 20000 in
theorem gL_law_X13_drop : GoodIn wsL_law (wsV RL 114 RX13 yX13_drop wsX13_drop) := goodIn_app (goodIn_of _ (by decide +kernel)) ggL_law_X13_drop
set_option maxRecDepth 20000 in
theorem ggL_law_X11_prove : GoodIn wsL_law wsX11_prove := goodIn_r _ [916, 19, 576, 84, 85, 18, 86, 76, 45, 917, 918, 919, 920, 74, 78, 898, 899, 900, 87, 88, 89, 90, 91, 92, 682, 683, 684, 685, 531, 901, 902, 903, 904, 527, 788, 784, 785, 786, 787, 789, 790, 791, 792, 96, 793, 794, 236, 233, 237, 795, 781, 782, 783, 98, 545, 722, 723, 724, 725, 726, 463, 39, 43, 222, 223, 224, 225, 46, 226, 227, 228, 229, 15, 230, 231, 232, 234, 235, 26, 238, 239, 240, 241, 547, 548, 549, 550, 551, 552, 553, 554, 555, 106, 107, 108, 109, 110, 2, 111, 112, 113, 199, 200, 201, 639, 640, 641, 642, 643, 644, 114, 115, 116, 117, 118, 1152, 1153, 1154, 1155, 1163, 1164, 1165, 1166, 1167, 1168, 1169, 1170, 1171, 1176, 1177, 1178, 1179, 1180, 1181, 1182, 1183, 1184, 1185, 1186, 1187, 1188, 1189, 1190, 1191, 1192, 1193, 1194, 1195, 1196, 1197, 1198, 1199, 1200, 1162] (by decide +kernel) (by decide +kernel)
set_option maxRecDepth 20000 in
theorem gL_law_X11_prove : GoodIn wsL_law (wsV RL 115 RX11 yX11_prove wsX11_prove) := goodIn_app (goodIn_of _ (by decide +kernel)) ggL_law_X11_prove
set_option maxRecDepth 20000 in
theorem ggL_law_X13_prove : GoodIn wsL_law wsX13_prove := goodIn_r _ [924, 54, 598, 599, 600, 5, 601, 128, 129, 130, 131, 132, 133, 146, 147, 148, 149, 142, 143, 144, 145, 698, 699, 700, 701, 909, 910, 911, 912, 808, 809, 810, 811, 812, 236, 233, 237, 124, 125, 126, 127, 804, 805, 806, 807, 163, 164, 165, 166, 661, 662, 663, 664, 731, 732, 733, 734, 435, 436, 437, 438, 257, 258, 259, 260, 261, 262, 263, 264, 1156, 1157, 1158, 1159, 1160, 1161, 1172, 1173, 1174, 1175] (by decide +kernel) (by decide +kernel)
set_option maxRecDepth 20000 in
theorem gL_law_X13_prove : GoodIn wsL_law (wsV RL 118 RX13 yX13_prove wsX13_prove) := goodIn_app (goodIn_of _ (by decide +kernel)) ggL_law_X13_prove
set_option maxRecDepth 20000 in
theorem ggL_law_X11_image : GoodIn wsL_law wsX11_image := goodIn_r _ [928, 20, 19, 929, 930, 931, 932, 18, 933, 226, 74, 37, 934, 935, 936, 937, 39, 41, 43, 76, 45, 938, 939, 940, 941, 44, 519, 90, 522, 523, 524, 11, 12, 525, 526, 96, 527, 528, 529, 530, 531, 532, 533, 534, 535, 536, 942, 943, 944, 945, 636, 946, 947, 92, 643, 630, 637, 585, 948, 949, 871, 866, 950, 687, 688, 689, 98, 545, 109, 100, 99, 546, 114, 115, 116, 2, 117, 118, 1152, 1153, 1154, 1155, 1163, 1164, 1165, 1166, 1167, 1168, 1169, 1170, 1171, 1176, 1177, 1178, 1179, 1180, 1181, 1182, 1183, 1184, 1185, 1186, 1187, 1188, 1189, 1190, 1191, 1192, 1193, 1194, 1195, 1196, 1197, 1198, 1199, 1200] (by decide +kernel) (by decide +kernel)
set_option maxRecDepth 20000 in
theorem gL_law_X11_image : GoodIn wsL_law (wsV RL 119 RX11 yX11_image wsX11_image) := goodIn_app (goodIn_of _ (by decide +kernel)) ggL_law_X11_image
set_option maxRecDepth 20000 in
theorem ggL_law_X13_image : GoodIn wsL_law wsX13_image := goodIn_r _ [954, 55, 54, 955, 956, 53, 957, 958, 62, 63, 64, 65, 128, 129, 130, 5, 131, 132, 133, 1156, 1157, 1158, 1159, 1160, 1161, 1172, 1173, 1174, 1175] (by decide +kernel) (by decide +kernel)
set_option maxRecDepth 20000 in
theorem gL_law_X13_image : GoodIn wsL_law (wsV RL 123 RX13 yX13_image wsX13_image) := goodIn_app (goodIn_of _ (by decide +kernel)) ggL_law_X13_image
set_option maxRecDepth 20000 in
theorem ggL_law_X11_back : GoodIn wsL_law wsX11_back := goodIn_r _ [962, 929, 19, 20, 114, 115, 116, 2, 117, 118, 930, 931, 932, 18, 933, 226, 74, 37, 934, 935, 936, 937, 39, 41, 43, 76, 45, 938, 939, 940, 941, 44, 519, 90, 522, 523, 524, 11, 12, 525, 526, 96, 527, 528, 529, 530, 531, 532, 533, 534, 535, 536, 942, 943, 944, 945, 636, 946, 947, 92, 643, 630, 637, 585, 948, 949, 871, 866, 950, 687, 688, 689, 98, 545, 109, 100, 99, 546, 1152, 1153, 1154, 1155, 1163, 1164, 1165, 1166, 1167, 1168, 1169, 1170, 1171, 1176, 1177, 1178, 1179, 1180, 1181, 1182, 1183, 1184, 1185, 1186, 1187, 1188, 1189, 1190, 1191, 1192, 1193, 1194, 1195, 1196, 1197, 1198, 1199, 1200] (by decide +kernel) (by decide +kernel)
set_option maxRecDepth 20000 in
theorem gL_law_X11_back : GoodIn wsL_law (wsV RL 124 RX11 yX11_back wsX11_back) := goodIn_app (goodIn_of _ (by decide +kernel)) ggL_law_X11_back
set_option maxRecDepth 20000 in
theorem ggL_law_X13_back : GoodIn wsL_law wsX13_back := goodIn_r _ [966, 955, 54, 55, 128, 129, 130, 5, 131, 132, 133, 956, 53, 957, 958, 62, 63, 64, 65, 1156, 1157, 1158, 1159, 1160, 1161, 1172, 1173, 1174, 1175] (by decide +kernel) (by decide +kernel)
set_option maxRecDepth 20000 in
theorem gL_law_X13_back : GoodIn wsL_law (wsV RL 127 RX13 yX13_back wsX13_back) := goodIn_app (goodIn_of _ (by decide +kernel)) ggL_law_X13_back
set_option maxRecDepth 20000 in
theorem ggL_law_X11_place : GoodIn wsL_law wsX11_place := goodIn_r _ [970, 19, 971, 972, 973, 18, 974, 975, 39, 43, 199, 200, 201, 976, 977, 978, 979, 41, 468, 469, 470, 471, 321, 472, 473, 474, 275, 475, 476, 477, 396, 478, 479, 480, 342, 481, 482, 483, 194, 484, 485, 486, 487, 488, 74, 37, 489, 490, 491, 492, 493, 494, 326, 327, 325, 495, 496, 497, 284, 498, 499, 293, 294, 295, 278, 296, 289, 500, 501, 502, 403, 503, 504, 505, 347, 348, 349, 506, 232, 233, 234, 507, 508, 509, 213, 980, 981, 982, 983, 215, 984, 985, 986, 987, 988, 989, 990, 991, 992, 993, 994, 995, 996, 997, 998, 291, 999, 1000, 1001, 1002, 1003, 1004, 1005, 1006, 1007, 1008, 1009, 756, 758, 1010, 1011, 1012, 1013, 1014, 1015, 1016, 1017, 1018, 1019, 1020, 374, 376, 1021, 1152, 1153, 1154, 1155, 1163, 1164, 1165, 1166, 1167, 1168, 1169, 1170, 1171, 1211, 1212, 1213, 1202, 1203, 1204, 1205, 1206, 1207, 1208, 1209, 1210, 1214, 1215, 1201] (by decide +kernel) (by decide +kernel)
set_option maxRecDepth 20000 in
theorem gL_law_X11_place : GoodIn wsL_law (wsV RL 128 RX11 yX11_place wsX11_place) := goodIn_app (goodIn_of _ (by decide +kernel)) ggL_law_X11_place
set_option maxRecDepth 20000 in
theorem ggL_law_X13_place : GoodIn wsL_law wsX13_place := goodIn_r _ [1025, 132, 1026, 250, 251, 5, 252, 154, 155, 156, 157, 54, 562, 563, 564, 565, 566, 162, 567, 232, 233, 234, 568, 569, 570, 571, 124, 125, 126, 127, 763, 764, 765, 766, 1156, 1157, 1158, 1159, 1160, 1161, 1172, 1173, 1174, 1175] (by decide +kernel) (by decide +kernel)
set_option maxRecDepth 20000 in
theorem gL_law_X13_place : GoodIn wsL_law (wsV RL 132 RX13 yX13_place wsX13_place) := goodIn_app (goodIn_of _ (by decide +kernel)) ggL_law_X13_place
set_option maxRecDepth 20000 in
theorem ggL_law_X11_told : GoodIn wsL_law wsX11_told := goodIn_r _ [1030, 19, 576, 84, 85, 18, 86, 76, 45, 1031, 1032, 1033, 1034, 726, 78, 77, 623, 1035, 1036, 1037, 1038, 775, 74, 37, 897, 823, 846, 463, 610, 776, 777, 778, 90, 779, 527, 780, 781, 782, 96, 783, 98, 545, 784, 785, 786, 787, 788, 531, 789, 683, 684, 685, 790, 791, 792, 793, 794, 236, 233, 237, 795, 682, 1039, 1040, 1041, 1042, 533, 1043, 1044, 1045, 1046, 866, 867, 868, 869, 870, 871, 532, 1047, 1048, 1049, 1050, 585, 636, 1051, 1052, 1053, 1054, 637, 638, 582, 583, 584, 1152, 1153, 1154, 1155, 1163, 1164, 1165, 1166, 1167, 1168, 1169, 1170, 1171, 1176, 1177, 1178, 1179, 1180, 1181, 1182, 1183, 1184, 1185, 1186, 1187, 1188, 1189, 1190, 1191, 1192, 1193, 1194, 1195, 1196, 1197, 1198, 1199, 1200] (by decide +kernel) (by decide +kernel)
set_option maxRecDepth 20000 in
theorem gL_law_X11_told : GoodIn wsL_law (wsV RL 133 RX11 yX11_told wsX11_told) := goodIn_app (goodIn_of _ (by decide +kernel)) ggL_law_X11_told
set_option maxRecDepth 20000 in
theorem ggL_law_X13_told : GoodIn wsL_law wsX13_told := goodIn_r _ [1058, 132, 598, 599, 600, 5, 601, 54, 142, 143, 144, 145, 800, 801, 802, 803, 804, 805, 806, 807, 568, 569, 570, 571, 808, 809, 810, 811, 812, 236, 233, 237, 698, 699, 700, 701, 124, 125, 126, 127, 1156, 1157, 1158, 1159, 1160, 1161, 1172, 1173, 1174, 1175] (by decide +kernel) (by decide +kernel)
set_option maxRecDepth 20000 in
theorem gL_law_X13_told : GoodIn wsL_law (wsV RL 136 RX13 yX13_told wsX13_told) := goodIn_app (goodIn_of _ (by decide +kernel)) ggL_law_X13_told
set_option maxRecDepth 20000 in
theorem ggL_law_X11_half : GoodIn wsL_law wsX11_half := goodIn_r _ [1062, 19, 1063, 1064, 1065, 18, 1066, 76, 521, 83, 84, 85, 86, 45, 1152, 1153, 1154, 1155, 1163, 1164, 1165, 1166, 1167, 1168, 1169, 1170, 1171, 1176, 1177, 1178, 1179, 1180, 1181, 1182, 1183, 1184, 1185, 1186, 1187, 1188, 1189, 1190, 1191, 1192, 1193, 1194] (by decide +kernel) (by decide +kernel)
set_option maxRecDepth 20000 in
theorem gL_law_X11_half : GoodIn wsL_law (wsV RL 137 RX11 yX11_half wsX11_half) := goodIn_app (goodIn_of _ (by decide +kernel)) ggL_law_X11_half
set_option maxRecDepth 20000 in
theorem ggL_law_X13_half : GoodIn wsL_law wsX13_half := goodIn_r _ [1070, 132, 54, 1156, 1157, 1158, 1159, 1160, 1161, 1172, 1173, 1174, 1175] (by decide +kernel) (by decide +kernel)
set_option maxRecDepth 20000 in
theorem gL_law_X13_half : GoodIn wsL_law (wsV RL 140 RX13 yX13_half wsX13_half) := goodIn_app (goodIn_of _ (by decide +kernel)) ggL_law_X13_half
set_option maxRecDepth 20000 in
theorem ggL_law_X11_sum : GoodIn wsL_law wsX11_sum := goodIn_r _ [1074, 19, 1075, 1076, 1077, 18, 1078, 74, 975, 46, 226, 1079, 1080, 1081, 1082, 76, 846, 83, 84, 85, 86, 45, 862, 863, 864, 90, 865, 866, 867, 868, 869, 870, 871, 532, 533, 1083, 1044, 1045, 1046, 1084, 1085, 1086, 15, 1087, 231, 232, 233, 234, 26, 1088, 1089, 1090, 1091, 1092, 1093, 1094, 1095, 102, 96, 103, 104, 1096, 1097, 1098, 1099, 1152, 1153, 1154, 1155, 1163, 1164, 1165, 1166, 1167, 1168, 1169, 1170, 1171, 1176, 1177, 1178, 1179, 1180, 1181, 1182, 1183, 1184, 1185, 1186, 1187, 1188, 1189, 1190, 1191, 1192, 1193, 1194, 1162] (by decide +kernel) (by decide +kernel)
set_option maxRecDepth 20000 in
theorem gL_law_X11_sum : GoodIn wsL_law (wsV RL 141 RX11 yX11_sum wsX11_sum) := goodIn_app (goodIn_of _ (by decide +kernel)) ggL_law_X11_sum
set_option maxRecDepth 20000 in
theorem ggL_law_X13_sum : GoodIn wsL_law wsX13_sum := goodIn_r _ [1103, 132, 1026, 134, 135, 136, 5, 137, 54, 138, 139, 140, 141, 124, 125, 126, 127, 142, 143, 144, 145, 146, 147, 148, 149, 150, 151, 152, 153, 154, 155, 156, 157, 1156, 1157, 1158, 1159, 1160, 1161, 1172, 1173, 1174, 1175] (by decide +kernel) (by decide +kernel)
set_option maxRecDepth 20000 in
theorem gL_law_X13_sum : GoodIn wsL_law (wsV RL 145 RX13 yX13_sum wsX13_sum) := goodIn_app (goodIn_of _ (by decide +kernel)) ggL_law_X13_sum
set_option maxRecDepth 20000 in
theorem ggL_law_X11_as : GoodIn wsL_law wsX11_as := goodIn_r _ [1107, 19, 1075, 1076, 1077, 18, 1078, 74, 975, 46, 226, 1079, 1080, 1081, 1082, 76, 846, 83, 84, 85, 86, 45, 862, 863, 864, 90, 865, 866, 867, 868, 869, 870, 871, 532, 533, 1083, 1044, 1045, 1046, 1084, 1085, 1086, 15, 1087, 231, 232, 233, 234, 26, 1088, 1089, 1090, 1091, 1092, 1093, 1094, 1095, 102, 96, 103, 104, 1096, 1097, 1098, 1099, 1152, 1153, 1154, 1155, 1163, 1164, 1165, 1166, 1167, 1168, 1169, 1170, 1171, 1176, 1177, 1178, 1179, 1180, 1181, 1182, 1183, 1184, 1185, 1186, 1187, 1188, 1189, 1190, 1191, 1192, 1193, 1194, 1162] (by decide +kernel) (by decide +kernel)
set_option maxRecDepth 20000 in
theorem gL_law_X11_as : GoodIn wsL_law (wsV RL 146 RX11 yX11_as wsX11_as) := goodIn_app (goodIn_of _ (by decide +kernel)) ggL_law_X11_as
set_option maxRecDepth 20000 in
theorem ggL_law_X13_as : GoodIn wsL_law wsX13_as := goodIn_r _ [1111, 132, 1026, 57, 124, 125, 126, 5, 127, 54, 134, 135, 136, 137, 138, 139, 140, 141, 142, 143, 144, 145, 146, 147, 148, 149, 150, 151, 152, 153, 154, 155, 156, 157, 1156, 1157, 1158, 1159, 1160, 1161, 1172, 1173, 1174, 1175] (by decide +kernel) (by decide +kernel)
set_option maxRecDepth 20000 in
theorem gL_law_X13_as : GoodIn wsL_law (wsV RL 149 RX13 yX13_as wsX13_as) := goodIn_app (goodIn_of _ (by decide +kernel)) ggL_law_X13_as
set_option maxRecDepth 20000 in
theorem ggL_law_X11_check : GoodIn wsL_law wsX11_check := goodIn_r _ [1115, 19, 1116, 1117, 1118, 18, 1119, 1120, 1121, 1122, 1123, 46, 226, 76, 78, 1096, 1097, 1098, 15, 1099, 26, 79, 80, 81, 82, 83, 84, 85, 86, 45, 87, 88, 89, 90, 91, 92, 1124, 1125, 1126, 1127, 1128, 1129, 1130, 1131, 463, 1132, 1133, 1134, 1135, 1136, 1137, 1138, 1139, 39, 43, 464, 199, 200, 201, 1152, 1153, 1154, 1155, 1163, 1164, 1165, 1166, 1167, 1168, 1169, 1170, 1171, 1176, 1177, 1178, 1179, 1180, 1181, 1182, 1183, 1184, 1185, 1186, 1187, 1188, 1189, 1190, 1191, 1192, 1193, 1194, 1162] (by decide +kernel) (by decide +kernel)
set_option maxRecDepth 20000 in
theorem gL_law_X11_check : GoodIn wsL_law (wsV RL 150 RX11 yX11_check wsX11_check) := goodIn_app (goodIn_of _ (by decide +kernel)) ggL_law_X11_check
set_option maxRecDepth 20000 in
theorem ggL_law_X13_check : GoodIn wsL_law wsX13_check := goodIn_r _ [1143, 132, 1156, 1157, 1158, 1159, 1160, 1161] (by decide +kernel) (by decide +kernel)
set_option maxRecDepth 20000 in
theorem gL_law_X13_check : GoodIn wsL_law (wsV RL 153 RX13 yX13_check wsX13_check) := goodIn_app (goodIn_of _ (by decide +kernel)) ggL_law_X13_check
set_option maxRecDepth 20000 in
theorem ggL_law_X11_status : GoodIn wsL_law wsX11_status := goodIn_r _ [1147, 118, 1152, 1153, 1154, 1155] (by decide +kernel) (by decide +kernel)
set_option maxRecDepth 20000 in
theorem gL_law_X11_status : GoodIn wsL_law (wsV RL 154 RX11 yX11_status wsX11_status) := goodIn_app (goodIn_of _ (by decide +kernel)) ggL_law_X11_status
set_option maxRecDepth 20000 in
theorem ggL_law_X13_status : GoodIn wsL_law wsX13_status := goodIn_r _ [1151, 132, 133, 1156, 1157, 1158, 1159, 1160, 1161] (by decide +kernel) (by decide +kernel)
set_option maxRecDepth 20000 in
theorem gL_law_X13_status : GoodIn wsL_law (wsV RL 157 RX13 yX13_status wsX13_status) := goodIn_app (goodIn_of _ (by decide +kernel)) ggL_law_X13_status
theorem dL_law_0 : decode cL_law 0 = .ok (.new 7, 3) := by decide +kernel
theorem dL_law_3 : decode cL_law 3 = .ok (.dup, 1) := by decide +kernel
theorem dL_law_4 : decode cL_law 4 = .ok (.invokespecial 9, 3) := by decide +kernel
theorem dL_law_7 : decode cL_law 7 = .ok (.astore_n 1, 1) := by decide +kernel
theorem dL_law_8 : decode cL_law 8 = .ok (.new 10, 3) := by decide +kernel
theorem dL_law_11 : decode cL_law 11 = .ok (.dup, 1) := by decide +kernel
theorem dL_law_12 : decode cL_law 12 = .ok (.invokespecial 12, 3) := by decide +kernel
theorem dL_law_15 : decode cL_law 15 = .ok (.astore_n 2, 1) := by decide +kernel
theorem dL_law_16 : decode cL_law 16 = .ok (.iconst 0, 1) := by decide +kernel
theorem dL_law_17 : decode cL_law 17 = .ok (.istore_n 3, 1) := by decide +kernel
theorem dL_law_18 : decode cL_law 18 = .ok (.iload_n 3, 1) := by decide +kernel
theorem dL_law_19 : decode cL_law 19 = .ok (.aload_n 0, 1) := by decide +kernel
theorem dL_law_20 : decode cL_law 20 = .ok (.arraylength, 1) := by decide +kernel
theorem dL_law_21 : decode cL_law 21 = .ok (.iconst 4, 1) := by decide +kernel
theorem dL_law_22 : decode cL_law 22 = .ok (.isub, 1) := by decide +kernel
theorem dL_law_23 : decode cL_law 23 = .ok (.if_icmp .gt 1168, 3) := by decide +kernel
theorem dL_law_26 : decode cL_law 26 = .ok (.aload_n 0, 1) := by decide +kernel
theorem dL_law_27 : decode cL_law 27 = .ok (.iload_n 3, 1) := by decide +kernel
theorem dL_law_28 : decode cL_law 28 = .ok (.iaload, 1) := by decide +kernel
theorem dL_law_29 : decode cL_law 29 = .ok (.bipush 63, 2) := by decide +kernel
theorem dL_law_31 : decode cL_law 31 = .ok (.iand, 1) := by decide +kernel
theorem dL_law_32 : decode cL_law 32 = .ok (.tableswitch 1153 0 33 #[152, 175, 208, 241, 292, 335, 376, 409, 442, 465, 488, 531, 564, 587, 630, 673, 696, 739, 782, 805, 838, 861, 894, 917, 940, 963, 976, 989, 1023, 1056, 1069, 1093, 1127, 1140], 152) := by decide +kernel
theorem dL_law_184 : decode cL_law 184 = .ok (.aload_n 1, 1) := by decide +kernel
theorem dL_law_185 : decode cL_law 185 = .ok (.aload_n 0, 1) := by decide +kernel
theorem dL_law_186 : decode cL_law 186 = .ok (.iload_n 3, 1) := by decide +kernel
theorem dL_law_187 : decode cL_law 187 = .ok (.iconst 1, 1) := by decide +kernel
theorem dL_law_188 : decode cL_law 188 = .ok (.iadd, 1) := by decide +kernel
theorem dL_law_189 : decode cL_law 189 = .ok (.iaload, 1) := by decide +kernel
theorem dL_law_190 : decode cL_law 190 = .ok (.invokevirtual 13, 3) := by decide +kernel
theorem dL_law_193 : decode cL_law 193 = .ok (.aload_n 2, 1) := by decide +kernel
theorem dL_law_194 : decode cL_law 194 = .ok (.aload_n 0, 1) := by decide +kernel
theorem dL_law_195 : decode cL_law 195 = .ok (.iload_n 3, 1) := by decide +kernel
theorem dL_law_196 : decode cL_law 196 = .ok (.iconst 1, 1) := by decide +kernel
theorem dL_law_197 : decode cL_law 197 = .ok (.iadd, 1) := by decide +kernel
theorem dL_law_198 : decode cL_law 198 = .ok (.iaload, 1) := by decide +kernel
theorem dL_law_199 : decode cL_law 199 = .ok (.invokevirtual 17, 3) := by decide +kernel
theorem dL_law_202 : decode cL_law 202 = .ok (.if_icmp .eq 983, 3) := by decide +kernel
theorem dL_law_205 : decode cL_law 205 = .ok (.iconst 0, 1) := by decide +kernel
theorem dL_law_206 : decode cL_law 206 = .ok (.ireturn, 1) := by decide +kernel
theorem dL_law_207 : decode cL_law 207 = .ok (.aload_n 1, 1) := by decide +kernel
theorem dL_law_208 : decode cL_law 208 = .ok (.aload_n 0, 1) := by decide +kernel
theorem dL_law_209 : decode cL_law 209 = .ok (.iload_n 3, 1) := by decide +kernel
theorem dL_law_210 : decode cL_law 210 = .ok (.iconst 1, 1) := by decide +kernel
theorem dL_law_211 : decode cL_law 211 = .ok (.iadd, 1) := by decide +kernel
theorem dL_law_212 : decode cL_law 212 = .ok (.iaload, 1) := by decide +kernel
theorem dL_law_213 : decode cL_law 213 = .ok (.aload_n 0, 1) := by decide +kernel
theorem dL_law_214 : decode cL_law 214 = .ok (.iload_n 3, 1) := by decide +kernel
theorem dL_law_215 : decode cL_law 215 = .ok (.iconst 2, 1) := by decide +kernel
theorem dL_law_216 : decode cL_law 216 = .ok (.iadd, 1) := by decide +kernel
theorem dL_law_217 : decode cL_law 217 = .ok (.iaload, 1) := by decide +kernel
theorem dL_law_218 : decode cL_law 218 = .ok (.invokevirtual 18, 3) := by decide +kernel
theorem dL_law_221 : decode cL_law 221 = .ok (.aload_n 2, 1) := by decide +kernel
theorem dL_law_222 : decode cL_law 222 = .ok (.aload_n 0, 1) := by decide +kernel
theorem dL_law_223 : decode cL_law 223 = .ok (.iload_n 3, 1) := by decide +kernel
theorem dL_law_224 : decode cL_law 224 = .ok (.iconst 1, 1) := by decide +kernel
theorem dL_law_225 : decode cL_law 225 = .ok (.iadd, 1) := by decide +kernel
theorem dL_law_226 : decode cL_law 226 = .ok (.iaload, 1) := by decide +kernel
theorem dL_law_227 : decode cL_law 227 = .ok (.aload_n 0, 1) := by decide +kernel
theorem dL_law_228 : decode cL_law 228 = .ok (.iload_n 3, 1) := by decide +kernel
theorem dL_law_229 : decode cL_law 229 = .ok (.iconst 2, 1) := by decide +kernel
theorem dL_law_230 : decode cL_law 230 = .ok (.iadd, 1) := by decide +kernel
theorem dL_law_231 : decode cL_law 231 = .ok (.iaload, 1) := by decide +kernel
theorem dL_law_232 : decode cL_law 232 = .ok (.invokevirtual 22, 3) := by decide +kernel
theorem dL_law_235 : decode cL_law 235 = .ok (.if_icmp .eq 950, 3) := by decide +kernel
theorem dL_law_238 : decode cL_law 238 = .ok (.iconst 0, 1) := by decide +kernel
theorem dL_law_239 : decode cL_law 239 = .ok (.ireturn, 1) := by decide +kernel
theorem dL_law_240 : decode cL_law 240 = .ok (.aload_n 1, 1) := by decide +kernel
theorem dL_law_241 : decode cL_law 241 = .ok (.aload_n 0, 1) := by decide +kernel
theorem dL_law_242 : decode cL_law 242 = .ok (.iload_n 3, 1) := by decide +kernel
theorem dL_law_243 : decode cL_law 243 = .ok (.iconst 1, 1) := by decide +kernel
theorem dL_law_244 : decode cL_law 244 = .ok (.iadd, 1) := by decide +kernel
theorem dL_law_245 : decode cL_law 245 = .ok (.iaload, 1) := by decide +kernel
theorem dL_law_246 : decode cL_law 246 = .ok (.aload_n 0, 1) := by decide +kernel
theorem dL_law_247 : decode cL_law 247 = .ok (.iload_n 3, 1) := by decide +kernel
theorem dL_law_248 : decode cL_law 248 = .ok (.iconst 2, 1) := by decide +kernel
theorem dL_law_249 : decode cL_law 249 = .ok (.iadd, 1) := by decide +kernel
theorem dL_law_250 : decode cL_law 250 = .ok (.iaload, 1) := by decide +kernel
theorem dL_law_251 : decode cL_law 251 = .ok (.invokevirtual 23, 3) := by decide +kernel
theorem dL_law_254 : decode cL_law 254 = .ok (.aload_n 2, 1) := by decide +kernel
theorem dL_law_255 : decode cL_law 255 = .ok (.aload_n 0, 1) := by decide +kernel
theorem dL_law_256 : decode cL_law 256 = .ok (.iload_n 3, 1) := by decide +kernel
theorem dL_law_257 : decode cL_law 257 = .ok (.iconst 1, 1) := by decide +kernel
theorem dL_law_258 : decode cL_law 258 = .ok (.iadd, 1) := by decide +kernel
theorem dL_law_259 : decode cL_law 259 = .ok (.iaload, 1) := by decide +kernel
theorem dL_law_260 : decode cL_law 260 = .ok (.aload_n 0, 1) := by decide +kernel
theorem dL_law_261 : decode cL_law 261 = .ok (.iload_n 3, 1) := by decide +kernel
theorem dL_law_262 : decode cL_law 262 = .ok (.iconst 2, 1) := by decide +kernel
theorem dL_law_263 : decode cL_law 263 = .ok (.iadd, 1) := by decide +kernel
theorem dL_law_264 : decode cL_law 264 = .ok (.iaload, 1) := by decide +kernel
theorem dL_law_265 : decode cL_law 265 = .ok (.invokevirtual 26, 3) := by decide +kernel
theorem dL_law_268 : decode cL_law 268 = .ok (.if_icmp .eq 917, 3) := by decide +kernel
theorem dL_law_271 : decode cL_law 271 = .ok (.iconst 0, 1) := by decide +kernel
theorem dL_law_272 : decode cL_law 272 = .ok (.ireturn, 1) := by decide +kernel
theorem dL_law_273 : decode cL_law 273 = .ok (.aload_n 1, 1) := by decide +kernel
theorem dL_law_274 : decode cL_law 274 = .ok (.aload_n 0, 1) := by decide +kernel
theorem dL_law_275 : decode cL_law 275 = .ok (.iload_n 3, 1) := by decide +kernel
theorem dL_law_276 : decode cL_law 276 = .ok (.iconst 1, 1) := by decide +kernel
theorem dL_law_277 : decode cL_law 277 = .ok (.iadd, 1) := by decide +kernel
theorem dL_law_278 : decode cL_law 278 = .ok (.iaload, 1) := by decide +kernel
theorem dL_law_279 : decode cL_law 279 = .ok (.aload_n 0, 1) := by decide +kernel
theorem dL_law_280 : decode cL_law 280 = .ok (.iload_n 3, 1) := by decide +kernel
theorem dL_law_281 : decode cL_law 281 = .ok (.iconst 2, 1) := by decide +kernel
theorem dL_law_282 : decode cL_law 282 = .ok (.iadd, 1) := by decide +kernel
theorem dL_law_283 : decode cL_law 283 = .ok (.iaload, 1) := by decide +kernel
theorem dL_law_284 : decode cL_law 284 = .ok (.i2f, 1) := by decide +kernel
theorem dL_law_285 : decode cL_law 285 = .ok (.ldc 27, 2) := by decide +kernel
theorem dL_law_287 : decode cL_law 287 = .ok (.fmul, 1) := by decide +kernel
theorem dL_law_288 : decode cL_law 288 = .ok (.aload_n 0, 1) := by decide +kernel
theorem dL_law_289 : decode cL_law 289 = .ok (.iload_n 3, 1) := by decide +kernel
theorem dL_law_290 : decode cL_law 290 = .ok (.iconst 3, 1) := by decide +kernel
theorem dL_law_291 : decode cL_law 291 = .ok (.iadd, 1) := by decide +kernel
theorem dL_law_292 : decode cL_law 292 = .ok (.iaload, 1) := by decide +kernel
theorem dL_law_293 : decode cL_law 293 = .ok (.invokevirtual 28, 3) := by decide +kernel
theorem dL_law_296 : decode cL_law 296 = .ok (.aload_n 2, 1) := by decide +kernel
theorem dL_law_297 : decode cL_law 297 = .ok (.aload_n 0, 1) := by decide +kernel
theorem dL_law_298 : decode cL_law 298 = .ok (.iload_n 3, 1) := by decide +kernel
theorem dL_law_299 : decode cL_law 299 = .ok (.iconst 1, 1) := by decide +kernel
theorem dL_law_300 : decode cL_law 300 = .ok (.iadd, 1) := by decide +kernel
theorem dL_law_301 : decode cL_law 301 = .ok (.iaload, 1) := by decide +kernel
theorem dL_law_302 : decode cL_law 302 = .ok (.aload_n 0, 1) := by decide +kernel
theorem dL_law_303 : decode cL_law 303 = .ok (.iload_n 3, 1) := by decide +kernel
theorem dL_law_304 : decode cL_law 304 = .ok (.iconst 2, 1) := by decide +kernel
theorem dL_law_305 : decode cL_law 305 = .ok (.iadd, 1) := by decide +kernel
theorem dL_law_306 : decode cL_law 306 = .ok (.iaload, 1) := by decide +kernel
theorem dL_law_307 : decode cL_law 307 = .ok (.i2f, 1) := by decide +kernel
theorem dL_law_308 : decode cL_law 308 = .ok (.ldc 27, 2) := by decide +kernel
theorem dL_law_310 : decode cL_law 310 = .ok (.fmul, 1) := by decide +kernel
theorem dL_law_311 : decode cL_law 311 = .ok (.aload_n 0, 1) := by decide +kernel
theorem dL_law_312 : decode cL_law 312 = .ok (.iload_n 3, 1) := by decide +kernel
theorem dL_law_313 : decode cL_law 313 = .ok (.iconst 3, 1) := by decide +kernel
theorem dL_law_314 : decode cL_law 314 = .ok (.iadd, 1) := by decide +kernel
theorem dL_law_315 : decode cL_law 315 = .ok (.iaload, 1) := by decide +kernel
theorem dL_law_316 : decode cL_law 316 = .ok (.invokevirtual 32, 3) := by decide +kernel
theorem dL_law_319 : decode cL_law 319 = .ok (.if_icmp .eq 866, 3) := by decide +kernel
theorem dL_law_322 : decode cL_law 322 = .ok (.iconst 0, 1) := by decide +kernel
theorem dL_law_323 : decode cL_law 323 = .ok (.ireturn, 1) := by decide +kernel
theorem dL_law_324 : decode cL_law 324 = .ok (.aload_n 1, 1) := by decide +kernel
theorem dL_law_325 : decode cL_law 325 = .ok (.aload_n 0, 1) := by decide +kernel
theorem dL_law_326 : decode cL_law 326 = .ok (.iload_n 3, 1) := by decide +kernel
theorem dL_law_327 : decode cL_law 327 = .ok (.iconst 1, 1) := by decide +kernel
theorem dL_law_328 : decode cL_law 328 = .ok (.iadd, 1) := by decide +kernel
theorem dL_law_329 : decode cL_law 329 = .ok (.iaload, 1) := by decide +kernel
theorem dL_law_330 : decode cL_law 330 = .ok (.aload_n 0, 1) := by decide +kernel
theorem dL_law_331 : decode cL_law 331 = .ok (.iload_n 3, 1) := by decide +kernel
theorem dL_law_332 : decode cL_law 332 = .ok (.iconst 2, 1) := by decide +kernel
theorem dL_law_333 : decode cL_law 333 = .ok (.iadd, 1) := by decide +kernel
theorem dL_law_334 : decode cL_law 334 = .ok (.iaload, 1) := by decide +kernel
theorem dL_law_335 : decode cL_law 335 = .ok (.aload_n 0, 1) := by decide +kernel
theorem dL_law_336 : decode cL_law 336 = .ok (.iload_n 3, 1) := by decide +kernel
theorem dL_law_337 : decode cL_law 337 = .ok (.iconst 3, 1) := by decide +kernel
theorem dL_law_338 : decode cL_law 338 = .ok (.iadd, 1) := by decide +kernel
theorem dL_law_339 : decode cL_law 339 = .ok (.iaload, 1) := by decide +kernel
theorem dL_law_340 : decode cL_law 340 = .ok (.invokevirtual 33, 3) := by decide +kernel
theorem dL_law_343 : decode cL_law 343 = .ok (.aload_n 2, 1) := by decide +kernel
theorem dL_law_344 : decode cL_law 344 = .ok (.aload_n 0, 1) := by decide +kernel
theorem dL_law_345 : decode cL_law 345 = .ok (.iload_n 3, 1) := by decide +kernel
theorem dL_law_346 : decode cL_law 346 = .ok (.iconst 1, 1) := by decide +kernel
theorem dL_law_347 : decode cL_law 347 = .ok (.iadd, 1) := by decide +kernel
theorem dL_law_348 : decode cL_law 348 = .ok (.iaload, 1) := by decide +kernel
theorem dL_law_349 : decode cL_law 349 = .ok (.aload_n 0, 1) := by decide +kernel
theorem dL_law_350 : decode cL_law 350 = .ok (.iload_n 3, 1) := by decide +kernel
theorem dL_law_351 : decode cL_law 351 = .ok (.iconst 2, 1) := by decide +kernel
theorem dL_law_352 : decode cL_law 352 = .ok (.iadd, 1) := by decide +kernel
theorem dL_law_353 : decode cL_law 353 = .ok (.iaload, 1) := by decide +kernel
theorem dL_law_354 : decode cL_law 354 = .ok (.aload_n 0, 1) := by decide +kernel
theorem dL_law_355 : decode cL_law 355 = .ok (.iload_n 3, 1) := by decide +kernel
theorem dL_law_356 : decode cL_law 356 = .ok (.iconst 3, 1) := by decide +kernel
theorem dL_law_357 : decode cL_law 357 = .ok (.iadd, 1) := by decide +kernel
theorem dL_law_358 : decode cL_law 358 = .ok (.iaload, 1) := by decide +kernel
theorem dL_law_359 : decode cL_law 359 = .ok (.invokevirtual 37, 3) := by decide +kernel
theorem dL_law_362 : decode cL_law 362 = .ok (.if_icmp .eq 823, 3) := by decide +kernel
theorem dL_law_365 : decode cL_law 365 = .ok (.iconst 0, 1) := by decide +kernel
theorem dL_law_366 : decode cL_law 366 = .ok (.ireturn, 1) := by decide +kernel
theorem dL_law_367 : decode cL_law 367 = .ok (.aload_n 1, 1) := by decide +kernel
theorem dL_law_368 : decode cL_law 368 = .ok (.aload_n 0, 1) := by decide +kernel
theorem dL_law_369 : decode cL_law 369 = .ok (.iload_n 3, 1) := by decide +kernel
theorem dL_law_370 : decode cL_law 370 = .ok (.iconst 1, 1) := by decide +kernel
theorem dL_law_371 : decode cL_law 371 = .ok (.iadd, 1) := by decide +kernel
theorem dL_law_372 : decode cL_law 372 = .ok (.iaload, 1) := by decide +kernel
theorem dL_law_373 : decode cL_law 373 = .ok (.aload_n 0, 1) := by decide +kernel
theorem dL_law_374 : decode cL_law 374 = .ok (.iload_n 3, 1) := by decide +kernel
theorem dL_law_375 : decode cL_law 375 = .ok (.iconst 2, 1) := by decide +kernel
theorem dL_law_376 : decode cL_law 376 = .ok (.iadd, 1) := by decide +kernel
theorem dL_law_377 : decode cL_law 377 = .ok (.iaload, 1) := by decide +kernel
theorem dL_law_378 : decode cL_law 378 = .ok (.i2f, 1) := by decide +kernel
theorem dL_law_379 : decode cL_law 379 = .ok (.ldc 27, 2) := by decide +kernel
theorem dL_law_381 : decode cL_law 381 = .ok (.fmul, 1) := by decide +kernel
theorem dL_law_382 : decode cL_law 382 = .ok (.invokevirtual 38, 3) := by decide +kernel
theorem dL_law_385 : decode cL_law 385 = .ok (.aload_n 2, 1) := by decide +kernel
theorem dL_law_386 : decode cL_law 386 = .ok (.aload_n 0, 1) := by decide +kernel
theorem dL_law_387 : decode cL_law 387 = .ok (.iload_n 3, 1) := by decide +kernel
theorem dL_law_388 : decode cL_law 388 = .ok (.iconst 1, 1) := by decide +kernel
theorem dL_law_389 : decode cL_law 389 = .ok (.iadd, 1) := by decide +kernel
theorem dL_law_390 : decode cL_law 390 = .ok (.iaload, 1) := by decide +kernel
theorem dL_law_391 : decode cL_law 391 = .ok (.aload_n 0, 1) := by decide +kernel
theorem dL_law_392 : decode cL_law 392 = .ok (.iload_n 3, 1) := by decide +kernel
theorem dL_law_393 : decode cL_law 393 = .ok (.iconst 2, 1) := by decide +kernel
theorem dL_law_394 : decode cL_law 394 = .ok (.iadd, 1) := by decide +kernel
theorem dL_law_395 : decode cL_law 395 = .ok (.iaload, 1) := by decide +kernel
theorem dL_law_396 : decode cL_law 396 = .ok (.i2f, 1) := by decide +kernel
theorem dL_law_397 : decode cL_law 397 = .ok (.ldc 27, 2) := by decide +kernel
theorem dL_law_399 : decode cL_law 399 = .ok (.fmul, 1) := by decide +kernel
theorem dL_law_400 : decode cL_law 400 = .ok (.invokevirtual 42, 3) := by decide +kernel
theorem dL_law_403 : decode cL_law 403 = .ok (.if_icmp .eq 782, 3) := by decide +kernel
theorem dL_law_406 : decode cL_law 406 = .ok (.iconst 0, 1) := by decide +kernel
theorem dL_law_407 : decode cL_law 407 = .ok (.ireturn, 1) := by decide +kernel
theorem dL_law_408 : decode cL_law 408 = .ok (.aload_n 1, 1) := by decide +kernel
theorem dL_law_409 : decode cL_law 409 = .ok (.aload_n 0, 1) := by decide +kernel
theorem dL_law_410 : decode cL_law 410 = .ok (.iload_n 3, 1) := by decide +kernel
theorem dL_law_411 : decode cL_law 411 = .ok (.iconst 1, 1) := by decide +kernel
theorem dL_law_412 : decode cL_law 412 = .ok (.iadd, 1) := by decide +kernel
theorem dL_law_413 : decode cL_law 413 = .ok (.iaload, 1) := by decide +kernel
theorem dL_law_414 : decode cL_law 414 = .ok (.aload_n 0, 1) := by decide +kernel
theorem dL_law_415 : decode cL_law 415 = .ok (.iload_n 3, 1) := by decide +kernel
theorem dL_law_416 : decode cL_law 416 = .ok (.iconst 2, 1) := by decide +kernel
theorem dL_law_417 : decode cL_law 417 = .ok (.iadd, 1) := by decide +kernel
theorem dL_law_418 : decode cL_law 418 = .ok (.iaload, 1) := by decide +kernel
theorem dL_law_419 : decode cL_law 419 = .ok (.invokevirtual 43, 3) := by decide +kernel
theorem dL_law_422 : decode cL_law 422 = .ok (.aload_n 2, 1) := by decide +kernel
theorem dL_law_423 : decode cL_law 423 = .ok (.aload_n 0, 1) := by decide +kernel
theorem dL_law_424 : decode cL_law 424 = .ok (.iload_n 3, 1) := by decide +kernel
theorem dL_law_425 : decode cL_law 425 = .ok (.iconst 1, 1) := by decide +kernel
theorem dL_law_426 : decode cL_law 426 = .ok (.iadd, 1) := by decide +kernel
theorem dL_law_427 : decode cL_law 427 = .ok (.iaload, 1) := by decide +kernel
theorem dL_law_428 : decode cL_law 428 = .ok (.aload_n 0, 1) := by decide +kernel
theorem dL_law_429 : decode cL_law 429 = .ok (.iload_n 3, 1) := by decide +kernel
theorem dL_law_430 : decode cL_law 430 = .ok (.iconst 2, 1) := by decide +kernel
theorem dL_law_431 : decode cL_law 431 = .ok (.iadd, 1) := by decide +kernel
theorem dL_law_432 : decode cL_law 432 = .ok (.iaload, 1) := by decide +kernel
theorem dL_law_433 : decode cL_law 433 = .ok (.invokevirtual 46, 3) := by decide +kernel
theorem dL_law_436 : decode cL_law 436 = .ok (.if_icmp .eq 749, 3) := by decide +kernel
theorem dL_law_439 : decode cL_law 439 = .ok (.iconst 0, 1) := by decide +kernel
theorem dL_law_440 : decode cL_law 440 = .ok (.ireturn, 1) := by decide +kernel
theorem dL_law_441 : decode cL_law 441 = .ok (.aload_n 1, 1) := by decide +kernel
theorem dL_law_442 : decode cL_law 442 = .ok (.aload_n 0, 1) := by decide +kernel
theorem dL_law_443 : decode cL_law 443 = .ok (.iload_n 3, 1) := by decide +kernel
theorem dL_law_444 : decode cL_law 444 = .ok (.iconst 1, 1) := by decide +kernel
theorem dL_law_445 : decode cL_law 445 = .ok (.iadd, 1) := by decide +kernel
theorem dL_law_446 : decode cL_law 446 = .ok (.iaload, 1) := by decide +kernel
theorem dL_law_447 : decode cL_law 447 = .ok (.aload_n 0, 1) := by decide +kernel
theorem dL_law_448 : decode cL_law 448 = .ok (.iload_n 3, 1) := by decide +kernel
theorem dL_law_449 : decode cL_law 449 = .ok (.iconst 2, 1) := by decide +kernel
theorem dL_law_450 : decode cL_law 450 = .ok (.iadd, 1) := by decide +kernel
theorem dL_law_451 : decode cL_law 451 = .ok (.iaload, 1) := by decide +kernel
theorem dL_law_452 : decode cL_law 452 = .ok (.invokevirtual 47, 3) := by decide +kernel
theorem dL_law_455 : decode cL_law 455 = .ok (.aload_n 2, 1) := by decide +kernel
theorem dL_law_456 : decode cL_law 456 = .ok (.aload_n 0, 1) := by decide +kernel
theorem dL_law_457 : decode cL_law 457 = .ok (.iload_n 3, 1) := by decide +kernel
theorem dL_law_458 : decode cL_law 458 = .ok (.iconst 1, 1) := by decide +kernel
theorem dL_law_459 : decode cL_law 459 = .ok (.iadd, 1) := by decide +kernel
theorem dL_law_460 : decode cL_law 460 = .ok (.iaload, 1) := by decide +kernel
theorem dL_law_461 : decode cL_law 461 = .ok (.aload_n 0, 1) := by decide +kernel
theorem dL_law_462 : decode cL_law 462 = .ok (.iload_n 3, 1) := by decide +kernel
theorem dL_law_463 : decode cL_law 463 = .ok (.iconst 2, 1) := by decide +kernel
theorem dL_law_464 : decode cL_law 464 = .ok (.iadd, 1) := by decide +kernel
theorem dL_law_465 : decode cL_law 465 = .ok (.iaload, 1) := by decide +kernel
theorem dL_law_466 : decode cL_law 466 = .ok (.invokevirtual 50, 3) := by decide +kernel
theorem dL_law_469 : decode cL_law 469 = .ok (.if_icmp .eq 716, 3) := by decide +kernel
theorem dL_law_472 : decode cL_law 472 = .ok (.iconst 0, 1) := by decide +kernel
theorem dL_law_473 : decode cL_law 473 = .ok (.ireturn, 1) := by decide +kernel
theorem dL_law_474 : decode cL_law 474 = .ok (.aload_n 1, 1) := by decide +kernel
theorem dL_law_475 : decode cL_law 475 = .ok (.aload_n 0, 1) := by decide +kernel
theorem dL_law_476 : decode cL_law 476 = .ok (.iload_n 3, 1) := by decide +kernel
theorem dL_law_477 : decode cL_law 477 = .ok (.iconst 1, 1) := by decide +kernel
theorem dL_law_478 : decode cL_law 478 = .ok (.iadd, 1) := by decide +kernel
theorem dL_law_479 : decode cL_law 479 = .ok (.iaload, 1) := by decide +kernel
theorem dL_law_480 : decode cL_law 480 = .ok (.invokevirtual 51, 3) := by decide +kernel
theorem dL_law_483 : decode cL_law 483 = .ok (.aload_n 2, 1) := by decide +kernel
theorem dL_law_484 : decode cL_law 484 = .ok (.aload_n 0, 1) := by decide +kernel
theorem dL_law_485 : decode cL_law 485 = .ok (.iload_n 3, 1) := by decide +kernel
theorem dL_law_486 : decode cL_law 486 = .ok (.iconst 1, 1) := by decide +kernel
theorem dL_law_487 : decode cL_law 487 = .ok (.iadd, 1) := by decide +kernel
theorem dL_law_488 : decode cL_law 488 = .ok (.iaload, 1) := by decide +kernel
theorem dL_law_489 : decode cL_law 489 = .ok (.invokevirtual 54, 3) := by decide +kernel
theorem dL_law_492 : decode cL_law 492 = .ok (.if_icmp .eq 693, 3) := by decide +kernel
theorem dL_law_495 : decode cL_law 495 = .ok (.iconst 0, 1) := by decide +kernel
theorem dL_law_496 : decode cL_law 496 = .ok (.ireturn, 1) := by decide +kernel
theorem dL_law_497 : decode cL_law 497 = .ok (.aload_n 1, 1) := by decide +kernel
theorem dL_law_498 : decode cL_law 498 = .ok (.aload_n 0, 1) := by decide +kernel
theorem dL_law_499 : decode cL_law 499 = .ok (.iload_n 3, 1) := by decide +kernel
theorem dL_law_500 : decode cL_law 500 = .ok (.iconst 1, 1) := by decide +kernel
theorem dL_law_501 : decode cL_law 501 = .ok (.iadd, 1) := by decide +kernel
theorem dL_law_502 : decode cL_law 502 = .ok (.iaload, 1) := by decide +kernel
theorem dL_law_503 : decode cL_law 503 = .ok (.invokevirtual 55, 3) := by decide +kernel
theorem dL_law_506 : decode cL_law 506 = .ok (.aload_n 2, 1) := by decide +kernel
theorem dL_law_507 : decode cL_law 507 = .ok (.aload_n 0, 1) := by decide +kernel
theorem dL_law_508 : decode cL_law 508 = .ok (.iload_n 3, 1) := by decide +kernel
theorem dL_law_509 : decode cL_law 509 = .ok (.iconst 1, 1) := by decide +kernel
theorem dL_law_510 : decode cL_law 510 = .ok (.iadd, 1) := by decide +kernel
theorem dL_law_511 : decode cL_law 511 = .ok (.iaload, 1) := by decide +kernel
theorem dL_law_512 : decode cL_law 512 = .ok (.invokevirtual 58, 3) := by decide +kernel
theorem dL_law_515 : decode cL_law 515 = .ok (.if_icmp .eq 670, 3) := by decide +kernel
theorem dL_law_518 : decode cL_law 518 = .ok (.iconst 0, 1) := by decide +kernel
theorem dL_law_519 : decode cL_law 519 = .ok (.ireturn, 1) := by decide +kernel
theorem dL_law_520 : decode cL_law 520 = .ok (.aload_n 1, 1) := by decide +kernel
theorem dL_law_521 : decode cL_law 521 = .ok (.aload_n 0, 1) := by decide +kernel
theorem dL_law_522 : decode cL_law 522 = .ok (.iload_n 3, 1) := by decide +kernel
theorem dL_law_523 : decode cL_law 523 = .ok (.iconst 1, 1) := by decide +kernel
theorem dL_law_524 : decode cL_law 524 = .ok (.iadd, 1) := by decide +kernel
theorem dL_law_525 : decode cL_law 525 = .ok (.iaload, 1) := by decide +kernel
theorem dL_law_526 : decode cL_law 526 = .ok (.aload_n 0, 1) := by decide +kernel
theorem dL_law_527 : decode cL_law 527 = .ok (.iload_n 3, 1) := by decide +kernel
theorem dL_law_528 : decode cL_law 528 = .ok (.iconst 2, 1) := by decide +kernel
theorem dL_law_529 : decode cL_law 529 = .ok (.iadd, 1) := by decide +kernel
theorem dL_law_530 : decode cL_law 530 = .ok (.iaload, 1) := by decide +kernel
theorem dL_law_531 : decode cL_law 531 = .ok (.aload_n 0, 1) := by decide +kernel
theorem dL_law_532 : decode cL_law 532 = .ok (.iload_n 3, 1) := by decide +kernel
theorem dL_law_533 : decode cL_law 533 = .ok (.iconst 3, 1) := by decide +kernel
theorem dL_law_534 : decode cL_law 534 = .ok (.iadd, 1) := by decide +kernel
theorem dL_law_535 : decode cL_law 535 = .ok (.iaload, 1) := by decide +kernel
theorem dL_law_536 : decode cL_law 536 = .ok (.invokevirtual 59, 3) := by decide +kernel
theorem dL_law_539 : decode cL_law 539 = .ok (.aload_n 2, 1) := by decide +kernel
theorem dL_law_540 : decode cL_law 540 = .ok (.aload_n 0, 1) := by decide +kernel
theorem dL_law_541 : decode cL_law 541 = .ok (.iload_n 3, 1) := by decide +kernel
theorem dL_law_542 : decode cL_law 542 = .ok (.iconst 1, 1) := by decide +kernel
theorem dL_law_543 : decode cL_law 543 = .ok (.iadd, 1) := by decide +kernel
theorem dL_law_544 : decode cL_law 544 = .ok (.iaload, 1) := by decide +kernel
theorem dL_law_545 : decode cL_law 545 = .ok (.aload_n 0, 1) := by decide +kernel
theorem dL_law_546 : decode cL_law 546 = .ok (.iload_n 3, 1) := by decide +kernel
theorem dL_law_547 : decode cL_law 547 = .ok (.iconst 2, 1) := by decide +kernel
theorem dL_law_548 : decode cL_law 548 = .ok (.iadd, 1) := by decide +kernel
theorem dL_law_549 : decode cL_law 549 = .ok (.iaload, 1) := by decide +kernel
theorem dL_law_550 : decode cL_law 550 = .ok (.aload_n 0, 1) := by decide +kernel
theorem dL_law_551 : decode cL_law 551 = .ok (.iload_n 3, 1) := by decide +kernel
theorem dL_law_552 : decode cL_law 552 = .ok (.iconst 3, 1) := by decide +kernel
theorem dL_law_553 : decode cL_law 553 = .ok (.iadd, 1) := by decide +kernel
theorem dL_law_554 : decode cL_law 554 = .ok (.iaload, 1) := by decide +kernel
theorem dL_law_555 : decode cL_law 555 = .ok (.invokevirtual 62, 3) := by decide +kernel
theorem dL_law_558 : decode cL_law 558 = .ok (.if_icmp .eq 627, 3) := by decide +kernel
theorem dL_law_561 : decode cL_law 561 = .ok (.iconst 0, 1) := by decide +kernel
theorem dL_law_562 : decode cL_law 562 = .ok (.ireturn, 1) := by decide +kernel
theorem dL_law_563 : decode cL_law 563 = .ok (.aload_n 1, 1) := by decide +kernel
theorem dL_law_564 : decode cL_law 564 = .ok (.aload_n 0, 1) := by decide +kernel
theorem dL_law_565 : decode cL_law 565 = .ok (.iload_n 3, 1) := by decide +kernel
theorem dL_law_566 : decode cL_law 566 = .ok (.iconst 1, 1) := by decide +kernel
theorem dL_law_567 : decode cL_law 567 = .ok (.iadd, 1) := by decide +kernel
theorem dL_law_568 : decode cL_law 568 = .ok (.iaload, 1) := by decide +kernel
theorem dL_law_569 : decode cL_law 569 = .ok (.aload_n 0, 1) := by decide +kernel
theorem dL_law_570 : decode cL_law 570 = .ok (.iload_n 3, 1) := by decide +kernel
theorem dL_law_571 : decode cL_law 571 = .ok (.iconst 2, 1) := by decide +kernel
theorem dL_law_572 : decode cL_law 572 = .ok (.iadd, 1) := by decide +kernel
theorem dL_law_573 : decode cL_law 573 = .ok (.iaload, 1) := by decide +kernel
theorem dL_law_574 : decode cL_law 574 = .ok (.invokevirtual 63, 3) := by decide +kernel
theorem dL_law_577 : decode cL_law 577 = .ok (.aload_n 2, 1) := by decide +kernel
theorem dL_law_578 : decode cL_law 578 = .ok (.aload_n 0, 1) := by decide +kernel
theorem dL_law_579 : decode cL_law 579 = .ok (.iload_n 3, 1) := by decide +kernel
theorem dL_law_580 : decode cL_law 580 = .ok (.iconst 1, 1) := by decide +kernel
theorem dL_law_581 : decode cL_law 581 = .ok (.iadd, 1) := by decide +kernel
theorem dL_law_582 : decode cL_law 582 = .ok (.iaload, 1) := by decide +kernel
theorem dL_law_583 : decode cL_law 583 = .ok (.aload_n 0, 1) := by decide +kernel
theorem dL_law_584 : decode cL_law 584 = .ok (.iload_n 3, 1) := by decide +kernel
theorem dL_law_585 : decode cL_law 585 = .ok (.iconst 2, 1) := by decide +kernel
theorem dL_law_586 : decode cL_law 586 = .ok (.iadd, 1) := by decide +kernel
theorem dL_law_587 : decode cL_law 587 = .ok (.iaload, 1) := by decide +kernel
theorem dL_law_588 : decode cL_law 588 = .ok (.invokevirtual 66, 3) := by decide +kernel
theorem dL_law_591 : decode cL_law 591 = .ok (.if_icmp .eq 594, 3) := by decide +kernel
theorem dL_law_594 : decode cL_law 594 = .ok (.iconst 0, 1) := by decide +kernel
theorem dL_law_595 : decode cL_law 595 = .ok (.ireturn, 1) := by decide +kernel
theorem dL_law_596 : decode cL_law 596 = .ok (.aload_n 1, 1) := by decide +kernel
theorem dL_law_597 : decode cL_law 597 = .ok (.aload_n 0, 1) := by decide +kernel
theorem dL_law_598 : decode cL_law 598 = .ok (.iload_n 3, 1) := by decide +kernel
theorem dL_law_599 : decode cL_law 599 = .ok (.iconst 1, 1) := by decide +kernel
theorem dL_law_600 : decode cL_law 600 = .ok (.iadd, 1) := by decide +kernel
theorem dL_law_601 : decode cL_law 601 = .ok (.iaload, 1) := by decide +kernel
theorem dL_law_602 : decode cL_law 602 = .ok (.invokevirtual 67, 3) := by decide +kernel
theorem dL_law_605 : decode cL_law 605 = .ok (.aload_n 2, 1) := by decide +kernel
theorem dL_law_606 : decode cL_law 606 = .ok (.aload_n 0, 1) := by decide +kernel
theorem dL_law_607 : decode cL_law 607 = .ok (.iload_n 3, 1) := by decide +kernel
theorem dL_law_608 : decode cL_law 608 = .ok (.iconst 1, 1) := by decide +kernel
theorem dL_law_609 : decode cL_law 609 = .ok (.iadd, 1) := by decide +kernel
theorem dL_law_610 : decode cL_law 610 = .ok (.iaload, 1) := by decide +kernel
theorem dL_law_611 : decode cL_law 611 = .ok (.invokevirtual 70, 3) := by decide +kernel
theorem dL_law_614 : decode cL_law 614 = .ok (.if_icmp .eq 571, 3) := by decide +kernel
theorem dL_law_617 : decode cL_law 617 = .ok (.iconst 0, 1) := by decide +kernel
theorem dL_law_618 : decode cL_law 618 = .ok (.ireturn, 1) := by decide +kernel
theorem dL_law_619 : decode cL_law 619 = .ok (.aload_n 1, 1) := by decide +kernel
theorem dL_law_620 : decode cL_law 620 = .ok (.aload_n 0, 1) := by decide +kernel
theorem dL_law_621 : decode cL_law 621 = .ok (.iload_n 3, 1) := by decide +kernel
theorem dL_law_622 : decode cL_law 622 = .ok (.iconst 1, 1) := by decide +kernel
theorem dL_law_623 : decode cL_law 623 = .ok (.iadd, 1) := by decide +kernel
theorem dL_law_624 : decode cL_law 624 = .ok (.iaload, 1) := by decide +kernel
theorem dL_law_625 : decode cL_law 625 = .ok (.aload_n 0, 1) := by decide +kernel
theorem dL_law_626 : decode cL_law 626 = .ok (.iload_n 3, 1) := by decide +kernel
theorem dL_law_627 : decode cL_law 627 = .ok (.iconst 2, 1) := by decide +kernel
theorem dL_law_628 : decode cL_law 628 = .ok (.iadd, 1) := by decide +kernel
theorem dL_law_629 : decode cL_law 629 = .ok (.iaload, 1) := by decide +kernel
theorem dL_law_630 : decode cL_law 630 = .ok (.aload_n 0, 1) := by decide +kernel
theorem dL_law_631 : decode cL_law 631 = .ok (.iload_n 3, 1) := by decide +kernel
theorem dL_law_632 : decode cL_law 632 = .ok (.iconst 3, 1) := by decide +kernel
theorem dL_law_633 : decode cL_law 633 = .ok (.iadd, 1) := by decide +kernel
theorem dL_law_634 : decode cL_law 634 = .ok (.iaload, 1) := by decide +kernel
theorem dL_law_635 : decode cL_law 635 = .ok (.invokevirtual 71, 3) := by decide +kernel
theorem dL_law_638 : decode cL_law 638 = .ok (.aload_n 2, 1) := by decide +kernel
theorem dL_law_639 : decode cL_law 639 = .ok (.aload_n 0, 1) := by decide +kernel
theorem dL_law_640 : decode cL_law 640 = .ok (.iload_n 3, 1) := by decide +kernel
theorem dL_law_641 : decode cL_law 641 = .ok (.iconst 1, 1) := by decide +kernel
theorem dL_law_642 : decode cL_law 642 = .ok (.iadd, 1) := by decide +kernel
theorem dL_law_643 : decode cL_law 643 = .ok (.iaload, 1) := by decide +kernel
theorem dL_law_644 : decode cL_law 644 = .ok (.aload_n 0, 1) := by decide +kernel
theorem dL_law_645 : decode cL_law 645 = .ok (.iload_n 3, 1) := by decide +kernel
theorem dL_law_646 : decode cL_law 646 = .ok (.iconst 2, 1) := by decide +kernel
theorem dL_law_647 : decode cL_law 647 = .ok (.iadd, 1) := by decide +kernel
theorem dL_law_648 : decode cL_law 648 = .ok (.iaload, 1) := by decide +kernel
theorem dL_law_649 : decode cL_law 649 = .ok (.aload_n 0, 1) := by decide +kernel
theorem dL_law_650 : decode cL_law 650 = .ok (.iload_n 3, 1) := by decide +kernel
theorem dL_law_651 : decode cL_law 651 = .ok (.iconst 3, 1) := by decide +kernel
theorem dL_law_652 : decode cL_law 652 = .ok (.iadd, 1) := by decide +kernel
theorem dL_law_653 : decode cL_law 653 = .ok (.iaload, 1) := by decide +kernel
theorem dL_law_654 : decode cL_law 654 = .ok (.invokevirtual 74, 3) := by decide +kernel
theorem dL_law_657 : decode cL_law 657 = .ok (.if_icmp .eq 528, 3) := by decide +kernel
theorem dL_law_660 : decode cL_law 660 = .ok (.iconst 0, 1) := by decide +kernel
theorem dL_law_661 : decode cL_law 661 = .ok (.ireturn, 1) := by decide +kernel
theorem dL_law_662 : decode cL_law 662 = .ok (.aload_n 1, 1) := by decide +kernel
theorem dL_law_663 : decode cL_law 663 = .ok (.aload_n 0, 1) := by decide +kernel
theorem dL_law_664 : decode cL_law 664 = .ok (.iload_n 3, 1) := by decide +kernel
theorem dL_law_665 : decode cL_law 665 = .ok (.iconst 1, 1) := by decide +kernel
theorem dL_law_666 : decode cL_law 666 = .ok (.iadd, 1) := by decide +kernel
theorem dL_law_667 : decode cL_law 667 = .ok (.iaload, 1) := by decide +kernel
theorem dL_law_668 : decode cL_law 668 = .ok (.aload_n 0, 1) := by decide +kernel
theorem dL_law_669 : decode cL_law 669 = .ok (.iload_n 3, 1) := by decide +kernel
theorem dL_law_670 : decode cL_law 670 = .ok (.iconst 2, 1) := by decide +kernel
theorem dL_law_671 : decode cL_law 671 = .ok (.iadd, 1) := by decide +kernel
theorem dL_law_672 : decode cL_law 672 = .ok (.iaload, 1) := by decide +kernel
theorem dL_law_673 : decode cL_law 673 = .ok (.aload_n 0, 1) := by decide +kernel
theorem dL_law_674 : decode cL_law 674 = .ok (.iload_n 3, 1) := by decide +kernel
theorem dL_law_675 : decode cL_law 675 = .ok (.iconst 3, 1) := by decide +kernel
theorem dL_law_676 : decode cL_law 676 = .ok (.iadd, 1) := by decide +kernel
theorem dL_law_677 : decode cL_law 677 = .ok (.iaload, 1) := by decide +kernel
theorem dL_law_678 : decode cL_law 678 = .ok (.invokevirtual 75, 3) := by decide +kernel
theorem dL_law_681 : decode cL_law 681 = .ok (.aload_n 2, 1) := by decide +kernel
theorem dL_law_682 : decode cL_law 682 = .ok (.aload_n 0, 1) := by decide +kernel
theorem dL_law_683 : decode cL_law 683 = .ok (.iload_n 3, 1) := by decide +kernel
theorem dL_law_684 : decode cL_law 684 = .ok (.iconst 1, 1) := by decide +kernel
theorem dL_law_685 : decode cL_law 685 = .ok (.iadd, 1) := by decide +kernel
theorem dL_law_686 : decode cL_law 686 = .ok (.iaload, 1) := by decide +kernel
theorem dL_law_687 : decode cL_law 687 = .ok (.aload_n 0, 1) := by decide +kernel
theorem dL_law_688 : decode cL_law 688 = .ok (.iload_n 3, 1) := by decide +kernel
theorem dL_law_689 : decode cL_law 689 = .ok (.iconst 2, 1) := by decide +kernel
theorem dL_law_690 : decode cL_law 690 = .ok (.iadd, 1) := by decide +kernel
theorem dL_law_691 : decode cL_law 691 = .ok (.iaload, 1) := by decide +kernel
theorem dL_law_692 : decode cL_law 692 = .ok (.aload_n 0, 1) := by decide +kernel
theorem dL_law_693 : decode cL_law 693 = .ok (.iload_n 3, 1) := by decide +kernel
theorem dL_law_694 : decode cL_law 694 = .ok (.iconst 3, 1) := by decide +kernel
theorem dL_law_695 : decode cL_law 695 = .ok (.iadd, 1) := by decide +kernel
theorem dL_law_696 : decode cL_law 696 = .ok (.iaload, 1) := by decide +kernel
theorem dL_law_697 : decode cL_law 697 = .ok (.invokevirtual 78, 3) := by decide +kernel
theorem dL_law_700 : decode cL_law 700 = .ok (.if_icmp .eq 485, 3) := by decide +kernel
theorem dL_law_703 : decode cL_law 703 = .ok (.iconst 0, 1) := by decide +kernel
theorem dL_law_704 : decode cL_law 704 = .ok (.ireturn, 1) := by decide +kernel
theorem dL_law_705 : decode cL_law 705 = .ok (.aload_n 1, 1) := by decide +kernel
theorem dL_law_706 : decode cL_law 706 = .ok (.aload_n 0, 1) := by decide +kernel
theorem dL_law_707 : decode cL_law 707 = .ok (.iload_n 3, 1) := by decide +kernel
theorem dL_law_708 : decode cL_law 708 = .ok (.iconst 1, 1) := by decide +kernel
theorem dL_law_709 : decode cL_law 709 = .ok (.iadd, 1) := by decide +kernel
theorem dL_law_710 : decode cL_law 710 = .ok (.iaload, 1) := by decide +kernel
theorem dL_law_711 : decode cL_law 711 = .ok (.invokevirtual 79, 3) := by decide +kernel
theorem dL_law_714 : decode cL_law 714 = .ok (.aload_n 2, 1) := by decide +kernel
theorem dL_law_715 : decode cL_law 715 = .ok (.aload_n 0, 1) := by decide +kernel
theorem dL_law_716 : decode cL_law 716 = .ok (.iload_n 3, 1) := by decide +kernel
theorem dL_law_717 : decode cL_law 717 = .ok (.iconst 1, 1) := by decide +kernel
theorem dL_law_718 : decode cL_law 718 = .ok (.iadd, 1) := by decide +kernel
theorem dL_law_719 : decode cL_law 719 = .ok (.iaload, 1) := by decide +kernel
theorem dL_law_720 : decode cL_law 720 = .ok (.invokevirtual 82, 3) := by decide +kernel
theorem dL_law_723 : decode cL_law 723 = .ok (.if_icmp .eq 462, 3) := by decide +kernel
theorem dL_law_726 : decode cL_law 726 = .ok (.iconst 0, 1) := by decide +kernel
theorem dL_law_727 : decode cL_law 727 = .ok (.ireturn, 1) := by decide +kernel
theorem dL_law_728 : decode cL_law 728 = .ok (.aload_n 1, 1) := by decide +kernel
theorem dL_law_729 : decode cL_law 729 = .ok (.aload_n 0, 1) := by decide +kernel
theorem dL_law_730 : decode cL_law 730 = .ok (.iload_n 3, 1) := by decide +kernel
theorem dL_law_731 : decode cL_law 731 = .ok (.iconst 1, 1) := by decide +kernel
theorem dL_law_732 : decode cL_law 732 = .ok (.iadd, 1) := by decide +kernel
theorem dL_law_733 : decode cL_law 733 = .ok (.iaload, 1) := by decide +kernel
theorem dL_law_734 : decode cL_law 734 = .ok (.aload_n 0, 1) := by decide +kernel
theorem dL_law_735 : decode cL_law 735 = .ok (.iload_n 3, 1) := by decide +kernel
theorem dL_law_736 : decode cL_law 736 = .ok (.iconst 2, 1) := by decide +kernel
theorem dL_law_737 : decode cL_law 737 = .ok (.iadd, 1) := by decide +kernel
theorem dL_law_738 : decode cL_law 738 = .ok (.iaload, 1) := by decide +kernel
theorem dL_law_739 : decode cL_law 739 = .ok (.aload_n 0, 1) := by decide +kernel
theorem dL_law_740 : decode cL_law 740 = .ok (.iload_n 3, 1) := by decide +kernel
theorem dL_law_741 : decode cL_law 741 = .ok (.iconst 3, 1) := by decide +kernel
theorem dL_law_742 : decode cL_law 742 = .ok (.iadd, 1) := by decide +kernel
theorem dL_law_743 : decode cL_law 743 = .ok (.iaload, 1) := by decide +kernel
theorem dL_law_744 : decode cL_law 744 = .ok (.invokevirtual 83, 3) := by decide +kernel
theorem dL_law_747 : decode cL_law 747 = .ok (.aload_n 2, 1) := by decide +kernel
theorem dL_law_748 : decode cL_law 748 = .ok (.aload_n 0, 1) := by decide +kernel
theorem dL_law_749 : decode cL_law 749 = .ok (.iload_n 3, 1) := by decide +kernel
theorem dL_law_750 : decode cL_law 750 = .ok (.iconst 1, 1) := by decide +kernel
theorem dL_law_751 : decode cL_law 751 = .ok (.iadd, 1) := by decide +kernel
theorem dL_law_752 : decode cL_law 752 = .ok (.iaload, 1) := by decide +kernel
theorem dL_law_753 : decode cL_law 753 = .ok (.aload_n 0, 1) := by decide +kernel
theorem dL_law_754 : decode cL_law 754 = .ok (.iload_n 3, 1) := by decide +kernel
theorem dL_law_755 : decode cL_law 755 = .ok (.iconst 2, 1) := by decide +kernel
theorem dL_law_756 : decode cL_law 756 = .ok (.iadd, 1) := by decide +kernel
theorem dL_law_757 : decode cL_law 757 = .ok (.iaload, 1) := by decide +kernel
theorem dL_law_758 : decode cL_law 758 = .ok (.aload_n 0, 1) := by decide +kernel
theorem dL_law_759 : decode cL_law 759 = .ok (.iload_n 3, 1) := by decide +kernel
theorem dL_law_760 : decode cL_law 760 = .ok (.iconst 3, 1) := by decide +kernel
theorem dL_law_761 : decode cL_law 761 = .ok (.iadd, 1) := by decide +kernel
theorem dL_law_762 : decode cL_law 762 = .ok (.iaload, 1) := by decide +kernel
theorem dL_law_763 : decode cL_law 763 = .ok (.invokevirtual 86, 3) := by decide +kernel
theorem dL_law_766 : decode cL_law 766 = .ok (.if_icmp .eq 419, 3) := by decide +kernel
theorem dL_law_769 : decode cL_law 769 = .ok (.iconst 0, 1) := by decide +kernel
theorem dL_law_770 : decode cL_law 770 = .ok (.ireturn, 1) := by decide +kernel
theorem dL_law_771 : decode cL_law 771 = .ok (.aload_n 1, 1) := by decide +kernel
theorem dL_law_772 : decode cL_law 772 = .ok (.aload_n 0, 1) := by decide +kernel
theorem dL_law_773 : decode cL_law 773 = .ok (.iload_n 3, 1) := by decide +kernel
theorem dL_law_774 : decode cL_law 774 = .ok (.iconst 1, 1) := by decide +kernel
theorem dL_law_775 : decode cL_law 775 = .ok (.iadd, 1) := by decide +kernel
theorem dL_law_776 : decode cL_law 776 = .ok (.iaload, 1) := by decide +kernel
theorem dL_law_777 : decode cL_law 777 = .ok (.aload_n 0, 1) := by decide +kernel
theorem dL_law_778 : decode cL_law 778 = .ok (.iload_n 3, 1) := by decide +kernel
theorem dL_law_779 : decode cL_law 779 = .ok (.iconst 2, 1) := by decide +kernel
theorem dL_law_780 : decode cL_law 780 = .ok (.iadd, 1) := by decide +kernel
theorem dL_law_781 : decode cL_law 781 = .ok (.iaload, 1) := by decide +kernel
theorem dL_law_782 : decode cL_law 782 = .ok (.aload_n 0, 1) := by decide +kernel
theorem dL_law_783 : decode cL_law 783 = .ok (.iload_n 3, 1) := by decide +kernel
theorem dL_law_784 : decode cL_law 784 = .ok (.iconst 3, 1) := by decide +kernel
theorem dL_law_785 : decode cL_law 785 = .ok (.iadd, 1) := by decide +kernel
theorem dL_law_786 : decode cL_law 786 = .ok (.iaload, 1) := by decide +kernel
theorem dL_law_787 : decode cL_law 787 = .ok (.invokevirtual 87, 3) := by decide +kernel
theorem dL_law_790 : decode cL_law 790 = .ok (.aload_n 2, 1) := by decide +kernel
theorem dL_law_791 : decode cL_law 791 = .ok (.aload_n 0, 1) := by decide +kernel
theorem dL_law_792 : decode cL_law 792 = .ok (.iload_n 3, 1) := by decide +kernel
theorem dL_law_793 : decode cL_law 793 = .ok (.iconst 1, 1) := by decide +kernel
theorem dL_law_794 : decode cL_law 794 = .ok (.iadd, 1) := by decide +kernel
theorem dL_law_795 : decode cL_law 795 = .ok (.iaload, 1) := by decide +kernel
theorem dL_law_796 : decode cL_law 796 = .ok (.aload_n 0, 1) := by decide +kernel
theorem dL_law_797 : decode cL_law 797 = .ok (.iload_n 3, 1) := by decide +kernel
theorem dL_law_798 : decode cL_law 798 = .ok (.iconst 2, 1) := by decide +kernel
theorem dL_law_799 : decode cL_law 799 = .ok (.iadd, 1) := by decide +kernel
theorem dL_law_800 : decode cL_law 800 = .ok (.iaload, 1) := by decide +kernel
theorem dL_law_801 : decode cL_law 801 = .ok (.aload_n 0, 1) := by decide +kernel
theorem dL_law_802 : decode cL_law 802 = .ok (.iload_n 3, 1) := by decide +kernel
theorem dL_law_803 : decode cL_law 803 = .ok (.iconst 3, 1) := by decide +kernel
theorem dL_law_804 : decode cL_law 804 = .ok (.iadd, 1) := by decide +kernel
theorem dL_law_805 : decode cL_law 805 = .ok (.iaload, 1) := by decide +kernel
theorem dL_law_806 : decode cL_law 806 = .ok (.invokevirtual 90, 3) := by decide +kernel
theorem dL_law_809 : decode cL_law 809 = .ok (.if_icmp .eq 376, 3) := by decide +kernel
theorem dL_law_812 : decode cL_law 812 = .ok (.iconst 0, 1) := by decide +kernel
theorem dL_law_813 : decode cL_law 813 = .ok (.ireturn, 1) := by decide +kernel
theorem dL_law_814 : decode cL_law 814 = .ok (.aload_n 1, 1) := by decide +kernel
theorem dL_law_815 : decode cL_law 815 = .ok (.aload_n 0, 1) := by decide +kernel
theorem dL_law_816 : decode cL_law 816 = .ok (.iload_n 3, 1) := by decide +kernel
theorem dL_law_817 : decode cL_law 817 = .ok (.iconst 1, 1) := by decide +kernel
theorem dL_law_818 : decode cL_law 818 = .ok (.iadd, 1) := by decide +kernel
theorem dL_law_819 : decode cL_law 819 = .ok (.iaload, 1) := by decide +kernel
theorem dL_law_820 : decode cL_law 820 = .ok (.invokevirtual 91, 3) := by decide +kernel
theorem dL_law_823 : decode cL_law 823 = .ok (.aload_n 2, 1) := by decide +kernel
theorem dL_law_824 : decode cL_law 824 = .ok (.aload_n 0, 1) := by decide +kernel
theorem dL_law_825 : decode cL_law 825 = .ok (.iload_n 3, 1) := by decide +kernel
theorem dL_law_826 : decode cL_law 826 = .ok (.iconst 1, 1) := by decide +kernel
theorem dL_law_827 : decode cL_law 827 = .ok (.iadd, 1) := by decide +kernel
theorem dL_law_828 : decode cL_law 828 = .ok (.iaload, 1) := by decide +kernel
theorem dL_law_829 : decode cL_law 829 = .ok (.invokevirtual 94, 3) := by decide +kernel
theorem dL_law_832 : decode cL_law 832 = .ok (.if_icmp .eq 353, 3) := by decide +kernel
theorem dL_law_835 : decode cL_law 835 = .ok (.iconst 0, 1) := by decide +kernel
theorem dL_law_836 : decode cL_law 836 = .ok (.ireturn, 1) := by decide +kernel
theorem dL_law_837 : decode cL_law 837 = .ok (.aload_n 1, 1) := by decide +kernel
theorem dL_law_838 : decode cL_law 838 = .ok (.aload_n 0, 1) := by decide +kernel
theorem dL_law_839 : decode cL_law 839 = .ok (.iload_n 3, 1) := by decide +kernel
theorem dL_law_840 : decode cL_law 840 = .ok (.iconst 1, 1) := by decide +kernel
theorem dL_law_841 : decode cL_law 841 = .ok (.iadd, 1) := by decide +kernel
theorem dL_law_842 : decode cL_law 842 = .ok (.iaload, 1) := by decide +kernel
theorem dL_law_843 : decode cL_law 843 = .ok (.aload_n 0, 1) := by decide +kernel
theorem dL_law_844 : decode cL_law 844 = .ok (.iload_n 3, 1) := by decide +kernel
theorem dL_law_845 : decode cL_law 845 = .ok (.iconst 2, 1) := by decide +kernel
theorem dL_law_846 : decode cL_law 846 = .ok (.iadd, 1) := by decide +kernel
theorem dL_law_847 : decode cL_law 847 = .ok (.iaload, 1) := by decide +kernel
theorem dL_law_848 : decode cL_law 848 = .ok (.invokevirtual 95, 3) := by decide +kernel
theorem dL_law_851 : decode cL_law 851 = .ok (.aload_n 2, 1) := by decide +kernel
theorem dL_law_852 : decode cL_law 852 = .ok (.aload_n 0, 1) := by decide +kernel
theorem dL_law_853 : decode cL_law 853 = .ok (.iload_n 3, 1) := by decide +kernel
theorem dL_law_854 : decode cL_law 854 = .ok (.iconst 1, 1) := by decide +kernel
theorem dL_law_855 : decode cL_law 855 = .ok (.iadd, 1) := by decide +kernel
theorem dL_law_856 : decode cL_law 856 = .ok (.iaload, 1) := by decide +kernel
theorem dL_law_857 : decode cL_law 857 = .ok (.aload_n 0, 1) := by decide +kernel
theorem dL_law_858 : decode cL_law 858 = .ok (.iload_n 3, 1) := by decide +kernel
theorem dL_law_859 : decode cL_law 859 = .ok (.iconst 2, 1) := by decide +kernel
theorem dL_law_860 : decode cL_law 860 = .ok (.iadd, 1) := by decide +kernel
theorem dL_law_861 : decode cL_law 861 = .ok (.iaload, 1) := by decide +kernel
theorem dL_law_862 : decode cL_law 862 = .ok (.invokevirtual 98, 3) := by decide +kernel
theorem dL_law_865 : decode cL_law 865 = .ok (.if_icmp .eq 320, 3) := by decide +kernel
theorem dL_law_868 : decode cL_law 868 = .ok (.iconst 0, 1) := by decide +kernel
theorem dL_law_869 : decode cL_law 869 = .ok (.ireturn, 1) := by decide +kernel
theorem dL_law_870 : decode cL_law 870 = .ok (.aload_n 1, 1) := by decide +kernel
theorem dL_law_871 : decode cL_law 871 = .ok (.aload_n 0, 1) := by decide +kernel
theorem dL_law_872 : decode cL_law 872 = .ok (.iload_n 3, 1) := by decide +kernel
theorem dL_law_873 : decode cL_law 873 = .ok (.iconst 1, 1) := by decide +kernel
theorem dL_law_874 : decode cL_law 874 = .ok (.iadd, 1) := by decide +kernel
theorem dL_law_875 : decode cL_law 875 = .ok (.iaload, 1) := by decide +kernel
theorem dL_law_876 : decode cL_law 876 = .ok (.invokevirtual 99, 3) := by decide +kernel
theorem dL_law_879 : decode cL_law 879 = .ok (.aload_n 2, 1) := by decide +kernel
theorem dL_law_880 : decode cL_law 880 = .ok (.aload_n 0, 1) := by decide +kernel
theorem dL_law_881 : decode cL_law 881 = .ok (.iload_n 3, 1) := by decide +kernel
theorem dL_law_882 : decode cL_law 882 = .ok (.iconst 1, 1) := by decide +kernel
theorem dL_law_883 : decode cL_law 883 = .ok (.iadd, 1) := by decide +kernel
theorem dL_law_884 : decode cL_law 884 = .ok (.iaload, 1) := by decide +kernel
theorem dL_law_885 : decode cL_law 885 = .ok (.invokevirtual 102, 3) := by decide +kernel
theorem dL_law_888 : decode cL_law 888 = .ok (.if_icmp .eq 297, 3) := by decide +kernel
theorem dL_law_891 : decode cL_law 891 = .ok (.iconst 0, 1) := by decide +kernel
theorem dL_law_892 : decode cL_law 892 = .ok (.ireturn, 1) := by decide +kernel
theorem dL_law_893 : decode cL_law 893 = .ok (.aload_n 1, 1) := by decide +kernel
theorem dL_law_894 : decode cL_law 894 = .ok (.aload_n 0, 1) := by decide +kernel
theorem dL_law_895 : decode cL_law 895 = .ok (.iload_n 3, 1) := by decide +kernel
theorem dL_law_896 : decode cL_law 896 = .ok (.iconst 1, 1) := by decide +kernel
theorem dL_law_897 : decode cL_law 897 = .ok (.iadd, 1) := by decide +kernel
theorem dL_law_898 : decode cL_law 898 = .ok (.iaload, 1) := by decide +kernel
theorem dL_law_899 : decode cL_law 899 = .ok (.aload_n 0, 1) := by decide +kernel
theorem dL_law_900 : decode cL_law 900 = .ok (.iload_n 3, 1) := by decide +kernel
theorem dL_law_901 : decode cL_law 901 = .ok (.iconst 2, 1) := by decide +kernel
theorem dL_law_902 : decode cL_law 902 = .ok (.iadd, 1) := by decide +kernel
theorem dL_law_903 : decode cL_law 903 = .ok (.iaload, 1) := by decide +kernel
theorem dL_law_904 : decode cL_law 904 = .ok (.invokevirtual 103, 3) := by decide +kernel
theorem dL_law_907 : decode cL_law 907 = .ok (.aload_n 2, 1) := by decide +kernel
theorem dL_law_908 : decode cL_law 908 = .ok (.aload_n 0, 1) := by decide +kernel
theorem dL_law_909 : decode cL_law 909 = .ok (.iload_n 3, 1) := by decide +kernel
theorem dL_law_910 : decode cL_law 910 = .ok (.iconst 1, 1) := by decide +kernel
theorem dL_law_911 : decode cL_law 911 = .ok (.iadd, 1) := by decide +kernel
theorem dL_law_912 : decode cL_law 912 = .ok (.iaload, 1) := by decide +kernel
theorem dL_law_913 : decode cL_law 913 = .ok (.aload_n 0, 1) := by decide +kernel
theorem dL_law_914 : decode cL_law 914 = .ok (.iload_n 3, 1) := by decide +kernel
theorem dL_law_915 : decode cL_law 915 = .ok (.iconst 2, 1) := by decide +kernel
theorem dL_law_916 : decode cL_law 916 = .ok (.iadd, 1) := by decide +kernel
theorem dL_law_917 : decode cL_law 917 = .ok (.iaload, 1) := by decide +kernel
theorem dL_law_918 : decode cL_law 918 = .ok (.invokevirtual 106, 3) := by decide +kernel
theorem dL_law_921 : decode cL_law 921 = .ok (.if_icmp .eq 264, 3) := by decide +kernel
theorem dL_law_924 : decode cL_law 924 = .ok (.iconst 0, 1) := by decide +kernel
theorem dL_law_925 : decode cL_law 925 = .ok (.ireturn, 1) := by decide +kernel
theorem dL_law_926 : decode cL_law 926 = .ok (.aload_n 1, 1) := by decide +kernel
theorem dL_law_927 : decode cL_law 927 = .ok (.aload_n 0, 1) := by decide +kernel
theorem dL_law_928 : decode cL_law 928 = .ok (.iload_n 3, 1) := by decide +kernel
theorem dL_law_929 : decode cL_law 929 = .ok (.iconst 1, 1) := by decide +kernel
theorem dL_law_930 : decode cL_law 930 = .ok (.iadd, 1) := by decide +kernel
theorem dL_law_931 : decode cL_law 931 = .ok (.iaload, 1) := by decide +kernel
theorem dL_law_932 : decode cL_law 932 = .ok (.invokevirtual 107, 3) := by decide +kernel
theorem dL_law_935 : decode cL_law 935 = .ok (.aload_n 2, 1) := by decide +kernel
theorem dL_law_936 : decode cL_law 936 = .ok (.aload_n 0, 1) := by decide +kernel
theorem dL_law_937 : decode cL_law 937 = .ok (.iload_n 3, 1) := by decide +kernel
theorem dL_law_938 : decode cL_law 938 = .ok (.iconst 1, 1) := by decide +kernel
theorem dL_law_939 : decode cL_law 939 = .ok (.iadd, 1) := by decide +kernel
theorem dL_law_940 : decode cL_law 940 = .ok (.iaload, 1) := by decide +kernel
theorem dL_law_941 : decode cL_law 941 = .ok (.invokevirtual 110, 3) := by decide +kernel
theorem dL_law_944 : decode cL_law 944 = .ok (.if_icmp .eq 241, 3) := by decide +kernel
theorem dL_law_947 : decode cL_law 947 = .ok (.iconst 0, 1) := by decide +kernel
theorem dL_law_948 : decode cL_law 948 = .ok (.ireturn, 1) := by decide +kernel
theorem dL_law_949 : decode cL_law 949 = .ok (.aload_n 1, 1) := by decide +kernel
theorem dL_law_950 : decode cL_law 950 = .ok (.aload_n 0, 1) := by decide +kernel
theorem dL_law_951 : decode cL_law 951 = .ok (.iload_n 3, 1) := by decide +kernel
theorem dL_law_952 : decode cL_law 952 = .ok (.iconst 1, 1) := by decide +kernel
theorem dL_law_953 : decode cL_law 953 = .ok (.iadd, 1) := by decide +kernel
theorem dL_law_954 : decode cL_law 954 = .ok (.iaload, 1) := by decide +kernel
theorem dL_law_955 : decode cL_law 955 = .ok (.invokevirtual 111, 3) := by decide +kernel
theorem dL_law_958 : decode cL_law 958 = .ok (.aload_n 2, 1) := by decide +kernel
theorem dL_law_959 : decode cL_law 959 = .ok (.aload_n 0, 1) := by decide +kernel
theorem dL_law_960 : decode cL_law 960 = .ok (.iload_n 3, 1) := by decide +kernel
theorem dL_law_961 : decode cL_law 961 = .ok (.iconst 1, 1) := by decide +kernel
theorem dL_law_962 : decode cL_law 962 = .ok (.iadd, 1) := by decide +kernel
theorem dL_law_963 : decode cL_law 963 = .ok (.iaload, 1) := by decide +kernel
theorem dL_law_964 : decode cL_law 964 = .ok (.invokevirtual 114, 3) := by decide +kernel
theorem dL_law_967 : decode cL_law 967 = .ok (.if_icmp .eq 218, 3) := by decide +kernel
theorem dL_law_970 : decode cL_law 970 = .ok (.iconst 0, 1) := by decide +kernel
theorem dL_law_971 : decode cL_law 971 = .ok (.ireturn, 1) := by decide +kernel
theorem dL_law_972 : decode cL_law 972 = .ok (.aload_n 1, 1) := by decide +kernel
theorem dL_law_973 : decode cL_law 973 = .ok (.aload_n 0, 1) := by decide +kernel
theorem dL_law_974 : decode cL_law 974 = .ok (.iload_n 3, 1) := by decide +kernel
theorem dL_law_975 : decode cL_law 975 = .ok (.iconst 1, 1) := by decide +kernel
theorem dL_law_976 : decode cL_law 976 = .ok (.iadd, 1) := by decide +kernel
theorem dL_law_977 : decode cL_law 977 = .ok (.iaload, 1) := by decide +kernel
theorem dL_law_978 : decode cL_law 978 = .ok (.invokevirtual 115, 3) := by decide +kernel
theorem dL_law_981 : decode cL_law 981 = .ok (.aload_n 2, 1) := by decide +kernel
theorem dL_law_982 : decode cL_law 982 = .ok (.aload_n 0, 1) := by decide +kernel
theorem dL_law_983 : decode cL_law 983 = .ok (.iload_n 3, 1) := by decide +kernel
theorem dL_law_984 : decode cL_law 984 = .ok (.iconst 1, 1) := by decide +kernel
theorem dL_law_985 : decode cL_law 985 = .ok (.iadd, 1) := by decide +kernel
theorem dL_law_986 : decode cL_law 986 = .ok (.iaload, 1) := by decide +kernel
theorem dL_law_987 : decode cL_law 987 = .ok (.invokevirtual 118, 3) := by decide +kernel
theorem dL_law_990 : decode cL_law 990 = .ok (.if_icmp .eq 195, 3) := by decide +kernel
theorem dL_law_993 : decode cL_law 993 = .ok (.iconst 0, 1) := by decide +kernel
theorem dL_law_994 : decode cL_law 994 = .ok (.ireturn, 1) := by decide +kernel
theorem dL_law_995 : decode cL_law 995 = .ok (.aload_n 1, 1) := by decide +kernel
theorem dL_law_996 : decode cL_law 996 = .ok (.invokevirtual 119, 3) := by decide +kernel
theorem dL_law_999 : decode cL_law 999 = .ok (.aload_n 2, 1) := by decide +kernel
theorem dL_law_1000 : decode cL_law 1000 = .ok (.invokevirtual 123, 3) := by decide +kernel
theorem dL_law_1003 : decode cL_law 1003 = .ok (.if_icmp .eq 182, 3) := by decide +kernel
theorem dL_law_1006 : decode cL_law 1006 = .ok (.iconst 0, 1) := by decide +kernel
theorem dL_law_1007 : decode cL_law 1007 = .ok (.ireturn, 1) := by decide +kernel
theorem dL_law_1008 : decode cL_law 1008 = .ok (.aload_n 1, 1) := by decide +kernel
theorem dL_law_1009 : decode cL_law 1009 = .ok (.invokevirtual 124, 3) := by decide +kernel
theorem dL_law_1012 : decode cL_law 1012 = .ok (.aload_n 2, 1) := by decide +kernel
theorem dL_law_1013 : decode cL_law 1013 = .ok (.invokevirtual 127, 3) := by decide +kernel
theorem dL_law_1016 : decode cL_law 1016 = .ok (.if_icmp .eq 169, 3) := by decide +kernel
theorem dL_law_1019 : decode cL_law 1019 = .ok (.iconst 0, 1) := by decide +kernel
theorem dL_law_1020 : decode cL_law 1020 = .ok (.ireturn, 1) := by decide +kernel
theorem dL_law_1021 : decode cL_law 1021 = .ok (.aload_n 1, 1) := by decide +kernel
theorem dL_law_1022 : decode cL_law 1022 = .ok (.aload_n 0, 1) := by decide +kernel
theorem dL_law_1023 : decode cL_law 1023 = .ok (.iload_n 3, 1) := by decide +kernel
theorem dL_law_1024 : decode cL_law 1024 = .ok (.iconst 1, 1) := by decide +kernel
theorem dL_law_1025 : decode cL_law 1025 = .ok (.iadd, 1) := by decide +kernel
theorem dL_law_1026 : decode cL_law 1026 = .ok (.iaload, 1) := by decide +kernel
theorem dL_law_1027 : decode cL_law 1027 = .ok (.aload_n 0, 1) := by decide +kernel
theorem dL_law_1028 : decode cL_law 1028 = .ok (.iload_n 3, 1) := by decide +kernel
theorem dL_law_1029 : decode cL_law 1029 = .ok (.iconst 2, 1) := by decide +kernel
theorem dL_law_1030 : decode cL_law 1030 = .ok (.iadd, 1) := by decide +kernel
theorem dL_law_1031 : decode cL_law 1031 = .ok (.iaload, 1) := by decide +kernel
theorem dL_law_1032 : decode cL_law 1032 = .ok (.invokevirtual 128, 3) := by decide +kernel
theorem dL_law_1035 : decode cL_law 1035 = .ok (.aload_n 2, 1) := by decide +kernel
theorem dL_law_1036 : decode cL_law 1036 = .ok (.aload_n 0, 1) := by decide +kernel
theorem dL_law_1037 : decode cL_law 1037 = .ok (.iload_n 3, 1) := by decide +kernel
theorem dL_law_1038 : decode cL_law 1038 = .ok (.iconst 1, 1) := by decide +kernel
theorem dL_law_1039 : decode cL_law 1039 = .ok (.iadd, 1) := by decide +kernel
theorem dL_law_1040 : decode cL_law 1040 = .ok (.iaload, 1) := by decide +kernel
theorem dL_law_1041 : decode cL_law 1041 = .ok (.aload_n 0, 1) := by decide +kernel
theorem dL_law_1042 : decode cL_law 1042 = .ok (.iload_n 3, 1) := by decide +kernel
theorem dL_law_1043 : decode cL_law 1043 = .ok (.iconst 2, 1) := by decide +kernel
theorem dL_law_1044 : decode cL_law 1044 = .ok (.iadd, 1) := by decide +kernel
theorem dL_law_1045 : decode cL_law 1045 = .ok (.iaload, 1) := by decide +kernel
theorem dL_law_1046 : decode cL_law 1046 = .ok (.invokevirtual 132, 3) := by decide +kernel
theorem dL_law_1049 : decode cL_law 1049 = .ok (.lcmp, 1) := by decide +kernel
theorem dL_law_1050 : decode cL_law 1050 = .ok (.ifCond .eq 135, 3) := by decide +kernel
theorem dL_law_1053 : decode cL_law 1053 = .ok (.iconst 0, 1) := by decide +kernel
theorem dL_law_1054 : decode cL_law 1054 = .ok (.ireturn, 1) := by decide +kernel
theorem dL_law_1055 : decode cL_law 1055 = .ok (.aload_n 1, 1) := by decide +kernel
theorem dL_law_1056 : decode cL_law 1056 = .ok (.aload_n 0, 1) := by decide +kernel
theorem dL_law_1057 : decode cL_law 1057 = .ok (.iload_n 3, 1) := by decide +kernel
theorem dL_law_1058 : decode cL_law 1058 = .ok (.iconst 1, 1) := by decide +kernel
theorem dL_law_1059 : decode cL_law 1059 = .ok (.iadd, 1) := by decide +kernel
theorem dL_law_1060 : decode cL_law 1060 = .ok (.iaload, 1) := by decide +kernel
theorem dL_law_1061 : decode cL_law 1061 = .ok (.aload_n 0, 1) := by decide +kernel
theorem dL_law_1062 : decode cL_law 1062 = .ok (.iload_n 3, 1) := by decide +kernel
theorem dL_law_1063 : decode cL_law 1063 = .ok (.iconst 2, 1) := by decide +kernel
theorem dL_law_1064 : decode cL_law 1064 = .ok (.iadd, 1) := by decide +kernel
theorem dL_law_1065 : decode cL_law 1065 = .ok (.iaload, 1) := by decide +kernel
theorem dL_law_1066 : decode cL_law 1066 = .ok (.invokevirtual 133, 3) := by decide +kernel
theorem dL_law_1069 : decode cL_law 1069 = .ok (.aload_n 2, 1) := by decide +kernel
theorem dL_law_1070 : decode cL_law 1070 = .ok (.aload_n 0, 1) := by decide +kernel
theorem dL_law_1071 : decode cL_law 1071 = .ok (.iload_n 3, 1) := by decide +kernel
theorem dL_law_1072 : decode cL_law 1072 = .ok (.iconst 1, 1) := by decide +kernel
theorem dL_law_1073 : decode cL_law 1073 = .ok (.iadd, 1) := by decide +kernel
theorem dL_law_1074 : decode cL_law 1074 = .ok (.iaload, 1) := by decide +kernel
theorem dL_law_1075 : decode cL_law 1075 = .ok (.aload_n 0, 1) := by decide +kernel
theorem dL_law_1076 : decode cL_law 1076 = .ok (.iload_n 3, 1) := by decide +kernel
theorem dL_law_1077 : decode cL_law 1077 = .ok (.iconst 2, 1) := by decide +kernel
theorem dL_law_1078 : decode cL_law 1078 = .ok (.iadd, 1) := by decide +kernel
theorem dL_law_1079 : decode cL_law 1079 = .ok (.iaload, 1) := by decide +kernel
theorem dL_law_1080 : decode cL_law 1080 = .ok (.invokevirtual 136, 3) := by decide +kernel
theorem dL_law_1083 : decode cL_law 1083 = .ok (.if_icmp .eq 102, 3) := by decide +kernel
theorem dL_law_1086 : decode cL_law 1086 = .ok (.iconst 0, 1) := by decide +kernel
theorem dL_law_1087 : decode cL_law 1087 = .ok (.ireturn, 1) := by decide +kernel
theorem dL_law_1088 : decode cL_law 1088 = .ok (.aload_n 1, 1) := by decide +kernel
theorem dL_law_1089 : decode cL_law 1089 = .ok (.invokevirtual 137, 3) := by decide +kernel
theorem dL_law_1092 : decode cL_law 1092 = .ok (.aload_n 2, 1) := by decide +kernel
theorem dL_law_1093 : decode cL_law 1093 = .ok (.invokevirtual 140, 3) := by decide +kernel
theorem dL_law_1096 : decode cL_law 1096 = .ok (.if_icmp .eq 89, 3) := by decide +kernel
theorem dL_law_1099 : decode cL_law 1099 = .ok (.iconst 0, 1) := by decide +kernel
theorem dL_law_1100 : decode cL_law 1100 = .ok (.ireturn, 1) := by decide +kernel
theorem dL_law_1101 : decode cL_law 1101 = .ok (.aload_n 1, 1) := by decide +kernel
theorem dL_law_1102 : decode cL_law 1102 = .ok (.aload_n 0, 1) := by decide +kernel
theorem dL_law_1103 : decode cL_law 1103 = .ok (.iload_n 3, 1) := by decide +kernel
theorem dL_law_1104 : decode cL_law 1104 = .ok (.iconst 1, 1) := by decide +kernel
theorem dL_law_1105 : decode cL_law 1105 = .ok (.iadd, 1) := by decide +kernel
theorem dL_law_1106 : decode cL_law 1106 = .ok (.iaload, 1) := by decide +kernel
theorem dL_law_1107 : decode cL_law 1107 = .ok (.invokevirtual 141, 3) := by decide +kernel
theorem dL_law_1110 : decode cL_law 1110 = .ok (.aload_n 2, 1) := by decide +kernel
theorem dL_law_1111 : decode cL_law 1111 = .ok (.aload_n 0, 1) := by decide +kernel
theorem dL_law_1112 : decode cL_law 1112 = .ok (.iload_n 3, 1) := by decide +kernel
theorem dL_law_1113 : decode cL_law 1113 = .ok (.iconst 1, 1) := by decide +kernel
theorem dL_law_1114 : decode cL_law 1114 = .ok (.iadd, 1) := by decide +kernel
theorem dL_law_1115 : decode cL_law 1115 = .ok (.iaload, 1) := by decide +kernel
theorem dL_law_1116 : decode cL_law 1116 = .ok (.invokevirtual 145, 3) := by decide +kernel
theorem dL_law_1119 : decode cL_law 1119 = .ok (.lcmp, 1) := by decide +kernel
theorem dL_law_1120 : decode cL_law 1120 = .ok (.ifCond .eq 65, 3) := by decide +kernel
theorem dL_law_1123 : decode cL_law 1123 = .ok (.iconst 0, 1) := by decide +kernel
theorem dL_law_1124 : decode cL_law 1124 = .ok (.ireturn, 1) := by decide +kernel
theorem dL_law_1125 : decode cL_law 1125 = .ok (.aload_n 1, 1) := by decide +kernel
theorem dL_law_1126 : decode cL_law 1126 = .ok (.aload_n 0, 1) := by decide +kernel
theorem dL_law_1127 : decode cL_law 1127 = .ok (.iload_n 3, 1) := by decide +kernel
theorem dL_law_1128 : decode cL_law 1128 = .ok (.iconst 1, 1) := by decide +kernel
theorem dL_law_1129 : decode cL_law 1129 = .ok (.iadd, 1) := by decide +kernel
theorem dL_law_1130 : decode cL_law 1130 = .ok (.iaload, 1) := by decide +kernel
theorem dL_law_1131 : decode cL_law 1131 = .ok (.aload_n 0, 1) := by decide +kernel
theorem dL_law_1132 : decode cL_law 1132 = .ok (.iload_n 3, 1) := by decide +kernel
theorem dL_law_1133 : decode cL_law 1133 = .ok (.iconst 2, 1) := by decide +kernel
theorem dL_law_1134 : decode cL_law 1134 = .ok (.iadd, 1) := by decide +kernel
theorem dL_law_1135 : decode cL_law 1135 = .ok (.iaload, 1) := by decide +kernel
theorem dL_law_1136 : decode cL_law 1136 = .ok (.invokevirtual 146, 3) := by decide +kernel
theorem dL_law_1139 : decode cL_law 1139 = .ok (.aload_n 2, 1) := by decide +kernel
theorem dL_law_1140 : decode cL_law 1140 = .ok (.aload_n 0, 1) := by decide +kernel
theorem dL_law_1141 : decode cL_law 1141 = .ok (.iload_n 3, 1) := by decide +kernel
theorem dL_law_1142 : decode cL_law 1142 = .ok (.iconst 1, 1) := by decide +kernel
theorem dL_law_1143 : decode cL_law 1143 = .ok (.iadd, 1) := by decide +kernel
theorem dL_law_1144 : decode cL_law 1144 = .ok (.iaload, 1) := by decide +kernel
theorem dL_law_1145 : decode cL_law 1145 = .ok (.aload_n 0, 1) := by decide +kernel
theorem dL_law_1146 : decode cL_law 1146 = .ok (.iload_n 3, 1) := by decide +kernel
theorem dL_law_1147 : decode cL_law 1147 = .ok (.iconst 2, 1) := by decide +kernel
theorem dL_law_1148 : decode cL_law 1148 = .ok (.iadd, 1) := by decide +kernel
theorem dL_law_1149 : decode cL_law 1149 = .ok (.iaload, 1) := by decide +kernel
theorem dL_law_1150 : decode cL_law 1150 = .ok (.invokevirtual 149, 3) := by decide +kernel
theorem dL_law_1153 : decode cL_law 1153 = .ok (.lcmp, 1) := by decide +kernel
theorem dL_law_1154 : decode cL_law 1154 = .ok (.ifCond .eq 31, 3) := by decide +kernel
theorem dL_law_1157 : decode cL_law 1157 = .ok (.iconst 0, 1) := by decide +kernel
theorem dL_law_1158 : decode cL_law 1158 = .ok (.ireturn, 1) := by decide +kernel
theorem dL_law_1159 : decode cL_law 1159 = .ok (.aload_n 1, 1) := by decide +kernel
theorem dL_law_1160 : decode cL_law 1160 = .ok (.invokevirtual 150, 3) := by decide +kernel
theorem dL_law_1163 : decode cL_law 1163 = .ok (.aload_n 2, 1) := by decide +kernel
theorem dL_law_1164 : decode cL_law 1164 = .ok (.invokevirtual 153, 3) := by decide +kernel
theorem dL_law_1167 : decode cL_law 1167 = .ok (.if_icmp .eq 18, 3) := by decide +kernel
theorem dL_law_1170 : decode cL_law 1170 = .ok (.iconst 0, 1) := by decide +kernel
theorem dL_law_1171 : decode cL_law 1171 = .ok (.ireturn, 1) := by decide +kernel
theorem dL_law_1172 : decode cL_law 1172 = .ok (.aload_n 1, 1) := by decide +kernel
theorem dL_law_1173 : decode cL_law 1173 = .ok (.invokevirtual 154, 3) := by decide +kernel
theorem dL_law_1176 : decode cL_law 1176 = .ok (.aload_n 2, 1) := by decide +kernel
theorem dL_law_1177 : decode cL_law 1177 = .ok (.invokevirtual 157, 3) := by decide +kernel
theorem dL_law_1180 : decode cL_law 1180 = .ok (.if_icmp .eq 5, 3) := by decide +kernel
theorem dL_law_1183 : decode cL_law 1183 = .ok (.iconst 0, 1) := by decide +kernel
theorem dL_law_1184 : decode cL_law 1184 = .ok (.ireturn, 1) := by decide +kernel
theorem dL_law_1185 : decode cL_law 1185 = .ok (.iinc 3 4, 3) := by decide +kernel
theorem dL_law_1188 : decode cL_law 1188 = .ok (.goto (-1170), 3) := by decide +kernel
theorem dL_law_1191 : decode cL_law 1191 = .ok (.iconst 1, 1) := by decide +kernel
theorem dL_law_1192 : decode cL_law 1192 = .ok (.ireturn, 1) := by decide +kernel
