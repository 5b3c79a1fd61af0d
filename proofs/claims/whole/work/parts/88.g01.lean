/-! the law's words for its calls -/
set_option maxRecDepth 20000 in
theorem ggL_law_X11_rare : GoodIn wsL_law wsX11_rare := goodIn_r _ [335, 19, 336, 337, 338, 18, 339, 340, 341, 342, 195, 196, 197, 198, 199, 200, 201, 202, 203, 204, 205, 39, 41, 276, 277, 278, 279, 280, 343, 344, 345, 346, 347, 348, 349, 350, 286, 287, 288, 289, 290, 291, 214, 215, 216, 217, 11, 12, 218, 219, 220, 221, 222, 223, 224, 225, 46, 226, 74, 227, 228, 229, 15, 230, 231, 232, 233, 234, 235, 236, 237, 26, 238, 239, 240, 241, 351, 352, 353, 295, 296, 114, 115, 116, 2, 117, 118, 1152, 1153, 1154, 1155, 1205, 1206, 1207, 1208, 1209, 1210, 1163, 1164, 1165, 1166, 1167, 1168, 1169, 1170, 1171, 1202, 1203, 1204, 1162] (by decide +kernel) (by decide +kernel)
set_option maxRecDepth 20000 in
theorem gL_law_X11_rare : GoodIn wsL_law (wsV RL 38 RX11 yX11_rare wsX11_rare) := goodIn_app (goodIn_of _ (by decide +kernel)) ggL_law_X11_rare
set_option maxRecDepth 20000 in
theorem ggL_law_X13_rare : GoodIn wsL_law wsX13_rare := goodIn_r _ [357, 246, 247, 248, 5, 249, 250, 251, 252, 154, 155, 156, 157, 54, 128, 129, 130, 131, 132, 133, 301, 302, 303, 304, 257, 258, 259, 260, 261, 262, 263, 264, 124, 125, 126, 127, 305, 306, 307, 308, 309, 310, 1156, 1157, 1158, 1159, 1160, 1161, 1172, 1173, 1174, 1175] (by decide +kernel) (by decide +kernel)
set_option maxRecDepth 20000 in
theorem gL_law_X13_rare : GoodIn wsL_law (wsV RL 42 RX13 yX13_rare wsX13_rare) := goodIn_app (goodIn_of _ (by decide +kernel)) ggL_law_X13_rare
set_option maxRecDepth 20000 in
theorem ggL_law_X11_second : GoodIn wsL_law wsX11_second := goodIn_r _ [361, 19, 362, 363, 364, 18, 365, 43, 39, 366, 199, 200, 201, 206, 207, 208, 209, 367, 368, 369, 342, 370, 371, 341, 346, 347, 348, 372, 344, 345, 349, 350, 286, 278, 287, 288, 289, 290, 291, 214, 215, 216, 217, 11, 12, 373, 374, 375, 376, 114, 115, 116, 2, 117, 118, 1152, 1153, 1154, 1155, 1163, 1164, 1165, 1166, 1167, 1168, 1169, 1170, 1171, 1205, 1206, 1207, 1208, 1209, 1210, 1202, 1203, 1204] (by decide +kernel) (by decide +kernel)
set_option maxRecDepth 20000 in
theorem gL_law_X11_second : GoodIn wsL_law (wsV RL 43 RX11 yX11_second wsX11_second) := goodIn_app (goodIn_of _ (by decide +kernel)) ggL_law_X11_second
set_option maxRecDepth 20000 in
theorem ggL_law_X13_second : GoodIn wsL_law wsX13_second := goodIn_r _ [380, 250, 251, 5, 252, 128, 129, 130, 131, 132, 133, 154, 155, 156, 157, 54, 253, 254, 255, 256, 261, 262, 263, 264, 1156, 1157, 1158, 1159, 1160, 1161, 1172, 1173, 1174, 1175] (by decide +kernel) (by decide +kernel)
set_option maxRecDepth 20000 in
theorem gL_law_X13_second : GoodIn wsL_law (wsV RL 46 RX13 yX13_second wsX13_second) := goodIn_app (goodIn_of _ (by decide +kernel)) ggL_law_X13_second
set_option maxRecDepth 20000 in
theorem ggL_law_X11_item : GoodIn wsL_law wsX11_item := goodIn_r _ [384, 19, 385, 386, 387, 18, 388, 43, 39, 389, 199, 200, 201, 202, 203, 204, 205, 41, 390, 391, 392, 393, 206, 207, 208, 209, 394, 395, 396, 397, 398, 399, 42, 400, 401, 402, 403, 404, 214, 215, 216, 217, 11, 12, 405, 406, 407, 408, 409, 32, 33, 34, 35, 410, 218, 219, 220, 221, 222, 223, 224, 225, 46, 226, 74, 227, 228, 229, 15, 230, 231, 232, 233, 234, 235, 236, 237, 26, 238, 239, 240, 241, 411, 412, 413, 414, 415, 416, 417, 418, 114, 115, 116, 2, 117, 118, 1152, 1153, 1154, 1155, 1163, 1164, 1165, 1166, 1167, 1168, 1169, 1170, 1171, 1214, 1215, 1162] (by decide +kernel) (by decide +kernel)
set_option maxRecDepth 20000 in
theorem gL_law_X11_item : GoodIn wsL_law (wsV RL 47 RX11 yX11_item wsX11_item) := goodIn_app (goodIn_of _ (by decide +kernel)) ggL_law_X11_item
set_option maxRecDepth 20000 in
theorem ggL_law_X13_item : GoodIn wsL_law wsX13_item := goodIn_r _ [422, 250, 251, 5, 252, 128, 129, 130, 131, 132, 133, 154, 155, 156, 157, 54, 253, 254, 255, 256, 257, 258, 259, 260, 261, 262, 263, 264, 124, 125, 126, 127, 1156, 1157, 1158, 1159, 1160, 1161, 1172, 1173, 1174, 1175] (by decide +kernel) (by decide +kernel)
set_option maxRecDepth 20000 in
theorem gL_law_X13_item : GoodIn wsL_law (wsV RL 50 RX13 yX13_item wsX13_item) := goodIn_app (goodIn_of _ (by decide +kernel)) ggL_law_X13_item
set_option maxRecDepth 20000 in
theorem ggL_law_X11_box : GoodIn wsL_law wsX11_box := goodIn_r _ [426, 19, 427, 428, 429, 18, 430, 39, 41, 199, 200, 201, 114, 115, 116, 2, 117, 118, 1152, 1153, 1154, 1155, 1163, 1164, 1165, 1166, 1167, 1168, 1169, 1170, 1171] (by decide +kernel) (by decide +kernel)
set_option maxRecDepth 20000 in
theorem gL_law_X11_box : GoodIn wsL_law (wsV RL 51 RX11 yX11_box wsX11_box) := goodIn_app (goodIn_of _ (by decide +kernel)) ggL_law_X11_box
set_option maxRecDepth 20000 in
theorem ggL_law_X13_box : GoodIn wsL_law wsX13_box := goodIn_r _ [434, 250, 251, 5, 252, 128, 129, 130, 131, 132, 133, 154, 155, 156, 157, 54, 257, 258, 259, 260, 261, 262, 263, 264, 124, 125, 126, 127, 435, 436, 437, 438, 1156, 1157, 1158, 1159, 1160, 1161, 1172, 1173, 1174, 1175] (by decide +kernel) (by decide +kernel)
set_option maxRecDepth 20000 in
theorem gL_law_X13_box : GoodIn wsL_law (wsV RL 54 RX13 yX13_box wsX13_box) := goodIn_app (goodIn_of _ (by decide +kernel)) ggL_law_X13_box
set_option maxRecDepth 20000 in
theorem ggL_law_X11_away : GoodIn wsL_law wsX11_away := goodIn_r _ [442, 19, 443, 444, 445, 18, 446, 39, 447, 448, 449, 450, 43, 199, 200, 201, 222, 223, 224, 225, 46, 226, 74, 227, 228, 229, 15, 230, 231, 232, 233, 234, 235, 236, 237, 26, 238, 239, 240, 241, 114, 115, 116, 2, 117, 118, 1152, 1153, 1154, 1155, 1163, 1164, 1165, 1166, 1167, 1168, 1169, 1170, 1171, 1162] (by decide +kernel) (by decide +kernel)
set_option maxRecDepth 20000 in
theorem gL_law_X11_away : GoodIn wsL_law (wsV RL 55 RX11 yX11_away wsX11_away) := goodIn_app (goodIn_of _ (by decide +kernel)) ggL_law_X11_away
set_option maxRecDepth 20000 in
theorem ggL_law_X13_away : GoodIn wsL_law wsX13_away := goodIn_r _ [454, 250, 251, 5, 252, 128, 129, 130, 131, 132, 133, 150, 151, 152, 153, 154, 155, 156, 157, 54, 435, 436, 437, 438, 257, 258, 259, 260, 261, 262, 263, 264, 124, 125, 126, 127, 1156, 1157, 1158, 1159, 1160, 1161, 1172, 1173, 1174, 1175] (by decide +kernel) (by decide +kernel)
set_option maxRecDepth 20000 in
theorem gL_law_X13_away : GoodIn wsL_law (wsV RL 58 RX13 yX13_away wsX13_away) := goodIn_app (goodIn_of _ (by decide +kernel)) ggL_law_X13_away
set_option maxRecDepth 20000 in
theorem ggL_law_X11_lend : GoodIn wsL_law wsX11_lend := goodIn_r _ [458, 19, 459, 460, 461, 18, 462, 39, 76, 463, 43, 464, 447, 448, 449, 450, 199, 200, 201, 465, 466, 467, 468, 469, 470, 471, 321, 472, 473, 474, 275, 475, 476, 477, 396, 478, 479, 480, 342, 481, 482, 483, 194, 484, 485, 486, 487, 488, 74, 37, 489, 490, 491, 492, 493, 494, 326, 327, 325, 495, 496, 497, 284, 498, 499, 293, 294, 295, 278, 296, 289, 500, 501, 502, 403, 503, 504, 505, 347, 348, 349, 506, 232, 233, 234, 507, 508, 509, 213, 510, 511, 512, 513, 514, 515, 516, 517, 518, 44, 519, 90, 45, 520, 78, 521, 77, 522, 523, 524, 11, 12, 525, 526, 96, 527, 528, 529, 530, 531, 532, 533, 534, 535, 536, 537, 538, 539, 540, 541, 542, 543, 544, 98, 545, 109, 100, 99, 546, 93, 94, 95, 97, 101, 102, 103, 104, 105, 106, 107, 108, 110, 2, 111, 112, 113, 222, 223, 224, 225, 46, 226, 227, 228, 229, 15, 230, 231, 235, 236, 237, 26, 238, 239, 240, 241, 547, 548, 549, 550, 551, 552, 553, 554, 555, 114, 115, 116, 117, 118, 1152, 1153, 1154, 1155, 1163, 1164, 1165, 1166, 1167, 1168, 1169, 1170, 1171, 1176, 1177, 1178, 1179, 1180, 1181, 1182, 1183, 1184, 1185, 1186, 1187, 1188, 1189, 1190, 1191, 1192, 1193, 1194, 1211, 1212, 1213, 1202, 1203, 1204, 1205, 1206, 1207, 1208, 1209, 1210, 1214, 1215, 1201, 1195, 1196, 1197, 1198, 1199, 1200, 1162] (by decide +kernel) (by decide +kernel)
set_option maxRecDepth 20000 in
theorem gL_law_X11_lend : GoodIn wsL_law (wsV RL 59 RX11 yX11_lend wsX11_lend) := goodIn_app (goodIn_of _ (by decide +kernel)) ggL_law_X11_lend
set_option maxRecDepth 20000 in
theorem ggL_law_X13_lend : GoodIn wsL_law wsX13_lend := goodIn_r _ [559, 162, 54, 560, 561, 250, 251, 5, 252, 128, 129, 130, 131, 132, 133, 150, 151, 152, 153, 154, 155, 156, 157, 562, 563, 564, 565, 566, 567, 232, 233, 234, 568, 569, 570, 571, 124, 125, 126, 127, 163, 164, 165, 166, 261, 262, 263, 264, 142, 143, 144, 145, 158, 159, 160, 161, 167, 168, 169, 1156, 1157, 1158, 1159, 1160, 1161, 1172, 1173, 1174, 1175] (by decide +kernel) (by decide +kernel)
set_option maxRecDepth 20000 in
theorem gL_law_X13_lend : GoodIn wsL_law (wsV RL 62 RX13 yX13_lend wsX13_lend) := goodIn_app (goodIn_of _ (by decide +kernel)) ggL_law_X13_lend
