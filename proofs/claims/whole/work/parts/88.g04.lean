/-! the law's words for its calls -/
set_option maxRecDepth 20000 in
theorem ggL_law_X11_drop : GoodIn wsL_law wsX11_drop := goodIn_r _ [892, 19, 576, 84, 85, 18, 86, 76, 45, 893, 894, 895, 896, 74, 77, 897, 898, 899, 900, 87, 88, 89, 90, 91, 92, 682, 683, 684, 685, 531, 901, 902, 903, 904, 527, 788, 784, 785, 786, 787, 789, 790, 791, 792, 96, 793, 794, 236, 233, 237, 795, 781, 782, 783, 98, 545, 114, 115, 116, 2, 117, 118, 1152, 1153, 1154, 1155, 1163, 1164, 1165, 1166, 1167, 1168, 1169, 1170, 1171, 1176, 1177, 1178, 1179, 1180, 1181, 1182, 1183, 1184, 1185, 1186, 1187, 1188, 1189, 1190, 1191, 1192, 1193, 1194, 1195, 1196, 1197, 1198, 1199, 1200] (by decide +kernel) (by decide +kernel)
set_option maxRecDepth 20000 in
theorem gL_law_X11_drop : GoodIn wsL_law (wsV RL 111 RX11 yX11_drop wsX11_drop) := goodIn_app (goodIn_of _ (by decide +kernel)) ggL_law_X11_drop
set_option maxRecDepth 20000 in
theorem ggL_law_X13_drop : GoodIn wsL_law wsX13_drop := goodIn_r _ [908, 598, 599, 600, 5, 601, 54, 128, 129, 130, 131, 132, 133, 146, 147, 148, 149, 142, 143, 144, 145, 698, 699, 700, 701, 909, 910, 911, 912, 808, 809, 810, 811, 812, 236, 233, 237, 124, 125, 126, 127, 804, 805, 806, 807, 163, 164, 165, 166, 1156, 1157, 1158, 1159, 1160, 1161, 1172, 1173, 1174, 1175] (by decide +kernel) (by decide +kernel)
set_option maxRecDepth 20000 in
theorem gL_law_X13_drop : GoodIn wsL_law (wsV RL 114 RX13 yX13_drop wsX13_drop) := goodIn_app (goodIn_of _ (by decide +kernel)) ggL_law_X13_drop
set_option maxRecDepth 20000 in
theorem ggL_law_X11_prove : GoodIn wsL_law wsX11_prove := goodIn_r _ [916, 19, 576, 84, 85, 18, 86, 76, 45, 917, 918, 919, 920, 74, 78, 898, 899, 900, 87, 88, 89, 90, 91, 92, 682, 683, 684, 685, 531, 901, 902, 903, 904, 527, 788, 784, 785, 786, 787, 789, 790, 791, 792, 96, 793, 794, 236, 233, 237, 795, 781, 782, 783, 98, 545, 722, 723, 724, 725, 726, 463, 39, 43, 222, 223, 224, 225, 46, 226, 227, 228, 229, 15, 230, 231, 232, 234, 235, 26, 238, 239, 240, 241, 547, 548, 549, 550, 551, 552, 553, 554, 555, 106, 107, 108, 109, 110, 2, 111, 112, 113, 199, 200, 201, 639, 640, 641, 642, 643, 644, 114, 115, 116, 117, 118, 1152, 1153, 1154, 1155, 1163, 1164, 1165, 1166, 1167, 1168, 1169, 1170, 1171, 1176, 1177, 1178, 1179, 1180, 1181, 1182, 1183, 1184, 1185, 1186, 1187, 1188, 1189, 1190, 1191, 1192, 1193, 1194, 1195, 1196, 1197, 1198, 1199, 1200, 1162] (by decide +kernel) (by decide +kernel)
set_option maxRecDepth 20000 in
theorem gL_law_X11_prove : GoodIn wsL_law (wsV RL 115 RX11 yX11_prove wsX11_prove) := goodIn_app (goodIn_of _ (by decide +kernel)) ggL_law_X11_prove
set_option maxRecDepth 20000 in
theorem ggL_law_X13_prove : GoodIn wsL_law wsX13_prove := goodIn_r _ [924, 54, 598, 599, 600, 5, 601, 128, 129, 130, 131, 132, 133, 146, 147, 148, 149, 142, 143, 144, 145, 698, 699, 700, 701, 909, 910, 911, 912, 808, 809, 810, 811, 812, 236, 233, 237, 124, 125, 126, 127, 804, 805, 806, 807, 163, 164, 165, 166, 661, 662, 663, 664, 731, 732, 733, 734, 435, 436, 437, 438, 257, 258, 259, 260, 261, 262, 263, 264, 1156, 1157, 1158, 1159, 1160, 1161, 1172, 1173, 1174, 1175] (by decide +kernel) (by decide +kernel)
set_option maxRecDepth 20000 in
theorem gL_law_X13_prove : GoodIn wsL_law (wsV RL 118 RX13 yX13_prove wsX13_prove) := goodIn_app (goodIn_of _ (by decide +kernel)) ggL_law_X13_prove
set_option maxRecDepth 20000 in
theorem ggL_law_X11_image : GoodIn wsL_law wsX11_image := goodIn_r _ [928, 20, 19, 929, 930, 931, 932, 18, 933, 226, 74, 37, 934, 935, 936, 937, 39, 41, 43, 76, 45, 938, 939, 940, 941, 44, 519, 90, 522, 523, 524, 11, 12, 525, 526, 96, 527, 528, 529, 530, 531, 532, 533, 534, 535, 536, 942, 943, 944, 945, 636, 946, 947, 92, 643, 630, 637, 585, 948, 949, 871, 866, 950, 687, 688, 689, 98, 545, 109, 100, 99, 546, 114, 115, 116, 2, 117, 118, 1152, 1153, 1154, 1155, 1163, 1164, 1165, 1166, 1167, 1168, 1169, 1170, 1171, 1176, 1177, 1178, 1179, 1180, 1181, 1182, 1183, 1184, 1185, 1186, 1187, 1188, 1189, 1190, 1191, 1192, 1193, 1194, 1195, 1196, 1197, 1198, 1199, 1200] (by decide +kernel) (by decide +kernel)
set_option maxRecDepth 20000 in
theorem gL_law_X11_image : GoodIn wsL_law (wsV RL 119 RX11 yX11_image wsX11_image) := goodIn_app (goodIn_of _ (by decide +kernel)) ggL_law_X11_image
set_option maxRecDepth 20000 in
theorem ggL_law_X13_image : GoodIn wsL_law wsX13_image := goodIn_r _ [954, 55, 54, 955, 956, 53, 957, 958, 62, 63, 64, 65, 128, 129, 130, 5, 131, 132, 133, 1156, 1157, 1158, 1159, 1160, 1161, 1172, 1173, 1174, 1175] (by decide +kernel) (by decide +kernel)
set_option maxRecDepth 20000 in
theorem gL_law_X13_image : GoodIn wsL_law (wsV RL 123 RX13 yX13_image wsX13_image) := goodIn_app (goodIn_of _ (by decide +kernel)) ggL_law_X13_image
set_option maxRecDepth 20000 in
theorem ggL_law_X11_back : GoodIn wsL_law wsX11_back := goodIn_r _ [962, 929, 19, 20, 114, 115, 116, 2, 117, 118, 930, 931, 932, 18, 933, 226, 74, 37, 934, 935, 936, 937, 39, 41, 43, 76, 45, 938, 939, 940, 941, 44, 519, 90, 522, 523, 524, 11, 12, 525, 526, 96, 527, 528, 529, 530, 531, 532, 533, 534, 535, 536, 942, 943, 944, 945, 636, 946, 947, 92, 643, 630, 637, 585, 948, 949, 871, 866, 950, 687, 688, 689, 98, 545, 109, 100, 99, 546, 1152, 1153, 1154, 1155, 1163, 1164, 1165, 1166, 1167, 1168, 1169, 1170, 1171, 1176, 1177, 1178, 1179, 1180, 1181, 1182, 1183, 1184, 1185, 1186, 1187, 1188, 1189, 1190, 1191, 1192, 1193, 1194, 1195, 1196, 1197, 1198, 1199, 1200] (by decide +kernel) (by decide +kernel)
set_option maxRecDepth 20000 in
theorem gL_law_X11_back : GoodIn wsL_law (wsV RL 124 RX11 yX11_back wsX11_back) := goodIn_app (goodIn_of _ (by decide +kernel)) ggL_law_X11_back
set_option maxRecDepth 20000 in
theorem ggL_law_X13_back : GoodIn wsL_law wsX13_back := goodIn_r _ [966, 955, 54, 55, 128, 129, 130, 5, 131, 132, 133, 956, 53, 957, 958, 62, 63, 64, 65, 1156, 1157, 1158, 1159, 1160, 1161, 1172, 1173, 1174, 1175] (by decide +kernel) (by decide +kernel)
set_option maxRecDepth 20000 in
theorem gL_law_X13_back : GoodIn wsL_law (wsV RL 127 RX13 yX13_back wsX13_back) := goodIn_app (goodIn_of _ (by decide +kernel)) ggL_law_X13_back
set_option maxRecDepth 20000 in
theorem ggL_law_X11_place : GoodIn wsL_law wsX11_place := goodIn_r _ [970, 19, 971, 972, 973, 18, 974, 975, 39, 43, 199, 200, 201, 976, 977, 978, 979, 41, 468, 469, 470, 471, 321, 472, 473, 474, 275, 475, 476, 477, 396, 478, 479, 480, 342, 481, 482, 483, 194, 484, 485, 486, 487, 488, 74, 37, 489, 490, 491, 492, 493, 494, 326, 327, 325, 495, 496, 497, 284, 498, 499, 293, 294, 295, 278, 296, 289, 500, 501, 502, 403, 503, 504, 505, 347, 348, 349, 506, 232, 233, 234, 507, 508, 509, 213, 980, 981, 982, 983, 215, 984, 985, 986, 987, 988, 989, 990, 991, 992, 993, 994, 995, 996, 997, 998, 291, 999, 1000, 1001, 1002, 1003, 1004, 1005, 1006, 1007, 1008, 1009, 756, 758, 1010, 1011, 1012, 1013, 1014, 1015, 1016, 1017, 1018, 1019, 1020, 374, 376, 1021, 1152, 1153, 1154, 1155, 1163, 1164, 1165, 1166, 1167, 1168, 1169, 1170, 1171, 1211, 1212, 1213, 1202, 1203, 1204, 1205, 1206, 1207, 1208, 1209, 1210, 1214, 1215, 1201] (by decide +kernel) (by decide +kernel)
set_option maxRecDepth 20000 in
theorem gL_law_X11_place : GoodIn wsL_law (wsV RL 128 RX11 yX11_place wsX11_place) := goodIn_app (goodIn_of _ (by decide +kernel)) ggL_law_X11_place
set_option maxRecDepth 20000 in
theorem ggL_law_X13_place : GoodIn wsL_law wsX13_place := goodIn_r _ [1025, 132, 1026, 250, 251, 5, 252, 154, 155, 156, 157, 54, 562, 563, 564, 565, 566, 162, 567, 232, 233, 234, 568, 569, 570, 571, 124, 125, 126, 127, 763, 764, 765, 766, 1156, 1157, 1158, 1159, 1160, 1161, 1172, 1173, 1174, 1175] (by decide +kernel) (by decide +kernel)
set_option maxRecDepth 20000 in
theorem gL_law_X13_place : GoodIn wsL_law (wsV RL 132 RX13 yX13_place wsX13_place) := goodIn_app (goodIn_of _ (by decide +kernel)) ggL_law_X13_place
set_option maxRecDepth 20000 in
theorem ggL_law_X11_told : GoodIn wsL_law wsX11_told := goodIn_r _ [1030, 19, 576, 84, 85, 18, 86, 76, 45, 1031, 1032, 1033, 1034, 726, 78, 77, 623, 1035, 1036, 1037, 1038, 775, 74, 37, 897, 823, 846, 463, 610, 776, 777, 778, 90, 779, 527, 780, 781, 782, 96, 783, 98, 545, 784, 785, 786, 787, 788, 531, 789, 683, 684, 685, 790, 791, 792, 793, 794, 236, 233, 237, 795, 682, 1039, 1040, 1041, 1042, 533, 1043, 1044, 1045, 1046, 866, 867, 868, 869, 870, 871, 532, 1047, 1048, 1049, 1050, 585, 636, 1051, 1052, 1053, 1054, 637, 638, 582, 583, 584, 1152, 1153, 1154, 1155, 1163, 1164, 1165, 1166, 1167, 1168, 1169, 1170, 1171, 1176, 1177, 1178, 1179, 1180, 1181, 1182, 1183, 1184, 1185, 1186, 1187, 1188, 1189, 1190, 1191, 1192, 1193, 1194, 1195, 1196, 1197, 1198, 1199, 1200] (by decide +kernel) (by decide +kernel)
set_option maxRecDepth 20000 in
theorem gL_law_X11_told : GoodIn wsL_law (wsV RL 133 RX11 yX11_told wsX11_told) := goodIn_app (goodIn_of _ (by decide +kernel)) ggL_law_X11_told
set_option maxRecDepth 20000 in
theorem ggL_law_X13_told : GoodIn wsL_law wsX13_told := goodIn_r _ [1058, 132, 598, 599, 600, 5, 601, 54, 142, 143, 144, 145, 800, 801, 802, 803, 804, 805, 806, 807, 568, 569, 570, 571, 808, 809, 810, 811, 812, 236, 233, 237, 698, 699, 700, 701, 124, 125, 126, 127, 1156, 1157, 1158, 1159, 1160, 1161, 1172, 1173, 1174, 1175] (by decide +kernel) (by decide +kernel)
set_option maxRecDepth 20000 in
theorem gL_law_X13_told : GoodIn wsL_law (wsV RL 136 RX13 yX13_told wsX13_told) := goodIn_app (goodIn_of _ (by decide +kernel)) ggL_law_X13_told
