/-! the law's words for its calls -/
set_option maxRecDepth 20000 in
theorem ggL_law_X11_out : GoodIn wsL_law wsX11_out := goodIn_r _ [738, 19, 576, 84, 85, 18, 86, 76, 45, 739, 740, 741, 742, 39, 463, 625, 743, 744, 745, 746, 389, 626, 627, 628, 90, 629, 630, 631, 88, 89, 91, 92, 199, 200, 201, 747, 748, 749, 396, 750, 403, 678, 679, 680, 681, 74, 682, 683, 684, 685, 531, 632, 633, 634, 635, 530, 636, 637, 638, 582, 583, 584, 585, 751, 752, 753, 754, 409, 32, 33, 34, 35, 410, 398, 399, 404, 400, 401, 402, 214, 215, 216, 217, 11, 12, 485, 486, 487, 488, 37, 489, 490, 491, 492, 321, 493, 494, 326, 327, 325, 495, 496, 275, 497, 284, 498, 499, 293, 294, 295, 278, 296, 289, 500, 501, 502, 503, 504, 342, 505, 347, 348, 349, 506, 232, 233, 234, 507, 508, 194, 509, 213, 755, 756, 757, 758, 639, 640, 641, 642, 643, 527, 644, 510, 511, 512, 513, 514, 645, 646, 647, 648, 114, 115, 116, 2, 117, 118, 1152, 1153, 1154, 1155, 1163, 1164, 1165, 1166, 1167, 1168, 1169, 1170, 1171, 1176, 1177, 1178, 1179, 1180, 1181, 1182, 1183, 1184, 1185, 1186, 1187, 1188, 1189, 1190, 1191, 1192, 1193, 1194, 1214, 1215, 1211, 1212, 1213, 1202, 1203, 1204, 1205, 1206, 1207, 1208, 1209, 1210, 1201, 1195, 1196, 1197, 1198, 1199, 1200] (by decide +kernel) (by decide +kernel)
set_option maxRecDepth 20000 in
theorem gL_law_X11_out : GoodIn wsL_law (wsV RL 87 RX11 yX11_out wsX11_out) := goodIn_app (goodIn_of _ (by decide +kernel)) ggL_law_X11_out
set_option maxRecDepth 20000 in
theorem ggL_law_X13_out : GoodIn wsL_law wsX13_out := goodIn_r _ [762, 162, 598, 599, 600, 5, 601, 54, 128, 129, 130, 131, 132, 133, 142, 143, 144, 145, 653, 654, 655, 656, 146, 147, 148, 149, 154, 155, 156, 157, 698, 699, 700, 701, 657, 658, 659, 660, 124, 125, 126, 127, 562, 563, 564, 565, 566, 567, 232, 233, 234, 568, 569, 570, 571, 763, 764, 765, 766, 661, 662, 663, 664, 261, 262, 263, 264, 163, 164, 165, 166, 665, 666, 667, 668, 1156, 1157, 1158, 1159, 1160, 1161, 1172, 1173, 1174, 1175] (by decide +kernel) (by decide +kernel)
set_option maxRecDepth 20000 in
theorem gL_law_X13_out : GoodIn wsL_law (wsV RL 90 RX13 yX13_out wsX13_out) := goodIn_app (goodIn_of _ (by decide +kernel)) ggL_law_X13_out
set_option maxRecDepth 20000 in
theorem ggL_law_X11_forfeit : GoodIn wsL_law wsX11_forfeit := goodIn_r _ [770, 19, 576, 84, 85, 18, 86, 76, 45, 771, 772, 773, 774, 74, 37, 775, 626, 627, 628, 90, 629, 630, 631, 88, 89, 91, 92, 682, 683, 684, 685, 531, 776, 777, 778, 779, 527, 780, 781, 782, 96, 783, 98, 545, 784, 785, 786, 787, 788, 789, 790, 791, 792, 793, 794, 236, 233, 237, 795, 639, 640, 641, 642, 643, 644, 114, 115, 116, 2, 117, 118, 1152, 1153, 1154, 1155, 1163, 1164, 1165, 1166, 1167, 1168, 1169, 1170, 1171, 1176, 1177, 1178, 1179, 1180, 1181, 1182, 1183, 1184, 1185, 1186, 1187, 1188, 1189, 1190, 1191, 1192, 1193, 1194, 1195, 1196, 1197, 1198, 1199, 1200] (by decide +kernel) (by decide +kernel)
set_option maxRecDepth 20000 in
theorem gL_law_X11_forfeit : GoodIn wsL_law (wsV RL 91 RX11 yX11_forfeit wsX11_forfeit) := goodIn_app (goodIn_of _ (by decide +kernel)) ggL_law_X11_forfeit
set_option maxRecDepth 20000 in
theorem ggL_law_X13_forfeit : GoodIn wsL_law wsX13_forfeit := goodIn_r _ [799, 598, 599, 600, 5, 601, 54, 128, 129, 130, 131, 132, 133, 653, 654, 655, 656, 146, 147, 148, 149, 142, 143, 144, 145, 698, 699, 700, 701, 124, 125, 126, 127, 800, 801, 802, 803, 804, 805, 806, 807, 568, 569, 570, 571, 808, 809, 810, 811, 812, 236, 233, 237, 163, 164, 165, 166, 661, 662, 663, 664, 1156, 1157, 1158, 1159, 1160, 1161, 1172, 1173, 1174, 1175] (by decide +kernel) (by decide +kernel)
set_option maxRecDepth 20000 in
theorem gL_law_X13_forfeit : GoodIn wsL_law (wsV RL 94 RX13 yX13_forfeit wsX13_forfeit) := goodIn_app (goodIn_of _ (by decide +kernel)) ggL_law_X13_forfeit
set_option maxRecDepth 20000 in
theorem ggL_law_X11_bid : GoodIn wsL_law wsX11_bid := goodIn_r _ [816, 19, 576, 84, 85, 18, 86, 76, 45, 817, 818, 819, 820, 821, 822, 823, 824, 236, 233, 237, 825, 826, 827, 90, 828, 630, 631, 88, 89, 91, 92, 114, 115, 116, 2, 117, 118, 1152, 1153, 1154, 1155, 1163, 1164, 1165, 1166, 1167, 1168, 1169, 1170, 1171, 1176, 1177, 1178, 1179, 1180, 1181, 1182, 1183, 1184, 1185, 1186, 1187, 1188, 1189, 1190, 1191, 1192, 1193, 1194] (by decide +kernel) (by decide +kernel)
set_option maxRecDepth 20000 in
theorem gL_law_X11_bid : GoodIn wsL_law (wsV RL 95 RX11 yX11_bid wsX11_bid) := goodIn_app (goodIn_of _ (by decide +kernel)) ggL_law_X11_bid
set_option maxRecDepth 20000 in
theorem ggL_law_X13_bid : GoodIn wsL_law wsX13_bid := goodIn_r _ [832, 833, 812, 236, 233, 237, 598, 599, 600, 5, 601, 54, 128, 129, 130, 131, 132, 133, 834, 835, 836, 837, 146, 147, 148, 149, 142, 143, 144, 145, 163, 164, 165, 166, 1156, 1157, 1158, 1159, 1160, 1161, 1172, 1173, 1174, 1175] (by decide +kernel) (by decide +kernel)
set_option maxRecDepth 20000 in
theorem gL_law_X13_bid : GoodIn wsL_law (wsV RL 98 RX13 yX13_bid wsX13_bid) := goodIn_app (goodIn_of _ (by decide +kernel)) ggL_law_X13_bid
set_option maxRecDepth 20000 in
theorem ggL_law_X11_sale : GoodIn wsL_law wsX11_sale := goodIn_r _ [841, 19, 576, 84, 85, 18, 86, 76, 45, 842, 843, 844, 845, 822, 823, 37, 77, 623, 624, 232, 233, 234, 78, 846, 74, 847, 848, 825, 826, 827, 90, 828, 630, 631, 88, 89, 91, 92, 682, 683, 684, 685, 531, 110, 2, 111, 112, 113, 722, 723, 724, 725, 726, 463, 39, 43, 222, 223, 224, 225, 46, 226, 227, 228, 229, 15, 230, 231, 235, 236, 237, 26, 238, 239, 240, 241, 547, 548, 549, 550, 551, 552, 553, 554, 555, 106, 107, 96, 108, 109, 199, 200, 201, 639, 640, 641, 642, 643, 527, 644, 114, 115, 116, 117, 118, 1152, 1153, 1154, 1155, 1163, 1164, 1165, 1166, 1167, 1168, 1169, 1170, 1171, 1176, 1177, 1178, 1179, 1180, 1181, 1182, 1183, 1184, 1185, 1186, 1187, 1188, 1189, 1190, 1191, 1192, 1193, 1194, 1195, 1196, 1197, 1198, 1199, 1200, 1162] (by decide +kernel) (by decide +kernel)
set_option maxRecDepth 20000 in
theorem gL_law_X11_sale : GoodIn wsL_law (wsV RL 99 RX11 yX11_sale wsX11_sale) := goodIn_app (goodIn_of _ (by decide +kernel)) ggL_law_X11_sale
set_option maxRecDepth 20000 in
theorem ggL_law_X13_sale : GoodIn wsL_law wsX13_sale := goodIn_r _ [852, 162, 567, 232, 233, 234, 54, 598, 599, 600, 5, 601, 128, 129, 130, 131, 132, 133, 834, 835, 836, 837, 146, 147, 148, 149, 142, 143, 144, 145, 698, 699, 700, 701, 568, 569, 570, 571, 167, 168, 169, 661, 662, 663, 664, 163, 164, 165, 166, 124, 125, 126, 127, 731, 732, 733, 734, 435, 436, 437, 438, 257, 258, 259, 260, 261, 262, 263, 264, 1156, 1157, 1158, 1159, 1160, 1161, 1172, 1173, 1174, 1175] (by decide +kernel) (by decide +kernel)
set_option maxRecDepth 20000 in
theorem gL_law_X13_sale : GoodIn wsL_law (wsV RL 102 RX13 yX13_sale wsX13_sale) := goodIn_app (goodIn_of _ (by decide +kernel)) ggL_law_X13_sale
set_option maxRecDepth 20000 in
theorem ggL_law_X11_fetch : GoodIn wsL_law wsX11_fetch := goodIn_r _ [856, 19, 576, 84, 85, 18, 86, 76, 45, 857, 858, 859, 860, 846, 861, 74, 632, 633, 634, 90, 635, 530, 636, 637, 638, 582, 583, 584, 585, 862, 863, 864, 865, 866, 867, 868, 869, 870, 871, 532, 533, 645, 646, 647, 648, 222, 223, 224, 225, 46, 226, 227, 228, 229, 15, 230, 231, 232, 233, 234, 235, 236, 237, 26, 238, 239, 240, 241, 114, 115, 116, 2, 117, 118, 1152, 1153, 1154, 1155, 1163, 1164, 1165, 1166, 1167, 1168, 1169, 1170, 1171, 1176, 1177, 1178, 1179, 1180, 1181, 1182, 1183, 1184, 1185, 1186, 1187, 1188, 1189, 1190, 1191, 1192, 1193, 1194, 1162] (by decide +kernel) (by decide +kernel)
set_option maxRecDepth 20000 in
theorem gL_law_X11_fetch : GoodIn wsL_law (wsV RL 103 RX11 yX11_fetch wsX11_fetch) := goodIn_app (goodIn_of _ (by decide +kernel)) ggL_law_X11_fetch
set_option maxRecDepth 20000 in
theorem ggL_law_X13_fetch : GoodIn wsL_law wsX13_fetch := goodIn_r _ [875, 54, 598, 599, 600, 5, 601, 128, 129, 130, 131, 132, 133, 142, 143, 144, 145, 657, 658, 659, 660, 124, 125, 126, 127, 163, 164, 165, 166, 665, 666, 667, 668, 1156, 1157, 1158, 1159, 1160, 1161, 1172, 1173, 1174, 1175] (by decide +kernel) (by decide +kernel)
set_option maxRecDepth 20000 in
theorem gL_law_X13_fetch : GoodIn wsL_law (wsV RL 106 RX13 yX13_fetch wsX13_fetch) := goodIn_app (goodIn_of _ (by decide +kernel)) ggL_law_X13_fetch
set_option maxRecDepth 20000 in
theorem ggL_law_X11_claim : GoodIn wsL_law wsX11_claim := goodIn_r _ [879, 19, 576, 84, 85, 18, 86, 76, 45, 880, 881, 882, 883, 74, 884, 625, 87, 88, 89, 90, 91, 92, 682, 683, 684, 685, 531, 114, 115, 116, 2, 117, 118, 1152, 1153, 1154, 1155, 1163, 1164, 1165, 1166, 1167, 1168, 1169, 1170, 1171, 1176, 1177, 1178, 1179, 1180, 1181, 1182, 1183, 1184, 1185, 1186, 1187, 1188, 1189, 1190, 1191, 1192, 1193, 1194] (by decide +kernel) (by decide +kernel)
set_option maxRecDepth 20000 in
theorem gL_law_X11_claim : GoodIn wsL_law (wsV RL 107 RX11 yX11_claim wsX11_claim) := goodIn_app (goodIn_of _ (by decide +kernel)) ggL_law_X11_claim
set_option maxRecDepth 20000 in
theorem ggL_law_X13_claim : GoodIn wsL_law wsX13_claim := goodIn_r _ [888, 598, 599, 600, 5, 601, 54, 128, 129, 130, 131, 132, 133, 146, 147, 148, 149, 142, 143, 144, 145, 698, 699, 700, 701, 124, 125, 126, 127, 163, 164, 165, 166, 1156, 1157, 1158, 1159, 1160, 1161, 1172, 1173, 1174, 1175] (by decide +kernel) (by decide +kernel)
set_option maxRecDepth 20000 in
theorem gL_law_X13_claim : GoodIn wsL_law (wsV RL 110 RX13 yX13_claim wsX13_claim) := goodIn_app (goodIn_of _ (by decide +kernel)) ggL_law_X13_claim
