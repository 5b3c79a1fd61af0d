/-! the law's words for its calls -/
set_option maxRecDepth 20000 in
theorem ggL_law_X11_tear : GoodIn wsL_law wsX11_tear := goodIn_r _ [575, 19, 576, 84, 85, 18, 86, 76, 45, 577, 578, 579, 580, 581, 582, 583, 90, 584, 585, 586, 587, 588, 589, 590, 591, 592, 593, 114, 115, 116, 2, 117, 118, 1152, 1153, 1154, 1155, 1163, 1164, 1165, 1166, 1167, 1168, 1169, 1170, 1171, 1176, 1177, 1178, 1179, 1180, 1181, 1182, 1183, 1184, 1185, 1186, 1187, 1188, 1189, 1190, 1191, 1192, 1193, 1194] (by decide +kernel) (by decide +kernel)
set_option maxRecDepth 20000 in
theorem gL_law_X11_tear : GoodIn wsL_law (wsV RL 63 RX11 yX11_tear wsX11_tear) := goodIn_app (goodIn_of _ (by decide +kernel)) ggL_law_X11_tear
set_option maxRecDepth 20000 in
theorem ggL_law_X13_tear : GoodIn wsL_law wsX13_tear := goodIn_r _ [597, 598, 599, 600, 5, 601, 54, 128, 129, 130, 131, 132, 133, 142, 143, 144, 145, 163, 164, 165, 166, 1156, 1157, 1158, 1159, 1160, 1161, 1172, 1173, 1174, 1175] (by decide +kernel) (by decide +kernel)
set_option maxRecDepth 20000 in
theorem gL_law_X13_tear : GoodIn wsL_law (wsV RL 66 RX13 yX13_tear wsX13_tear) := goodIn_app (goodIn_of _ (by decide +kernel)) ggL_law_X13_tear
set_option maxRecDepth 20000 in
theorem ggL_law_X11_oath : GoodIn wsL_law wsX11_oath := goodIn_r _ [605, 19, 576, 84, 85, 18, 86, 76, 45, 606, 607, 608, 609, 74, 610, 87, 88, 89, 90, 91, 92, 114, 115, 116, 2, 117, 118, 1152, 1153, 1154, 1155, 1163, 1164, 1165, 1166, 1167, 1168, 1169, 1170, 1171, 1176, 1177, 1178, 1179, 1180, 1181, 1182, 1183, 1184, 1185, 1186, 1187, 1188, 1189, 1190, 1191, 1192, 1193, 1194] (by decide +kernel) (by decide +kernel)
set_option maxRecDepth 20000 in
theorem gL_law_X11_oath : GoodIn wsL_law (wsV RL 67 RX11 yX11_oath wsX11_oath) := goodIn_app (goodIn_of _ (by decide +kernel)) ggL_law_X11_oath
set_option maxRecDepth 20000 in
theorem ggL_law_X13_oath : GoodIn wsL_law wsX13_oath := goodIn_r _ [614, 598, 599, 600, 5, 601, 54, 128, 129, 130, 131, 132, 133, 146, 147, 148, 149, 142, 143, 144, 145, 124, 125, 126, 127, 163, 164, 165, 166, 1156, 1157, 1158, 1159, 1160, 1161, 1172, 1173, 1174, 1175] (by decide +kernel) (by decide +kernel)
set_option maxRecDepth 20000 in
theorem gL_law_X13_oath : GoodIn wsL_law (wsV RL 70 RX13 yX13_oath wsX13_oath) := goodIn_app (goodIn_of _ (by decide +kernel)) ggL_law_X13_oath
set_option maxRecDepth 20000 in
theorem ggL_law_X11_pay : GoodIn wsL_law wsX11_pay := goodIn_r _ [618, 19, 576, 84, 85, 18, 86, 76, 45, 619, 620, 621, 622, 74, 77, 623, 624, 232, 233, 234, 78, 625, 626, 627, 628, 90, 629, 630, 631, 88, 89, 91, 92, 632, 633, 634, 635, 530, 636, 637, 638, 582, 583, 584, 585, 639, 640, 641, 642, 643, 527, 644, 222, 223, 224, 225, 46, 226, 227, 228, 229, 15, 230, 231, 235, 236, 237, 26, 238, 239, 240, 241, 547, 548, 549, 550, 551, 552, 553, 554, 555, 106, 107, 96, 108, 109, 110, 2, 111, 112, 113, 645, 646, 647, 648, 114, 115, 116, 117, 118, 1152, 1153, 1154, 1155, 1163, 1164, 1165, 1166, 1167, 1168, 1169, 1170, 1171, 1176, 1177, 1178, 1179, 1180, 1181, 1182, 1183, 1184, 1185, 1186, 1187, 1188, 1189, 1190, 1191, 1192, 1193, 1194, 1195, 1196, 1197, 1198, 1199, 1200, 1162] (by decide +kernel) (by decide +kernel)
set_option maxRecDepth 20000 in
theorem gL_law_X11_pay : GoodIn wsL_law (wsV RL 71 RX11 yX11_pay wsX11_pay) := goodIn_app (goodIn_of _ (by decide +kernel)) ggL_law_X11_pay
set_option maxRecDepth 20000 in
theorem ggL_law_X13_pay : GoodIn wsL_law wsX13_pay := goodIn_r _ [652, 567, 232, 233, 234, 54, 598, 599, 600, 5, 601, 128, 129, 130, 131, 132, 133, 653, 654, 655, 656, 146, 147, 148, 149, 142, 143, 144, 145, 657, 658, 659, 660, 124, 125, 126, 127, 661, 662, 663, 664, 163, 164, 165, 166, 665, 666, 667, 668, 1156, 1157, 1158, 1159, 1160, 1161, 1172, 1173, 1174, 1175] (by decide +kernel) (by decide +kernel)
set_option maxRecDepth 20000 in
theorem gL_law_X13_pay : GoodIn wsL_law (wsV RL 74 RX13 yX13_pay wsX13_pay) := goodIn_app (goodIn_of _ (by decide +kernel)) ggL_law_X13_pay
set_option maxRecDepth 20000 in
theorem ggL_law_X11_renew : GoodIn wsL_law wsX11_renew := goodIn_r _ [672, 19, 576, 84, 85, 18, 86, 76, 45, 673, 674, 675, 676, 77, 623, 677, 520, 74, 625, 678, 679, 680, 681, 626, 627, 628, 90, 629, 630, 631, 88, 89, 91, 92, 682, 683, 684, 685, 531, 632, 633, 634, 635, 530, 636, 637, 638, 582, 583, 584, 585, 465, 466, 467, 222, 223, 224, 225, 46, 226, 227, 228, 229, 15, 230, 231, 232, 233, 234, 235, 236, 237, 26, 238, 239, 240, 241, 547, 548, 549, 550, 551, 552, 553, 554, 555, 106, 107, 96, 108, 109, 110, 2, 111, 112, 113, 686, 687, 688, 689, 98, 545, 100, 99, 546, 690, 691, 692, 693, 537, 538, 539, 540, 37, 541, 542, 543, 544, 645, 646, 647, 648, 114, 115, 116, 117, 118, 1152, 1153, 1154, 1155, 1163, 1164, 1165, 1166, 1167, 1168, 1169, 1170, 1171, 1176, 1177, 1178, 1179, 1180, 1181, 1182, 1183, 1184, 1185, 1186, 1187, 1188, 1189, 1190, 1191, 1192, 1193, 1194, 1195, 1196, 1197, 1198, 1199, 1200, 1162] (by decide +kernel) (by decide +kernel)
set_option maxRecDepth 20000 in
theorem gL_law_X11_renew : GoodIn wsL_law (wsV RL 75 RX11 yX11_renew wsX11_renew) := goodIn_app (goodIn_of _ (by decide +kernel)) ggL_law_X11_renew
set_option maxRecDepth 20000 in
theorem ggL_law_X13_renew : GoodIn wsL_law wsX13_renew := goodIn_r _ [697, 54, 598, 599, 600, 5, 601, 128, 129, 130, 131, 132, 133, 653, 654, 655, 656, 146, 147, 148, 149, 142, 143, 144, 145, 698, 699, 700, 701, 657, 658, 659, 660, 124, 125, 126, 127, 163, 164, 165, 166, 568, 569, 570, 571, 665, 666, 667, 668, 1156, 1157, 1158, 1159, 1160, 1161, 1172, 1173, 1174, 1175] (by decide +kernel) (by decide +kernel)
set_option maxRecDepth 20000 in
theorem gL_law_X13_renew : GoodIn wsL_law (wsV RL 78 RX13 yX13_renew wsX13_renew) := goodIn_app (goodIn_of _ (by decide +kernel)) ggL_law_X13_renew
set_option maxRecDepth 20000 in
theorem ggL_law_X11_undo : GoodIn wsL_law wsX11_undo := goodIn_r _ [705, 19, 576, 84, 85, 18, 86, 76, 45, 706, 707, 708, 709, 625, 74, 77, 677, 623, 87, 88, 89, 90, 91, 92, 222, 223, 224, 225, 46, 226, 227, 228, 229, 15, 230, 231, 232, 233, 234, 235, 236, 237, 26, 238, 239, 240, 241, 547, 548, 549, 550, 551, 552, 553, 554, 555, 106, 107, 96, 108, 109, 110, 2, 111, 112, 113, 686, 687, 688, 689, 98, 545, 100, 99, 546, 114, 115, 116, 117, 118, 1152, 1153, 1154, 1155, 1163, 1164, 1165, 1166, 1167, 1168, 1169, 1170, 1171, 1176, 1177, 1178, 1179, 1180, 1181, 1182, 1183, 1184, 1185, 1186, 1187, 1188, 1189, 1190, 1191, 1192, 1193, 1194, 1195, 1196, 1197, 1198, 1199, 1200, 1162] (by decide +kernel) (by decide +kernel)
set_option maxRecDepth 20000 in
theorem gL_law_X11_undo : GoodIn wsL_law (wsV RL 79 RX11 yX11_undo wsX11_undo) := goodIn_app (goodIn_of _ (by decide +kernel)) ggL_law_X11_undo
set_option maxRecDepth 20000 in
theorem ggL_law_X13_undo : GoodIn wsL_law wsX13_undo := goodIn_r _ [713, 54, 598, 599, 600, 5, 601, 128, 129, 130, 131, 132, 133, 146, 147, 148, 149, 142, 143, 144, 145, 124, 125, 126, 127, 163, 164, 165, 166, 1156, 1157, 1158, 1159, 1160, 1161, 1172, 1173, 1174, 1175] (by decide +kernel) (by decide +kernel)
set_option maxRecDepth 20000 in
theorem gL_law_X13_undo : GoodIn wsL_law (wsV RL 82 RX13 yX13_undo wsX13_undo) := goodIn_app (goodIn_of _ (by decide +kernel)) ggL_law_X13_undo
set_option maxRecDepth 20000 in
theorem ggL_law_X11_redeem : GoodIn wsL_law wsX11_redeem := goodIn_r _ [717, 19, 576, 84, 85, 18, 86, 76, 45, 718, 719, 720, 721, 77, 623, 78, 678, 679, 680, 681, 74, 626, 627, 628, 90, 629, 630, 631, 88, 89, 91, 92, 682, 683, 684, 685, 531, 632, 633, 634, 635, 530, 636, 637, 638, 582, 583, 584, 585, 639, 640, 641, 642, 643, 527, 644, 645, 646, 647, 648, 722, 723, 724, 725, 726, 463, 39, 43, 222, 223, 224, 225, 46, 226, 227, 228, 229, 15, 230, 231, 232, 233, 234, 235, 236, 237, 26, 238, 239, 240, 241, 547, 548, 549, 550, 551, 552, 553, 554, 555, 106, 107, 96, 108, 109, 110, 2, 111, 112, 113, 199, 200, 201, 114, 115, 116, 117, 118, 1152, 1153, 1154, 1155, 1163, 1164, 1165, 1166, 1167, 1168, 1169, 1170, 1171, 1176, 1177, 1178, 1179, 1180, 1181, 1182, 1183, 1184, 1185, 1186, 1187, 1188, 1189, 1190, 1191, 1192, 1193, 1194, 1195, 1196, 1197, 1198, 1199, 1200, 1162] (by decide +kernel) (by decide +kernel)
set_option maxRecDepth 20000 in
theorem gL_law_X11_redeem : GoodIn wsL_law (wsV RL 83 RX11 yX11_redeem wsX11_redeem) := goodIn_app (goodIn_of _ (by decide +kernel)) ggL_law_X11_redeem
set_option maxRecDepth 20000 in
theorem ggL_law_X13_redeem : GoodIn wsL_law wsX13_redeem := goodIn_r _ [730, 54, 598, 599, 600, 5, 601, 128, 129, 130, 131, 132, 133, 653, 654, 655, 656, 146, 147, 148, 149, 142, 143, 144, 145, 698, 699, 700, 701, 657, 658, 659, 660, 124, 125, 126, 127, 661, 662, 663, 664, 665, 666, 667, 668, 163, 164, 165, 166, 731, 732, 733, 734, 435, 436, 437, 438, 257, 258, 259, 260, 261, 262, 263, 264, 1156, 1157, 1158, 1159, 1160, 1161, 1172, 1173, 1174, 1175] (by decide +kernel) (by decide +kernel)
set_option maxRecDepth 20000 in
theorem gL_law_X13_redeem : GoodIn wsL_law (wsV RL 86 RX13 yX13_redeem wsX13_redeem) := goodIn_app (goodIn_of _ (by decide +kernel)) ggL_law_X13_redeem
