set_option maxRecDepth 20000 in
theorem ggL_law_X11_minimizedLength : GoodIn wsL_law wsX11_minimizedLength := goodIn_r _ [1094, 23, 36, 1059, 1060, 1061, 22, 1062, 541, 1095, 1096, 1097, 2, 1098, 1099, 546, 547, 35, 548, 549, 550, 551, 552, 553, 554, 555, 556, 557, 121, 558, 559, 560, 561, 1100, 1101, 1102, 1103, 37, 1104, 1105, 1106, 1107, 1108, 31, 32, 785, 563, 564, 30, 565, 401, 402, 403, 1013, 786, 787, 788, 78, 789, 99, 703, 790, 98, 791, 731, 732, 733, 706, 405, 406, 97, 407, 408, 707, 708, 709, 710, 711, 712, 713, 714, 715, 258, 240, 259, 716, 717, 718, 719, 107, 792, 793, 794, 702, 795, 796, 797, 415, 798, 437, 439, 438, 799, 800, 801, 422, 802, 427, 428, 705, 803, 804, 805, 502, 806, 512, 513, 514, 807, 721, 398, 399, 400, 1130, 1131, 1132, 1133, 1134, 1135, 1136, 1137, 1159, 1160, 1161, 1162, 1163, 1164, 1165, 1166, 1167, 1168, 1169, 1170, 1171, 1178, 1179, 1186, 1187, 1188, 1175, 1176, 1177, 1197, 1198, 1199, 1200, 1201, 1202, 1203, 1189, 1190, 1191, 1192, 1193, 1194, 1195, 1196] (by decide +kernel) (by decide +kernel)
set_option maxRecDepth 20000 in
theorem gL_law_X11_minimizedLength : GoodIn wsL_law (wsV RL 121 RX11 yX11_minimizedLength wsX11_minimizedLength) := goodIn_app (goodIn_of _ (by decide +kernel)) ggL_law_X11_minimizedLength
set_option maxRecDepth 20000 in
theorem ggL_law_X12_loadComponent : GoodIn wsL_law wsX12_loadComponent := goodIn_r _ [574, 575, 576, 133, 134, 264, 577, 578, 579, 5, 580, 581, 582, 583, 584, 585, 586, 587, 588, 589, 590, 591, 136, 265, 266, 267, 592, 593, 594, 595, 596, 597, 598, 599, 600, 601, 602, 603, 604, 605, 606, 607, 608, 609, 610, 611, 612, 613, 614, 615, 616, 617, 618, 619, 620, 621, 622, 623, 624, 625, 626, 627, 628, 629, 630, 631, 632, 633, 634, 635, 636, 637, 638, 639, 640, 641, 642, 643, 644, 645, 646, 647, 648, 649, 650, 651, 652, 653, 654, 655, 656, 657, 658, 659, 660, 661, 662, 663, 664, 665, 666, 667, 668, 669, 670, 671, 672, 673, 674, 675, 676, 677, 678, 679, 680, 681, 682, 683, 684, 135, 141, 142, 143, 144, 1138, 1139, 1140, 1141, 1142, 1143, 1144, 1145, 1146, 1147, 1148, 1149, 1150, 1151, 1152, 1153] (by decide +kernel) (by decide +kernel)
set_option maxRecDepth 20000 in
theorem gL_law_X12_loadComponent : GoodIn wsL_law (wsV RL 26 RX12 yX12_loadComponent wsX12_loadComponent) := goodIn_app (goodIn_of _ (by decide +kernel)) ggL_law_X12_loadComponent
set_option maxRecDepth 20000 in
theorem ggL_law_X11_clearText : GoodIn wsL_law wsX11_clearText := goodIn_r _ [271, 15, 149, 150, 151, 14, 152, 153, 154, 155, 156, 43, 157, 158, 272, 273, 274, 275, 276, 277, 278, 279, 48, 280, 167, 168, 169, 170, 171, 49, 172, 173, 174, 175, 176, 177, 178, 179, 180, 181, 182, 183, 184, 185, 186, 187, 188, 189, 190, 191, 192, 193, 194, 195, 196, 197, 198, 199, 47, 200, 201, 202, 203, 204, 205, 206, 207, 208, 209, 210, 211, 46, 281, 282, 214, 283, 284, 285, 286, 287, 288, 289, 290, 291, 52, 292, 293, 1130, 1131, 1132, 1133, 1134, 1135, 1136, 1137, 1154, 1155, 1156, 1157] (by decide +kernel) (by decide +kernel)
set_option maxRecDepth 20000 in
theorem gL_law_X11_clearText : GoodIn wsL_law (wsV RL 18 RX11 yX11_clearText wsX11_clearText) := goodIn_app (goodIn_of _ (by decide +kernel)) ggL_law_X11_clearText
set_option maxRecDepth 20000 in
theorem ggL_law_X12_findState : GoodIn wsL_law wsX12_findState := goodIn_r _ [1046, 139, 920, 921, 922, 5, 923, 133, 137, 904, 905, 906, 907, 812, 813, 814, 815, 896, 897, 898, 899, 908, 909, 910, 911, 816, 817, 818, 819, 138, 820, 821, 822, 823, 768, 769, 770, 771, 772, 773, 774, 775, 824, 825, 826, 827, 828, 829, 830, 831, 832, 833, 834, 835, 265, 266, 267, 1138, 1139, 1140, 1141, 1142, 1143, 1144, 1145, 1146, 1147, 1148, 1149, 1150, 1151, 1152, 1153] (by decide +kernel) (by decide +kernel)
set_option maxRecDepth 20000 in
theorem gL_law_X12_findState : GoodIn wsL_law (wsV RL 104 RX12 yX12_findState wsX12_findState) := goodIn_app (goodIn_of _ (by decide +kernel)) ggL_law_X12_findState
set_option maxRecDepth 20000 in
theorem ggL_law_X11_failureLength : GoodIn wsL_law wsX11_failureLength := goodIn_r _ [1058, 23, 1059, 1060, 1061, 22, 1062, 541, 1130, 1131, 1132, 1133, 1134, 1135, 1136, 1137, 1159, 1160, 1161, 1162, 1163, 1164, 1165, 1166, 1167, 1168, 1169, 1170, 1171, 1178, 1179] (by decide +kernel) (by decide +kernel)
set_option maxRecDepth 20000 in
theorem gL_law_X11_failureLength : GoodIn wsL_law (wsV RL 109 RX11 yX11_failureLength wsX11_failureLength) := goodIn_app (goodIn_of _ (by decide +kernel)) ggL_law_X11_failureLength
set_option maxRecDepth 20000 in
theorem ggL_law_X12_failureLength : GoodIn wsL_law wsX12_failureLength := goodIn_r _ [1066, 1067, 1068, 1069, 5, 1070, 133, 265, 266, 267, 896, 897, 898, 899, 1138, 1139, 1140, 1141, 1142, 1143, 1144, 1145, 1146, 1147, 1148, 1149, 1150, 1151, 1152, 1153] (by decide +kernel) (by decide +kernel)
set_option maxRecDepth 20000 in
theorem gL_law_X12_failureLength : GoodIn wsL_law (wsV RL 112 RX12 yX12_failureLength wsX12_failureLength) := goodIn_app (goodIn_of _ (by decide +kernel)) ggL_law_X12_failureLength
set_option maxRecDepth 20000 in
theorem ggL_law_X12_appendCharacter : GoodIn wsL_law wsX12_appendCharacter := goodIn_r _ [263, 264, 136, 265, 266, 5, 267, 1138, 1139, 1140, 1141, 1142, 1143, 1144, 1145, 1146, 1147, 1148, 1149, 1150, 1151, 1152, 1153] (by decide +kernel) (by decide +kernel)
set_option maxRecDepth 20000 in
theorem gL_law_X12_appendCharacter : GoodIn wsL_law (wsV RL 17 RX12 yX12_appendCharacter wsX12_appendCharacter) := goodIn_app (goodIn_of _ (by decide +kernel)) ggL_law_X12_appendCharacter
set_option maxRecDepth 20000 in
theorem ggL_law_X12_skippedPairs : GoodIn wsL_law wsX12_skippedPairs := goodIn_r _ [971, 133, 1138, 1139, 1140, 1141, 1142, 1143, 1144, 1145, 1146, 1147, 1148, 1149, 1150, 1151, 1152, 1153] (by decide +kernel) (by decide +kernel)
set_option maxRecDepth 20000 in
theorem gL_law_X12_skippedPairs : GoodIn wsL_law (wsV RL 71 RX12 yX12_skippedPairs wsX12_skippedPairs) := goodIn_app (goodIn_of _ (by decide +kernel)) ggL_law_X12_skippedPairs
set_option maxRecDepth 20000 in
theorem ggL_law_X12_undo : GoodIn wsL_law wsX12_undo := goodIn_r _ [951, 684, 133, 135, 1138, 1139, 1140, 1141, 1142, 1143, 1144, 1145, 1146, 1147, 1148, 1149, 1150, 1151, 1152, 1153] (by decide +kernel) (by decide +kernel)
set_option maxRecDepth 20000 in
theorem gL_law_X12_undo : GoodIn wsL_law (wsV RL 63 RX12 yX12_undo wsX12_undo) := goodIn_app (goodIn_of _ (by decide +kernel)) ggL_law_X12_undo
