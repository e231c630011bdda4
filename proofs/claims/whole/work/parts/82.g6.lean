set_option maxRecDepth 20000 in
theorem ggL_law_X11_minimizedCall : GoodIn wsL_law wsX11_minimizedCall := goodIn_r _ [1125, 23, 36, 1059, 1060, 1061, 22, 1062, 541, 1095, 1096, 1097, 2, 1098, 1099, 546, 547, 35, 548, 549, 550, 551, 552, 553, 554, 555, 556, 557, 121, 558, 559, 560, 561, 1100, 1101, 1102, 1103, 37, 1104, 1105, 1106, 1107, 1108, 31, 32, 785, 563, 564, 30, 565, 401, 402, 403, 1013, 786, 787, 788, 78, 789, 99, 703, 790, 98, 791, 731, 732, 733, 706, 405, 406, 97, 407, 408, 707, 708, 709, 710, 711, 712, 713, 714, 715, 258, 240, 259, 716, 717, 718, 719, 107, 792, 793, 794, 702, 795, 796, 797, 415, 798, 437, 439, 438, 799, 800, 801, 422, 802, 427, 428, 705, 803, 804, 805, 502, 806, 512, 513, 514, 807, 721, 398, 399, 400, 1130, 1131, 1132, 1133, 1134, 1135, 1136, 1137, 1159, 1160, 1161, 1162, 1163, 1164, 1165, 1166, 1167, 1168, 1169, 1170, 1171, 1178, 1179, 1186, 1187, 1188, 1175, 1176, 1177, 1197, 1198, 1199, 1200, 1201, 1202, 1203, 1189, 1190, 1191, 1192, 1193, 1194, 1195, 1196] (by decide +kernel) (by decide +kernel)
set_option maxRecDepth 20000 in
theorem gL_law_X11_minimizedCall : GoodIn wsL_law (wsV RL 125 RX11 yX11_minimizedCall wsX11_minimizedCall) := goodIn_app (goodIn_of _ (by decide +kernel)) ggL_law_X11_minimizedCall
set_option maxRecDepth 20000 in
theorem ggL_law_X11_init : GoodIn wsL_law wsX11_init := goodIn_r _ [8, 9, 10, 11, 12, 13, 14, 15, 16, 17, 18, 19, 20, 21, 22, 23, 24, 25, 26, 27, 28, 29, 30, 31, 32, 33, 34, 35, 36, 37, 38, 39, 40, 41, 42, 43, 44, 45, 46, 47, 48, 49, 50, 51, 52, 53, 54, 55, 56, 57, 58, 59, 60, 61, 62, 63, 64, 65, 66, 67, 68, 69, 70, 71, 72, 73, 74, 75, 76, 77, 78, 79, 80, 81, 82, 83, 84, 85, 86, 87, 88, 89, 90, 91, 92, 93, 94, 95, 96, 97, 98, 99, 100, 101, 102, 103, 104, 105, 106, 107, 108, 109, 110, 111, 112, 113, 114, 115, 116, 117, 118, 119, 120, 121, 122, 123, 124, 125, 126, 127, 128, 1154, 1155, 1156, 1157, 1130, 1131, 1132, 1133, 1134, 1135, 1136, 1137, 1158, 1159, 1160, 1161, 1162, 1163, 1164, 1165, 1166, 1167, 1168, 1169, 1170, 1171, 1172, 1173, 1174, 1175, 1176, 1177, 1178, 1179, 1180, 1181, 1182, 1183, 1184, 1185, 1186, 1187, 1188, 1189, 1190, 1191] (by decide +kernel) (by decide +kernel)
set_option maxRecDepth 20000 in
theorem gL_law_X11_init : GoodIn wsL_law (wsX11_init) := ggL_law_X11_init
set_option maxRecDepth 20000 in
theorem ggL_law_X11_setMaximumLength : GoodIn wsL_law wsX11_setMaximumLength := goodIn_r _ [839, 27, 23, 531, 532, 533, 26, 534, 535, 127, 536, 537, 538, 539, 22, 540, 79, 80, 82, 84, 85, 89, 86, 87, 541, 542, 543, 544, 545, 546, 547, 35, 548, 549, 550, 551, 552, 553, 554, 555, 556, 557, 121, 558, 559, 560, 561, 562, 563, 564, 30, 565, 401, 402, 403, 1130, 1131, 1132, 1133, 1134, 1135, 1136, 1137, 1159, 1160, 1161, 1162, 1163, 1164, 1165, 1166, 1167, 1168, 1169, 1170, 1171, 1172, 1173, 1174, 1178, 1179, 1175, 1176, 1177] (by decide +kernel) (by decide +kernel)
set_option maxRecDepth 20000 in
theorem gL_law_X11_setMaximumLength : GoodIn wsL_law (wsV RL 48 RX11 yX11_setMaximumLength wsX11_setMaximumLength) := goodIn_app (goodIn_of _ (by decide +kernel)) ggL_law_X11_setMaximumLength
set_option maxRecDepth 20000 in
theorem ggL_law_X12_runText : GoodIn wsL_law wsX12_runText := goodIn_r _ [811, 264, 136, 133, 265, 266, 5, 267, 812, 813, 814, 815, 137, 816, 817, 818, 819, 138, 820, 821, 822, 823, 768, 769, 770, 771, 772, 773, 774, 775, 824, 825, 826, 827, 828, 829, 830, 831, 832, 833, 834, 835, 1138, 1139, 1140, 1141, 1142, 1143, 1144, 1145, 1146, 1147, 1148, 1149, 1150, 1151, 1152, 1153] (by decide +kernel) (by decide +kernel)
set_option maxRecDepth 20000 in
theorem gL_law_X12_runText : GoodIn wsL_law (wsV RL 47 RX12 yX12_runText wsX12_runText) := goodIn_app (goodIn_of _ (by decide +kernel)) ggL_law_X12_runText
set_option maxRecDepth 20000 in
theorem ggL_law_X11_sequenceCall : GoodIn wsL_law wsX11_sequenceCall := goodIn_r _ [1012, 23, 1000, 857, 858, 22, 859, 89, 1013, 555, 556, 35, 557, 553, 121, 1130, 1131, 1132, 1133, 1134, 1135, 1136, 1137, 1159, 1160, 1161, 1162, 1163, 1164, 1165, 1166, 1167, 1168, 1169, 1170, 1171, 1178, 1179] (by decide +kernel) (by decide +kernel)
set_option maxRecDepth 20000 in
theorem gL_law_X11_sequenceCall : GoodIn wsL_law (wsV RL 88 RX11 yX11_sequenceCall wsX11_sequenceCall) := goodIn_app (goodIn_of _ (by decide +kernel)) ggL_law_X11_sequenceCall
set_option maxRecDepth 20000 in
theorem ggL_law_X11_sequenceLength : GoodIn wsL_law wsX11_sequenceLength := goodIn_r _ [999, 23, 1000, 857, 858, 22, 859, 89, 1130, 1131, 1132, 1133, 1134, 1135, 1136, 1137, 1159, 1160, 1161, 1162, 1163, 1164, 1165, 1166, 1167, 1168, 1169, 1170, 1171, 1178, 1179] (by decide +kernel) (by decide +kernel)
set_option maxRecDepth 20000 in
theorem gL_law_X11_sequenceLength : GoodIn wsL_law (wsV RL 84 RX11 yX11_sequenceLength wsX11_sequenceLength) := goodIn_app (goodIn_of _ (by decide +kernel)) ggL_law_X11_sequenceLength
set_option maxRecDepth 20000 in
theorem ggL_law_X12_reset : GoodIn wsL_law wsX12_reset := goodIn_r _ [935, 133, 680, 681, 682, 5, 683, 684, 135, 141, 142, 143, 144, 1138, 1139, 1140, 1141, 1142, 1143, 1144, 1145, 1146, 1147, 1148, 1149, 1150, 1151, 1152, 1153] (by decide +kernel) (by decide +kernel)
set_option maxRecDepth 20000 in
theorem gL_law_X12_reset : GoodIn wsL_law (wsV RL 59 RX12 yX12_reset wsX12_reset) := goodIn_app (goodIn_of _ (by decide +kernel)) ggL_law_X12_reset
set_option maxRecDepth 20000 in
theorem ggL_law_X11_skippedPairs : GoodIn wsL_law wsX11_skippedPairs := goodIn_r _ [967, 23, 1130, 1131, 1132, 1133, 1134, 1135, 1136, 1137, 1159, 1160, 1161, 1162, 1163, 1164, 1165, 1166, 1167, 1168, 1169, 1170, 1171] (by decide +kernel) (by decide +kernel)
set_option maxRecDepth 20000 in
theorem gL_law_X11_skippedPairs : GoodIn wsL_law (wsV RL 68 RX11 yX11_skippedPairs wsX11_skippedPairs) := goodIn_app (goodIn_of _ (by decide +kernel)) ggL_law_X11_skippedPairs
set_option maxRecDepth 20000 in
theorem ggL_law_X12_clearText : GoodIn wsL_law wsX12_clearText := goodIn_r _ [297, 264, 1138, 1139, 1140, 1141, 1142, 1143, 1144, 1145, 1146, 1147, 1148, 1149, 1150, 1151, 1152, 1153] (by decide +kernel) (by decide +kernel)
set_option maxRecDepth 20000 in
theorem gL_law_X12_clearText : GoodIn wsL_law (wsV RL 22 RX12 yX12_clearText wsX12_clearText) := goodIn_app (goodIn_of _ (by decide +kernel)) ggL_law_X12_clearText
