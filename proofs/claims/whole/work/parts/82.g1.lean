set_option maxRecDepth 20000 in
theorem ggL_law_X11_runText : GoodIn wsL_law wsX11_runText := goodIn_r _ [779, 23, 15, 149, 150, 151, 14, 152, 153, 154, 155, 156, 43, 157, 158, 780, 319, 320, 321, 322, 323, 324, 325, 49, 48, 326, 201, 184, 202, 327, 255, 235, 256, 237, 257, 258, 240, 259, 328, 329, 52, 330, 245, 246, 247, 230, 231, 232, 730, 731, 732, 78, 733, 99, 706, 405, 406, 97, 407, 408, 781, 782, 783, 2, 784, 31, 32, 785, 563, 564, 30, 565, 401, 402, 403, 786, 787, 788, 789, 703, 790, 98, 791, 707, 708, 709, 710, 711, 712, 713, 714, 715, 716, 717, 718, 719, 107, 792, 793, 794, 702, 795, 796, 797, 415, 798, 437, 439, 438, 799, 800, 801, 422, 802, 427, 428, 705, 803, 804, 805, 502, 806, 512, 513, 514, 807, 721, 398, 399, 400, 272, 273, 274, 275, 276, 277, 278, 279, 280, 167, 168, 169, 170, 171, 172, 173, 174, 175, 176, 177, 178, 179, 180, 181, 182, 183, 185, 186, 187, 188, 189, 190, 191, 192, 193, 194, 195, 196, 197, 198, 199, 47, 200, 203, 204, 205, 206, 207, 208, 209, 210, 211, 46, 281, 282, 214, 283, 284, 285, 286, 287, 288, 289, 290, 291, 292, 293, 1130, 1131, 1132, 1133, 1134, 1135, 1136, 1137, 1159, 1160, 1161, 1162, 1163, 1164, 1165, 1166, 1167, 1168, 1169, 1170, 1171, 1154, 1155, 1156, 1157, 1186, 1187, 1188, 1189, 1190, 1191, 1175, 1176, 1177, 1197, 1198, 1199, 1200, 1201, 1202, 1203, 1192, 1193, 1194, 1195, 1196] (by decide +kernel) (by decide +kernel)
set_option maxRecDepth 20000 in
theorem gL_law_X11_runText : GoodIn wsL_law (wsV RL 44 RX11 yX11_runText wsX11_runText) := goodIn_app (goodIn_of _ (by decide +kernel)) ggL_law_X11_runText
set_option maxRecDepth 20000 in
theorem ggL_law_X11_reset : GoodIn wsL_law wsX11_reset := goodIn_r _ [927, 23, 27, 928, 929, 930, 22, 931, 85, 856, 857, 858, 859, 89, 531, 532, 533, 26, 534, 535, 127, 536, 537, 538, 539, 540, 79, 80, 82, 84, 86, 87, 541, 542, 543, 544, 545, 546, 547, 35, 548, 549, 550, 551, 552, 553, 554, 555, 556, 557, 121, 558, 559, 560, 561, 562, 563, 564, 30, 565, 401, 402, 403, 566, 567, 568, 569, 1130, 1131, 1132, 1133, 1134, 1135, 1136, 1137, 1159, 1160, 1161, 1162, 1163, 1164, 1165, 1166, 1167, 1168, 1169, 1170, 1171, 1172, 1173, 1174, 1178, 1179, 1175, 1176, 1177, 1186, 1187, 1188] (by decide +kernel) (by decide +kernel)
set_option maxRecDepth 20000 in
theorem gL_law_X11_reset : GoodIn wsL_law (wsV RL 56 RX11 yX11_reset wsX11_reset) := goodIn_app (goodIn_of _ (by decide +kernel)) ggL_law_X11_reset
set_option maxRecDepth 20000 in
theorem ggL_law_X11_undo : GoodIn wsL_law wsX11_undo := goodIn_r _ [939, 27, 23, 940, 941, 942, 26, 943, 536, 944, 945, 946, 947, 127, 535, 537, 538, 539, 22, 540, 79, 80, 82, 84, 85, 89, 86, 87, 541, 542, 543, 544, 545, 546, 547, 35, 548, 549, 550, 551, 552, 553, 554, 555, 556, 557, 121, 558, 559, 560, 561, 562, 563, 564, 30, 565, 401, 402, 403, 1130, 1131, 1132, 1133, 1134, 1135, 1136, 1137, 1172, 1173, 1174, 1159, 1160, 1161, 1162, 1163, 1164, 1165, 1166, 1167, 1168, 1169, 1170, 1171, 1178, 1179, 1175, 1176, 1177] (by decide +kernel) (by decide +kernel)
set_option maxRecDepth 20000 in
theorem gL_law_X11_undo : GoodIn wsL_law (wsV RL 60 RX11 yX11_undo wsX11_undo) := goodIn_app (goodIn_of _ (by decide +kernel)) ggL_law_X11_undo
set_option maxRecDepth 20000 in
theorem ggL_law_X11_finalValue : GoodIn wsL_law wsX11_finalValue := goodIn_r _ [1021, 23, 1000, 857, 858, 22, 859, 89, 689, 690, 691, 30, 692, 401, 402, 403, 1130, 1131, 1132, 1133, 1134, 1135, 1136, 1137, 1159, 1160, 1161, 1162, 1163, 1164, 1165, 1166, 1167, 1168, 1169, 1170, 1171, 1175, 1176, 1177] (by decide +kernel) (by decide +kernel)
set_option maxRecDepth 20000 in
theorem gL_law_X11_finalValue : GoodIn wsL_law (wsV RL 92 RX11 yX11_finalValue wsX11_finalValue) := goodIn_app (goodIn_of _ (by decide +kernel)) ggL_law_X11_finalValue
set_option maxRecDepth 20000 in
theorem ggL_law_X11_failureCall : GoodIn wsL_law wsX11_failureCall := goodIn_r _ [1074, 23, 1059, 1060, 1061, 22, 1062, 541, 1013, 555, 556, 35, 557, 553, 121, 1130, 1131, 1132, 1133, 1134, 1135, 1136, 1137, 1159, 1160, 1161, 1162, 1163, 1164, 1165, 1166, 1167, 1168, 1169, 1170, 1171, 1178, 1179] (by decide +kernel) (by decide +kernel)
set_option maxRecDepth 20000 in
theorem gL_law_X11_failureCall : GoodIn wsL_law (wsV RL 113 RX11 yX11_failureCall wsX11_failureCall) := goodIn_app (goodIn_of _ (by decide +kernel)) ggL_law_X11_failureCall
set_option maxRecDepth 20000 in
theorem ggL_law_X12_complexity : GoodIn wsL_law wsX12_complexity := goodIn_r _ [767, 133, 739, 740, 741, 5, 742, 265, 266, 267, 768, 769, 770, 771, 772, 773, 774, 775, 1138, 1139, 1140, 1141, 1142, 1143, 1144, 1145, 1146, 1147, 1148, 1149, 1150, 1151, 1152, 1153] (by decide +kernel) (by decide +kernel)
set_option maxRecDepth 20000 in
theorem gL_law_X12_complexity : GoodIn wsL_law (wsV RL 43 RX12 yX12_complexity wsX12_complexity) := goodIn_app (goodIn_of _ (by decide +kernel)) ggL_law_X12_complexity
set_option maxRecDepth 20000 in
theorem ggL_law_X12_setMaximumLength : GoodIn wsL_law wsX12_setMaximumLength := goodIn_r _ [843, 133, 265, 266, 5, 267, 680, 681, 682, 683, 684, 135, 1138, 1139, 1140, 1141, 1142, 1143, 1144, 1145, 1146, 1147, 1148, 1149, 1150, 1151, 1152, 1153] (by decide +kernel) (by decide +kernel)
set_option maxRecDepth 20000 in
theorem gL_law_X12_setMaximumLength : GoodIn wsL_law (wsV RL 51 RX12 yX12_setMaximumLength wsX12_setMaximumLength) := goodIn_app (goodIn_of _ (by decide +kernel)) ggL_law_X12_setMaximumLength
set_option maxRecDepth 20000 in
theorem ggL_law_X11_droppedPairs : GoodIn wsL_law wsX11_droppedPairs := goodIn_r _ [983, 23, 1130, 1131, 1132, 1133, 1134, 1135, 1136, 1137, 1159, 1160, 1161, 1162, 1163, 1164, 1165, 1166, 1167, 1168, 1169, 1170, 1171] (by decide +kernel) (by decide +kernel)
set_option maxRecDepth 20000 in
theorem gL_law_X11_droppedPairs : GoodIn wsL_law (wsV RL 76 RX11 yX11_droppedPairs wsX11_droppedPairs) := goodIn_app (goodIn_of _ (by decide +kernel)) ggL_law_X11_droppedPairs
