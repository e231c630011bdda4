set_option maxRecDepth 20000 in
theorem ggL_law_X11_explore : GoodIn wsL_law wsX11_explore := goodIn_r _ [847, 23, 27, 848, 849, 850, 22, 851, 852, 853, 854, 855, 82, 80, 79, 85, 856, 857, 858, 859, 89, 860, 405, 406, 97, 407, 408, 531, 532, 533, 26, 534, 535, 127, 536, 537, 538, 539, 540, 84, 86, 87, 541, 542, 543, 544, 545, 546, 547, 35, 548, 549, 550, 551, 552, 553, 554, 555, 556, 557, 121, 558, 559, 560, 561, 562, 563, 564, 30, 565, 401, 402, 403, 861, 862, 863, 864, 88, 865, 866, 787, 788, 78, 789, 99, 703, 790, 98, 791, 731, 732, 733, 706, 707, 708, 709, 710, 711, 712, 713, 714, 715, 258, 240, 259, 716, 717, 718, 719, 107, 792, 793, 794, 702, 795, 796, 797, 415, 798, 437, 439, 438, 799, 800, 801, 422, 802, 427, 428, 705, 803, 804, 805, 502, 806, 512, 513, 514, 807, 721, 398, 399, 400, 867, 868, 869, 870, 871, 872, 873, 874, 875, 876, 877, 878, 879, 880, 881, 882, 883, 1130, 1131, 1132, 1133, 1134, 1135, 1136, 1137, 1159, 1160, 1161, 1162, 1163, 1164, 1165, 1166, 1167, 1168, 1169, 1170, 1171, 1178, 1179, 1186, 1187, 1188, 1189, 1190, 1191, 1172, 1173, 1174, 1175, 1176, 1177, 1197, 1198, 1199, 1200, 1201, 1202, 1203, 1192, 1193, 1194, 1195, 1196] (by decide +kernel) (by decide +kernel)
set_option maxRecDepth 20000 in
theorem gL_law_X11_explore : GoodIn wsL_law (wsV RL 52 RX11 yX11_explore wsX11_explore) := goodIn_app (goodIn_of _ (by decide +kernel)) ggL_law_X11_explore
set_option maxRecDepth 20000 in
theorem ggL_law_X11_appendCharacter : GoodIn wsL_law wsX11_appendCharacter := goodIn_r _ [148, 15, 149, 150, 151, 14, 152, 153, 154, 155, 156, 43, 157, 158, 159, 160, 161, 162, 163, 164, 165, 166, 48, 167, 168, 169, 170, 171, 49, 172, 173, 174, 175, 176, 177, 178, 179, 180, 181, 182, 183, 184, 185, 186, 187, 188, 189, 190, 191, 192, 193, 194, 195, 196, 197, 198, 199, 47, 200, 201, 202, 203, 204, 205, 206, 207, 208, 209, 210, 211, 46, 212, 213, 214, 215, 216, 217, 218, 219, 220, 50, 51, 52, 53, 54, 55, 56, 57, 221, 222, 223, 224, 225, 226, 227, 228, 229, 230, 231, 232, 233, 234, 235, 236, 237, 238, 239, 240, 241, 242, 243, 244, 245, 246, 247, 248, 249, 250, 251, 252, 253, 254, 255, 256, 257, 258, 259, 1130, 1131, 1132, 1133, 1134, 1135, 1136, 1137, 1154, 1155, 1156, 1157] (by decide +kernel) (by decide +kernel)
set_option maxRecDepth 20000 in
theorem gL_law_X11_appendCharacter : GoodIn wsL_law (wsV RL 13 RX11 yX11_appendCharacter wsX11_appendCharacter) := goodIn_app (goodIn_of _ (by decide +kernel)) ggL_law_X11_appendCharacter
set_option maxRecDepth 20000 in
theorem ggL_law_X11_complexity : GoodIn wsL_law wsX11_complexity := goodIn_r _ [754, 23, 755, 730, 731, 732, 78, 733, 99, 706, 405, 406, 97, 407, 408, 756, 708, 709, 710, 711, 712, 713, 714, 715, 258, 240, 259, 716, 717, 718, 719, 107, 757, 758, 759, 479, 760, 484, 485, 486, 761, 762, 763, 1130, 1131, 1132, 1133, 1134, 1135, 1136, 1137, 1159, 1160, 1161, 1162, 1163, 1164, 1165, 1166, 1167, 1168, 1169, 1170, 1171, 1186, 1187, 1188, 1189, 1190, 1191, 1197, 1198, 1199, 1200, 1201, 1202, 1203] (by decide +kernel) (by decide +kernel)
set_option maxRecDepth 20000 in
theorem gL_law_X11_complexity : GoodIn wsL_law (wsV RL 40 RX11 yX11_complexity wsX11_complexity) := goodIn_app (goodIn_of _ (by decide +kernel)) ggL_law_X11_complexity
set_option maxRecDepth 20000 in
theorem ggL_law_X11_findState : GoodIn wsL_law wsX11_findState := goodIn_r _ [1041, 23, 1042, 872, 873, 22, 874, 84, 856, 857, 858, 859, 89, 875, 876, 877, 30, 878, 401, 402, 403, 1130, 1131, 1132, 1133, 1134, 1135, 1136, 1137, 1159, 1160, 1161, 1162, 1163, 1164, 1165, 1166, 1167, 1168, 1169, 1170, 1171, 1175, 1176, 1177] (by decide +kernel) (by decide +kernel)
set_option maxRecDepth 20000 in
theorem gL_law_X11_findState : GoodIn wsL_law (wsV RL 100 RX11 yX11_findState wsX11_findState) := goodIn_app (goodIn_of _ (by decide +kernel)) ggL_law_X11_findState
set_option maxRecDepth 20000 in
theorem ggL_law_X11_methodCount : GoodIn wsL_law wsX11_methodCount := goodIn_r _ [746, 23, 570, 405, 406, 97, 407, 408, 1130, 1131, 1132, 1133, 1134, 1135, 1136, 1137, 1159, 1160, 1161, 1162, 1163, 1164, 1165, 1166, 1167, 1168, 1169, 1170, 1171, 1186, 1187, 1188, 1189, 1190, 1191] (by decide +kernel) (by decide +kernel)
set_option maxRecDepth 20000 in
theorem gL_law_X11_methodCount : GoodIn wsL_law (wsV RL 36 RX11 yX11_methodCount wsX11_methodCount) := goodIn_app (goodIn_of _ (by decide +kernel)) ggL_law_X11_methodCount
set_option maxRecDepth 20000 in
theorem ggL_law_X12_setInitialValue : GoodIn wsL_law wsX12_setInitialValue := goodIn_r _ [725, 133, 265, 266, 5, 267, 680, 681, 682, 683, 684, 135, 141, 142, 143, 144, 1138, 1139, 1140, 1141, 1142, 1143, 1144, 1145, 1146, 1147, 1148, 1149, 1150, 1151, 1152, 1153] (by decide +kernel) (by decide +kernel)
set_option maxRecDepth 20000 in
theorem gL_law_X12_setInitialValue : GoodIn wsL_law (wsV RL 31 RX12 yX12_setInitialValue wsX12_setInitialValue) := goodIn_app (goodIn_of _ (by decide +kernel)) ggL_law_X12_setInitialValue
set_option maxRecDepth 20000 in
theorem ggL_law_X12_init : GoodIn wsL_law wsX12_init := goodIn_r _ [131, 132, 10, 11, 68, 133, 134, 135, 136, 137, 138, 139, 140, 141, 142, 143, 5, 144, 1138, 1139, 1140, 1141, 1142, 1143, 1144, 1145, 1146, 1147, 1148, 1149, 1150, 1151, 1152, 1153] (by decide +kernel) (by decide +kernel)
set_option maxRecDepth 20000 in
theorem gL_law_X12_init : GoodIn wsL_law (wsX12_init) := ggL_law_X12_init
set_option maxRecDepth 20000 in
theorem ggL_law_X11_poolSize : GoodIn wsL_law wsX11_poolSize := goodIn_r _ [991, 23, 1130, 1131, 1132, 1133, 1134, 1135, 1136, 1137, 1159, 1160, 1161, 1162, 1163, 1164, 1165, 1166, 1167, 1168, 1169, 1170, 1171] (by decide +kernel) (by decide +kernel)
set_option maxRecDepth 20000 in
theorem gL_law_X11_poolSize : GoodIn wsL_law (wsV RL 80 RX11 yX11_poolSize wsX11_poolSize) := goodIn_app (goodIn_of _ (by decide +kernel)) ggL_law_X11_poolSize
