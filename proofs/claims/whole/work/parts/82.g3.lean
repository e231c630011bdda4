set_option maxRecDepth 20000 in
theorem ggL_law_X11_removeMethod : GoodIn wsL_law wsX11_removeMethod := goodIn_r _ [729, 23, 730, 731, 732, 78, 733, 99, 706, 405, 406, 97, 407, 408, 734, 698, 699, 700, 701, 77, 94, 98, 702, 703, 704, 90, 91, 92, 10, 11, 93, 29, 30, 95, 96, 100, 101, 102, 103, 104, 105, 106, 107, 108, 109, 110, 111, 112, 113, 114, 115, 116, 117, 705, 563, 564, 565, 401, 402, 403, 707, 708, 709, 710, 711, 712, 713, 714, 715, 258, 240, 259, 716, 717, 718, 719, 720, 441, 442, 443, 444, 445, 446, 447, 448, 449, 450, 451, 452, 453, 454, 455, 456, 457, 458, 183, 184, 185, 459, 460, 179, 180, 181, 182, 186, 187, 188, 189, 461, 462, 192, 463, 464, 465, 466, 467, 468, 469, 470, 471, 472, 200, 201, 202, 203, 204, 205, 206, 527, 528, 529, 2, 530, 27, 531, 532, 533, 26, 534, 535, 127, 536, 537, 538, 539, 22, 540, 79, 80, 82, 84, 85, 89, 86, 87, 541, 542, 543, 544, 545, 546, 547, 35, 548, 549, 550, 551, 552, 553, 554, 555, 556, 557, 121, 558, 559, 560, 561, 562, 566, 567, 568, 569, 570, 1130, 1131, 1132, 1133, 1134, 1135, 1136, 1137, 1159, 1160, 1161, 1162, 1163, 1164, 1165, 1166, 1167, 1168, 1169, 1170, 1171, 1186, 1187, 1188, 1189, 1190, 1191, 1175, 1176, 1177, 1172, 1173, 1174, 1178, 1179] (by decide +kernel) (by decide +kernel)
set_option maxRecDepth 20000 in
theorem gL_law_X11_removeMethod : GoodIn wsL_law (wsV RL 32 RX11 yX11_removeMethod wsX11_removeMethod) := goodIn_app (goodIn_of _ (by decide +kernel)) ggL_law_X11_removeMethod
set_option maxRecDepth 20000 in
theorem ggL_law_X11_enabledMethods : GoodIn wsL_law wsX11_enabledMethods := goodIn_r _ [1029, 23, 1000, 857, 858, 22, 859, 89, 570, 405, 406, 97, 407, 408, 1030, 1031, 1032, 78, 1033, 99, 703, 791, 731, 732, 733, 706, 707, 708, 709, 710, 711, 712, 713, 714, 715, 258, 240, 259, 716, 717, 718, 719, 107, 792, 793, 794, 702, 795, 796, 797, 415, 798, 437, 439, 438, 799, 800, 801, 422, 802, 427, 428, 1130, 1131, 1132, 1133, 1134, 1135, 1136, 1137, 1159, 1160, 1161, 1162, 1163, 1164, 1165, 1166, 1167, 1168, 1169, 1170, 1171, 1186, 1187, 1188, 1189, 1190, 1191, 1197, 1198, 1199, 1192, 1193, 1194, 1195, 1196, 1175, 1176, 1177] (by decide +kernel) (by decide +kernel)
set_option maxRecDepth 20000 in
theorem gL_law_X11_enabledMethods : GoodIn wsL_law (wsV RL 96 RX11 yX11_enabledMethods wsX11_enabledMethods) := goodIn_app (goodIn_of _ (by decide +kernel)) ggL_law_X11_enabledMethods
set_option maxRecDepth 20000 in
theorem ggL_law_X12_minimizedCall : GoodIn wsL_law wsX12_minimizedCall := goodIn_r _ [1129, 1113, 140, 1067, 1068, 1069, 5, 1070, 133, 265, 266, 267, 1114, 1115, 1116, 1117, 896, 897, 898, 899, 908, 909, 910, 911, 1087, 1088, 1089, 1090, 1118, 1119, 1120, 1121, 812, 813, 814, 815, 137, 816, 817, 818, 819, 138, 820, 821, 822, 823, 768, 769, 770, 771, 772, 773, 774, 775, 824, 825, 826, 827, 828, 829, 830, 831, 832, 833, 834, 835, 1138, 1139, 1140, 1141, 1142, 1143, 1144, 1145, 1146, 1147, 1148, 1149, 1150, 1151, 1152, 1153] (by decide +kernel) (by decide +kernel)
set_option maxRecDepth 20000 in
theorem gL_law_X12_minimizedCall : GoodIn wsL_law (wsV RL 128 RX12 yX12_minimizedCall wsX12_minimizedCall) := goodIn_app (goodIn_of _ (by decide +kernel)) ggL_law_X12_minimizedCall
set_option maxRecDepth 20000 in
theorem ggL_law_X12_enabledMethods : GoodIn wsL_law wsX12_enabledMethods := goodIn_r _ [1037, 133, 1005, 1006, 1007, 5, 1008, 265, 266, 267, 904, 905, 906, 907, 812, 813, 814, 815, 137, 896, 897, 898, 899, 908, 909, 910, 911, 816, 817, 818, 819, 138, 820, 821, 822, 823, 768, 769, 770, 771, 772, 773, 774, 775, 824, 825, 826, 827, 828, 829, 830, 831, 832, 833, 834, 835, 1138, 1139, 1140, 1141, 1142, 1143, 1144, 1145, 1146, 1147, 1148, 1149, 1150, 1151, 1152, 1153] (by decide +kernel) (by decide +kernel)
set_option maxRecDepth 20000 in
theorem gL_law_X12_enabledMethods : GoodIn wsL_law (wsV RL 99 RX12 yX12_enabledMethods wsX12_enabledMethods) := goodIn_app (goodIn_of _ (by decide +kernel)) ggL_law_X12_enabledMethods
set_option maxRecDepth 20000 in
theorem ggL_law_X12_failureCall : GoodIn wsL_law wsX12_failureCall := goodIn_r _ [1078, 1067, 1068, 1069, 5, 1070, 133, 265, 266, 267, 896, 897, 898, 899, 908, 909, 910, 911, 1138, 1139, 1140, 1141, 1142, 1143, 1144, 1145, 1146, 1147, 1148, 1149, 1150, 1151, 1152, 1153] (by decide +kernel) (by decide +kernel)
set_option maxRecDepth 20000 in
theorem gL_law_X12_failureCall : GoodIn wsL_law (wsV RL 116 RX12 yX12_failureCall wsX12_failureCall) := goodIn_app (goodIn_of _ (by decide +kernel)) ggL_law_X12_failureCall
set_option maxRecDepth 20000 in
theorem ggL_law_X11_failureVerdict : GoodIn wsL_law wsX11_failureVerdict := goodIn_r _ [1082, 23, 1059, 1060, 1061, 22, 1062, 541, 1130, 1131, 1132, 1133, 1134, 1135, 1136, 1137, 1159, 1160, 1161, 1162, 1163, 1164, 1165, 1166, 1167, 1168, 1169, 1170, 1171] (by decide +kernel) (by decide +kernel)
set_option maxRecDepth 20000 in
theorem gL_law_X11_failureVerdict : GoodIn wsL_law (wsV RL 117 RX11 yX11_failureVerdict wsX11_failureVerdict) := goodIn_app (goodIn_of _ (by decide +kernel)) ggL_law_X11_failureVerdict
set_option maxRecDepth 20000 in
theorem ggL_law_X11_failureCount : GoodIn wsL_law wsX11_failureCount := goodIn_r _ [1050, 23, 1130, 1131, 1132, 1133, 1134, 1135, 1136, 1137, 1159, 1160, 1161, 1162, 1163, 1164, 1165, 1166, 1167, 1168, 1169, 1170, 1171] (by decide +kernel) (by decide +kernel)
set_option maxRecDepth 20000 in
theorem gL_law_X11_failureCount : GoodIn wsL_law (wsV RL 105 RX11 yX11_failureCount wsX11_failureCount) := goodIn_app (goodIn_of _ (by decide +kernel)) ggL_law_X11_failureCount
set_option maxRecDepth 20000 in
theorem ggL_law_X12_droppedPairs : GoodIn wsL_law wsX12_droppedPairs := goodIn_r _ [987, 133, 1138, 1139, 1140, 1141, 1142, 1143, 1144, 1145, 1146, 1147, 1148, 1149, 1150, 1151, 1152, 1153] (by decide +kernel) (by decide +kernel)
set_option maxRecDepth 20000 in
theorem gL_law_X12_droppedPairs : GoodIn wsL_law (wsV RL 79 RX12 yX12_droppedPairs wsX12_droppedPairs) := goodIn_app (goodIn_of _ (by decide +kernel)) ggL_law_X12_droppedPairs
