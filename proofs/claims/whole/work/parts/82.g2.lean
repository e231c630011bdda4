set_option maxRecDepth 20000 in
theorem ggL_law_X11_setInitialValue : GoodIn wsL_law wsX11_setInitialValue := goodIn_r _ [688, 23, 689, 690, 691, 30, 692, 401, 402, 403, 693, 694, 695, 78, 696, 94, 697, 698, 699, 700, 701, 77, 98, 702, 99, 703, 704, 90, 91, 92, 10, 11, 93, 29, 95, 96, 97, 100, 101, 102, 103, 104, 105, 106, 107, 108, 109, 110, 111, 112, 113, 114, 115, 116, 117, 705, 563, 564, 565, 706, 405, 406, 407, 408, 707, 708, 709, 710, 711, 712, 713, 714, 715, 258, 240, 259, 716, 717, 718, 719, 720, 441, 442, 443, 444, 445, 446, 447, 448, 449, 450, 451, 452, 453, 454, 455, 456, 457, 458, 183, 184, 185, 459, 460, 179, 180, 181, 182, 186, 187, 188, 189, 461, 462, 192, 463, 464, 465, 466, 467, 468, 469, 470, 471, 472, 200, 201, 202, 203, 204, 205, 206, 721, 398, 399, 400, 527, 528, 529, 2, 530, 27, 531, 532, 533, 26, 534, 535, 127, 536, 537, 538, 539, 22, 540, 79, 80, 82, 84, 85, 89, 86, 87, 541, 542, 543, 544, 545, 546, 547, 35, 548, 549, 550, 551, 552, 553, 554, 555, 556, 557, 121, 558, 559, 560, 561, 562, 566, 567, 568, 569, 1130, 1131, 1132, 1133, 1134, 1135, 1136, 1137, 1159, 1160, 1161, 1162, 1163, 1164, 1165, 1166, 1167, 1168, 1169, 1170, 1171, 1186, 1187, 1188, 1175, 1176, 1177, 1189, 1190, 1191, 1172, 1173, 1174, 1178, 1179] (by decide +kernel) (by decide +kernel)
set_option maxRecDepth 20000 in
theorem gL_law_X11_setInitialValue : GoodIn wsL_law (wsV RL 27 RX11 yX11_setInitialValue wsX11_setInitialValue) := goodIn_app (goodIn_of _ (by decide +kernel)) ggL_law_X11_setInitialValue
set_option maxRecDepth 20000 in
theorem ggL_law_X12_explore : GoodIn wsL_law wsX12_explore := goodIn_r _ [887, 265, 266, 5, 267, 888, 889, 890, 891, 133, 892, 893, 894, 895, 896, 897, 898, 899, 680, 681, 682, 683, 684, 135, 900, 901, 902, 903, 904, 905, 906, 907, 812, 813, 814, 815, 137, 908, 909, 910, 911, 816, 817, 818, 819, 138, 820, 821, 822, 823, 768, 769, 770, 771, 772, 773, 774, 775, 824, 825, 826, 827, 828, 829, 830, 831, 832, 833, 834, 835, 912, 913, 914, 915, 916, 917, 918, 919, 139, 920, 921, 922, 923, 1138, 1139, 1140, 1141, 1142, 1143, 1144, 1145, 1146, 1147, 1148, 1149, 1150, 1151, 1152, 1153] (by decide +kernel) (by decide +kernel)
set_option maxRecDepth 20000 in
theorem gL_law_X12_explore : GoodIn wsL_law (wsV RL 55 RX12 yX12_explore wsX12_explore) := goodIn_app (goodIn_of _ (by decide +kernel)) ggL_law_X12_explore
set_option maxRecDepth 20000 in
theorem ggL_law_X12_minimizedLength : GoodIn wsL_law wsX12_minimizedLength := goodIn_r _ [1112, 1113, 1067, 1068, 1069, 5, 1070, 133, 265, 266, 267, 1114, 1115, 1116, 1117, 140, 896, 897, 898, 899, 908, 909, 910, 911, 1087, 1088, 1089, 1090, 1118, 1119, 1120, 1121, 812, 813, 814, 815, 137, 816, 817, 818, 819, 138, 820, 821, 822, 823, 768, 769, 770, 771, 772, 773, 774, 775, 824, 825, 826, 827, 828, 829, 830, 831, 832, 833, 834, 835, 1138, 1139, 1140, 1141, 1142, 1143, 1144, 1145, 1146, 1147, 1148, 1149, 1150, 1151, 1152, 1153] (by decide +kernel) (by decide +kernel)
set_option maxRecDepth 20000 in
theorem gL_law_X12_minimizedLength : GoodIn wsL_law (wsV RL 124 RX12 yX12_minimizedLength wsX12_minimizedLength) := goodIn_app (goodIn_of _ (by decide +kernel)) ggL_law_X12_minimizedLength
set_option maxRecDepth 20000 in
theorem ggL_law_X12_finalValue : GoodIn wsL_law wsX12_finalValue := goodIn_r _ [1025, 137, 1005, 1006, 1007, 5, 1008, 133, 265, 266, 267, 904, 905, 906, 907, 812, 813, 814, 815, 896, 897, 898, 899, 908, 909, 910, 911, 816, 817, 818, 819, 138, 820, 821, 822, 823, 768, 769, 770, 771, 772, 773, 774, 775, 824, 825, 826, 827, 828, 829, 830, 831, 832, 833, 834, 835, 1138, 1139, 1140, 1141, 1142, 1143, 1144, 1145, 1146, 1147, 1148, 1149, 1150, 1151, 1152, 1153] (by decide +kernel) (by decide +kernel)
set_option maxRecDepth 20000 in
theorem gL_law_X12_finalValue : GoodIn wsL_law (wsV RL 95 RX12 yX12_finalValue wsX12_finalValue) := goodIn_app (goodIn_of _ (by decide +kernel)) ggL_law_X12_finalValue
set_option maxRecDepth 20000 in
theorem ggL_law_X12_sequenceCall : GoodIn wsL_law wsX12_sequenceCall := goodIn_r _ [1017, 1005, 1006, 1007, 5, 1008, 133, 265, 266, 267, 896, 897, 898, 899, 908, 909, 910, 911, 1138, 1139, 1140, 1141, 1142, 1143, 1144, 1145, 1146, 1147, 1148, 1149, 1150, 1151, 1152, 1153] (by decide +kernel) (by decide +kernel)
set_option maxRecDepth 20000 in
theorem gL_law_X12_sequenceCall : GoodIn wsL_law (wsV RL 91 RX12 yX12_sequenceCall wsX12_sequenceCall) := goodIn_app (goodIn_of _ (by decide +kernel)) ggL_law_X12_sequenceCall
set_option maxRecDepth 20000 in
theorem ggL_law_X12_sequenceLength : GoodIn wsL_law wsX12_sequenceLength := goodIn_r _ [1004, 1005, 1006, 1007, 5, 1008, 133, 265, 266, 267, 896, 897, 898, 899, 1138, 1139, 1140, 1141, 1142, 1143, 1144, 1145, 1146, 1147, 1148, 1149, 1150, 1151, 1152, 1153] (by decide +kernel) (by decide +kernel)
set_option maxRecDepth 20000 in
theorem gL_law_X12_sequenceLength : GoodIn wsL_law (wsV RL 87 RX12 yX12_sequenceLength wsX12_sequenceLength) := goodIn_app (goodIn_of _ (by decide +kernel)) ggL_law_X12_sequenceLength
set_option maxRecDepth 20000 in
theorem ggL_law_X11_redundantPairs : GoodIn wsL_law wsX11_redundantPairs := goodIn_r _ [975, 23, 1130, 1131, 1132, 1133, 1134, 1135, 1136, 1137, 1159, 1160, 1161, 1162, 1163, 1164, 1165, 1166, 1167, 1168, 1169, 1170, 1171] (by decide +kernel) (by decide +kernel)
set_option maxRecDepth 20000 in
theorem gL_law_X11_redundantPairs : GoodIn wsL_law (wsV RL 72 RX11 yX11_redundantPairs wsX11_redundantPairs) := goodIn_app (goodIn_of _ (by decide +kernel)) ggL_law_X11_redundantPairs
set_option maxRecDepth 20000 in
theorem ggL_law_X12_failureCount : GoodIn wsL_law wsX12_failureCount := goodIn_r _ [1054, 133, 1138, 1139, 1140, 1141, 1142, 1143, 1144, 1145, 1146, 1147, 1148, 1149, 1150, 1151, 1152, 1153] (by decide +kernel) (by decide +kernel)
set_option maxRecDepth 20000 in
theorem gL_law_X12_failureCount : GoodIn wsL_law (wsV RL 108 RX12 yX12_failureCount wsX12_failureCount) := goodIn_app (goodIn_of _ (by decide +kernel)) ggL_law_X12_failureCount
set_option maxRecDepth 20000 in
theorem ggL_law_X12_poolSize : GoodIn wsL_law wsX12_poolSize := goodIn_r _ [995, 133, 1138, 1139, 1140, 1141, 1142, 1143, 1144, 1145, 1146, 1147, 1148, 1149, 1150, 1151, 1152, 1153] (by decide +kernel) (by decide +kernel)
set_option maxRecDepth 20000 in
theorem gL_law_X12_poolSize : GoodIn wsL_law (wsV RL 83 RX12 yX12_poolSize wsX12_poolSize) := goodIn_app (goodIn_of _ (by decide +kernel)) ggL_law_X12_poolSize
