theorem mem_r {big : List Cond} (ws : List Cond) (ps : List Nat) (hp : ws = ps.filterMap (fun i => big[i]?)) : ∀ w ∈ ws, w ∈ big := by
  intro w hw
  rw [hp] at hw
  obtain ⟨i, -, hi⟩ := List.mem_filterMap.mp hw
  exact List.mem_of_getElem? hi
theorem mem_a {a b big : List Cond} (ha : ∀ w ∈ a, w ∈ big) (hb : ∀ w ∈ b, w ∈ big) : ∀ w ∈ a ++ b, w ∈ big := fun w h => (List.mem_append.mp h).elim (ha w) (hb w)
set_option maxRecDepth 20000 in
theorem in_wsL_law_r1 : ∀ w ∈ wsL_law_r1, w ∈ T2 := mem_r _ [98, 99, 71, 1061, 1062, 86, 100, 101, 102, 103, 104, 105, 106, 107, 73, 344, 138, 139, 76, 345, 174, 175, 78, 346] (by decide +kernel)
set_option maxRecDepth 20000 in
theorem in_wsL_law_r2 : ∀ w ∈ wsL_law_r2, w ∈ T2 := mem_r _ [321, 322, 85, 347, 340, 187, 80, 348, 349, 342, 256, 84, 350, 351, 108, 109, 110, 111, 112, 72, 113, 114, 115, 137] (by decide +kernel)
set_option maxRecDepth 20000 in
theorem in_wsL_law_r3 : ∀ w ∈ wsL_law_r3, w ∈ T2 := mem_r _ [124, 125, 117, 118, 75, 119, 120, 121, 122, 123, 141, 142, 143, 144, 145, 77, 170, 147, 148, 149, 169, 150, 151, 152] (by decide +kernel)
set_option maxRecDepth 20000 in
theorem in_wsL_law_r4 : ∀ w ∈ wsL_law_r4, w ∈ T2 := mem_r _ [176, 177, 178, 179, 180, 181, 79, 270, 272, 251, 274, 253, 276, 278, 281, 283, 293, 279, 183, 184, 185, 186, 234, 208] (by decide +kernel)
set_option maxRecDepth 20000 in
theorem in_wsL_law_r5 : ∀ w ∈ wsL_law_r5, w ∈ T2 := mem_r _ [209, 83, 238, 240, 189, 190, 191, 210, 211, 212, 220, 222, 213, 214, 82, 215, 224, 216, 217, 81, 218, 219, 258, 259] (by decide +kernel)
set_option maxRecDepth 20000 in
theorem in_wsL_law_r6 : ∀ w ∈ wsL_law_r6, w ∈ T2 := mem_r _ [260, 261, 323, 324, 325, 326, 327, 330, 329, 1063, 1064, 1065, 1066, 1071, 1072, 1073, 1075, 1082, 1083, 1084, 1085, 1067, 1069, 20] (by decide +kernel)
set_option maxRecDepth 20000 in
theorem in_wsL_law_r7 : ∀ w ∈ wsL_law_r7, w ∈ T2 := mem_r _ [1070, 369, 370, 371, 372, 373, 374, 375, 376, 377, 1431, 136, 378, 379, 127, 380, 381, 382, 383, 384, 1432, 385, 386, 387] (by decide +kernel)
set_option maxRecDepth 20000 in
theorem in_wsL_law_r8 : ∀ w ∈ wsL_law_r8, w ∈ T2 := mem_r _ [1433, 1465, 389, 390, 391, 1434, 1466, 393, 394, 405, 395, 396, 87, 397, 398, 399, 88, 400, 401, 402, 403, 404, 406, 407] (by decide +kernel)
set_option maxRecDepth 20000 in
theorem in_wsL_law_r9 : ∀ w ∈ wsL_law_r9, w ∈ T2 := mem_r _ [89, 408, 409, 410, 411, 412, 413, 415, 416, 417, 418, 419, 421, 420, 90, 422, 424, 425, 423, 426, 427, 428, 91, 429] (by decide +kernel)
set_option maxRecDepth 20000 in
theorem in_wsL_law_r10 : ∀ w ∈ wsL_law_r10, w ∈ T2 := mem_r _ [430, 1435, 1467, 432, 433, 434, 435, 436, 437, 438, 439, 440, 441, 442, 443, 444, 445, 446, 447, 74, 448, 449, 451, 452] (by decide +kernel)
set_option maxRecDepth 20000 in
theorem in_wsL_law_r11 : ∀ w ∈ wsL_law_r11, w ∈ T2 := mem_r _ [92, 453, 454, 455, 456, 457, 459, 461, 463, 464, 465, 466, 467, 468, 469, 470, 471, 472, 473, 474, 1120, 1121, 1122, 1123] (by decide +kernel)
set_option maxRecDepth 20000 in
theorem in_wsL_law_r12 : ∀ w ∈ wsL_law_r12, w ∈ T2 := mem_r _ [1076, 1124, 1125, 1126, 475, 476, 477, 478, 479, 480, 481, 482, 483, 1436, 484, 485, 126, 486, 487, 488, 489, 490, 491, 492] (by decide +kernel)
set_option maxRecDepth 20000 in
theorem in_wsL_law_r13 : ∀ w ∈ wsL_law_r13, w ∈ T2 := mem_r _ [493, 494, 495, 496, 497, 498, 1127, 1128, 1129, 1130, 499, 500, 501, 502, 503, 504, 505, 506, 577, 507, 508, 509, 510, 153] (by decide +kernel)
set_option maxRecDepth 20000 in
theorem in_wsL_law_r14 : ∀ w ∈ wsL_law_r14, w ∈ T2 := mem_r _ [155, 154, 511, 512, 513, 514, 515, 516, 517, 518, 519, 1437, 520, 521, 522, 523, 524, 525, 526, 527, 528, 529, 530, 531] (by decide +kernel)
set_option maxRecDepth 20000 in
theorem in_wsL_law_r15 : ∀ w ∈ wsL_law_r15, w ∈ T2 := mem_r _ [532, 533, 534, 535, 536, 537, 538, 540, 541, 542, 543, 544, 545, 546, 1463, 547, 548, 549, 550, 551, 1464, 552, 553, 554] (by decide +kernel)
set_option maxRecDepth 20000 in
theorem in_wsL_law_r16 : ∀ w ∈ wsL_law_r16, w ∈ T2 := mem_r _ [555, 556, 557, 558, 559, 560, 561, 562, 563, 564, 565, 566, 567, 574, 575, 576, 579, 580, 581, 582, 583, 584, 585, 586] (by decide +kernel)
set_option maxRecDepth 20000 in
theorem in_wsL_law_r17 : ∀ w ∈ wsL_law_r17, w ∈ T2 := mem_r _ [587, 589, 0, 590, 591, 592, 593, 594, 595, 596, 597, 598, 599, 600, 601, 602, 603, 192, 195, 198, 604, 605, 606, 607] (by decide +kernel)
set_option maxRecDepth 20000 in
theorem in_wsL_law_r18 : ∀ w ∈ wsL_law_r18, w ∈ T2 := mem_r _ [223, 608, 610, 1, 611, 633, 634, 94, 612, 614, 2, 615, 616, 617, 93, 618, 619, 620, 621, 622, 623, 629, 631, 3] (by decide +kernel)
set_option maxRecDepth 20000 in
theorem in_wsL_law_r19 : ∀ w ∈ wsL_law_r19, w ∈ T2 := mem_r _ [632, 635, 636, 637, 638, 639, 640, 641, 649, 650, 651, 652, 225, 226, 653, 655, 4, 656, 657, 659, 5, 660, 661, 663] (by decide +kernel)
set_option maxRecDepth 20000 in
theorem in_wsL_law_r20 : ∀ w ∈ wsL_law_r20, w ∈ T2 := mem_r _ [6, 664, 694, 695, 665, 666, 667, 668, 669, 1455, 670, 687, 688, 689, 690, 691, 693, 696, 698, 7, 699, 700, 701, 95] (by decide +kernel)
set_option maxRecDepth 20000 in
theorem in_wsL_law_r21 : ∀ w ∈ wsL_law_r21, w ∈ T2 := mem_r _ [703, 704, 705, 706, 708, 711, 714, 707, 724, 726, 8, 727, 728, 730, 9, 731, 732, 734, 10, 735, 740, 741, 96, 736] (by decide +kernel)
set_option maxRecDepth 20000 in
theorem in_wsL_law_r22 : ∀ w ∈ wsL_law_r22, w ∈ T2 := mem_r _ [738, 11, 739, 742, 743, 744, 745, 746, 748, 749, 751, 761, 762, 763, 764, 765, 766, 767, 768, 769, 770, 771, 772, 773] (by decide +kernel)
set_option maxRecDepth 20000 in
theorem in_wsL_law_r23 : ∀ w ∈ wsL_law_r23, w ∈ T2 := mem_r _ [775, 12, 776, 777, 778, 779, 780, 331, 332, 781, 782, 783, 784, 285, 287, 289, 291, 785, 786, 787, 788, 789, 790, 791] (by decide +kernel)
set_option maxRecDepth 20000 in
theorem in_wsL_law_r24 : ∀ w ∈ wsL_law_r24, w ∈ T2 := mem_r _ [792, 262, 793, 794, 795, 796, 797, 798, 799, 800, 801, 802, 803, 804, 805, 806, 807, 808, 809, 1131, 1132, 1133, 1134, 1081] (by decide +kernel)
set_option maxRecDepth 20000 in
theorem in_wsL_law_r25 : ∀ w ∈ wsL_law_r25, w ∈ T2 := mem_r _ [1078, 1135, 1137, 21, 1138, 1077, 1079, 1139, 1141, 22, 1142, 1080, 1143, 1145, 23, 1146, 1147, 1149, 24, 1150, 1151, 1153, 25, 1154] (by decide +kernel)
set_option maxRecDepth 20000 in
theorem in_wsL_law_r26 : ∀ w ∈ wsL_law_r26, w ∈ T2 := mem_r _ [1155, 1157, 26, 1158, 1159, 1161, 27, 1162, 1163, 1165, 28, 1166, 1167, 1169, 29, 1170, 1171, 1173, 30, 1174, 1175, 1177, 31, 1178] (by decide +kernel)
set_option maxRecDepth 20000 in
theorem in_wsL_law_r27 : ∀ w ∈ wsL_law_r27, w ∈ T2 := mem_r _ [1179, 1181, 32, 1182, 1183, 1185, 33, 1186, 1187, 1189, 34, 1190, 1191, 1193, 35, 1194, 1195, 1197, 36, 1198, 1199, 1201, 37, 1202] (by decide +kernel)
set_option maxRecDepth 20000 in
theorem in_wsL_law_r28 : ∀ w ∈ wsL_law_r28, w ∈ T2 := mem_r _ [1203, 1205, 38, 1206, 1207, 1209, 39, 1210, 1211, 1213, 40, 1214, 1215, 1217, 41, 1218, 1219, 1221, 42, 1222, 1223, 1225, 43, 1226] (by decide +kernel)
set_option maxRecDepth 20000 in
theorem in_wsL_law_r29 : ∀ w ∈ wsL_law_r29, w ∈ T2 := mem_r _ [1227, 1229, 44, 1230, 1231, 1233, 45, 1234, 1235, 1237, 46, 1238, 1074, 810, 811, 812, 813, 814, 815, 816, 817, 818, 819, 820] (by decide +kernel)
set_option maxRecDepth 20000 in
theorem in_wsL_law_r30 : ∀ w ∈ wsL_law_r30, w ∈ T2 := mem_r _ [821, 822, 823, 824, 825, 826, 842, 844, 827, 828, 829, 830, 831, 832, 833, 834, 835, 97, 836, 837, 838, 839, 840, 841] (by decide +kernel)
set_option maxRecDepth 20000 in
theorem in_wsL_law_r31 : ∀ w ∈ wsL_law_r31, w ∈ T2 := mem_r _ [843, 845, 1239, 1240, 1241, 1242, 846, 847, 848, 849, 850, 851, 852, 853, 854, 1243, 1244, 1245, 1246, 1247, 1249, 47, 1250, 855] (by decide +kernel)
set_option maxRecDepth 20000 in
theorem in_wsL_law_r32 : ∀ w ∈ wsL_law_r32, w ∈ T2 := mem_r _ [856, 857, 858, 1251, 1252, 1253, 1254, 859, 860, 861, 862, 864, 863, 865, 866, 867, 868, 871, 869, 870, 1255, 1256, 1257, 1258] (by decide +kernel)
set_option maxRecDepth 20000 in
theorem in_wsL_law_r33 : ∀ w ∈ wsL_law_r33, w ∈ T2 := mem_r _ [1259, 1261, 48, 1262, 1263, 1265, 49, 1266, 872, 873, 874, 875, 876, 877, 879, 13, 880, 881, 882, 883, 884, 885, 898, 886] (by decide +kernel)
set_option maxRecDepth 20000 in
theorem in_wsL_law_r34 : ∀ w ∈ wsL_law_r34, w ∈ T2 := mem_r _ [887, 888, 889, 890, 891, 892, 893, 894, 895, 896, 897, 899, 900, 901, 902, 903, 1267, 1268, 1269, 1270, 1271, 1273, 50, 1274] (by decide +kernel)
set_option maxRecDepth 20000 in
theorem in_wsL_law_r35 : ∀ w ∈ wsL_law_r35, w ∈ T2 := mem_r _ [1275, 1277, 51, 1278, 1279, 1281, 52, 1282, 1283, 1285, 53, 1286, 1287, 1289, 54, 1290, 1291, 1293, 55, 1294, 904, 905, 906, 907] (by decide +kernel)
set_option maxRecDepth 20000 in
theorem in_wsL_law_r36 : ∀ w ∈ wsL_law_r36, w ∈ T2 := mem_r _ [1295, 1296, 1297, 1298, 908, 909, 910, 911, 912, 913, 914, 915, 916, 918, 14, 919, 920, 921, 922, 923, 924, 925, 926, 927] (by decide +kernel)
set_option maxRecDepth 20000 in
theorem in_wsL_law_r37 : ∀ w ∈ wsL_law_r37, w ∈ T2 := mem_r _ [928, 929, 930, 931, 933, 15, 934, 935, 936, 937, 938, 939, 940, 941, 942, 943, 944, 946, 16, 947, 1299, 1300, 1301, 1302] (by decide +kernel)
set_option maxRecDepth 20000 in
theorem in_wsL_law_r38 : ∀ w ∈ wsL_law_r38, w ∈ T2 := mem_r _ [1303, 1305, 56, 1306, 1307, 1309, 57, 1310, 1311, 1313, 58, 1314, 1315, 1317, 59, 1318, 1319, 1321, 60, 1322, 1323, 1325, 61, 1326] (by decide +kernel)
set_option maxRecDepth 20000 in
theorem in_wsL_law_r39 : ∀ w ∈ wsL_law_r39, w ∈ T2 := mem_r _ [1327, 1329, 62, 1330, 1331, 1333, 63, 1334, 1335, 1337, 64, 1338, 948, 949, 950, 951, 952, 953, 954, 955, 1339, 1340, 1341, 1342] (by decide +kernel)
set_option maxRecDepth 20000 in
theorem in_wsL_law_r40 : ∀ w ∈ wsL_law_r40, w ∈ T2 := mem_r _ [956, 957, 958, 959, 960, 961, 962, 963, 964, 965, 966, 967, 1343, 1344, 1345, 1346, 968, 969, 970, 971, 972, 973, 974, 975] (by decide +kernel)
set_option maxRecDepth 20000 in
theorem in_wsL_law_r41 : ∀ w ∈ wsL_law_r41, w ∈ T2 := mem_r _ [1347, 1348, 1349, 1350, 976, 977, 978, 979, 1351, 1352, 1353, 1354, 980, 981, 982, 983, 1355, 1356, 1357, 1358, 984, 985, 986, 987] (by decide +kernel)
set_option maxRecDepth 20000 in
theorem in_wsL_law_r42 : ∀ w ∈ wsL_law_r42, w ∈ T2 := mem_r _ [1359, 1360, 1361, 1362, 988, 989, 990, 991, 1363, 1364, 1365, 1366, 992, 993, 994, 995, 996, 1367, 1368, 1369, 1370, 1371, 1373, 65] (by decide +kernel)
set_option maxRecDepth 20000 in
theorem in_wsL_law_r43 : ∀ w ∈ wsL_law_r43, w ∈ T2 := mem_r _ [1374, 997, 998, 999, 1000, 1001, 1375, 1376, 1377, 1378, 1002, 1003, 1004, 1005, 1379, 1380, 1381, 1382, 1006, 1007, 1008, 1009, 1010, 1011] (by decide +kernel)
set_option maxRecDepth 20000 in
theorem in_wsL_law_r44 : ∀ w ∈ wsL_law_r44, w ∈ T2 := mem_r _ [1012, 1013, 1383, 1384, 1385, 1386, 1014, 1015, 1016, 1017, 1018, 1387, 1388, 1389, 1390, 1019, 1020, 1021, 1022, 1391, 1392, 1393, 1394, 1023] (by decide +kernel)
set_option maxRecDepth 20000 in
theorem in_wsL_law_r45 : ∀ w ∈ wsL_law_r45, w ∈ T2 := mem_r _ [1024, 1025, 1026, 1027, 1028, 1029, 1030, 1395, 1396, 1397, 1398, 1399, 1401, 66, 1402, 1031, 1032, 1033, 1034, 1403, 1404, 1405, 1406, 1035] (by decide +kernel)
set_option maxRecDepth 20000 in
theorem in_wsL_law_r46 : ∀ w ∈ wsL_law_r46, w ∈ T2 := mem_r _ [1036, 1037, 1038, 1407, 1408, 1409, 1410, 1411, 1413, 67, 1414, 1039, 1040, 1041, 1042, 1043, 1045, 17, 1046, 1047, 1048, 1050, 18, 1051] (by decide +kernel)
set_option maxRecDepth 20000 in
theorem in_wsL_law_r47 : ∀ w ∈ wsL_law_r47, w ∈ T2 := mem_r _ [1052, 1053, 1055, 19, 1056, 1415, 1416, 1417, 1418, 1086, 1419, 1421, 68, 1422, 1423, 1425, 69, 1426, 1057, 1058, 1059, 1060, 1427, 1428] (by decide +kernel)
set_option maxRecDepth 20000 in
theorem in_wsL_law_r48 : ∀ w ∈ wsL_law_r48, w ∈ T2 := mem_r _ [1429, 1430] (by decide +kernel)
set_option maxRecDepth 20000 in
theorem inX11 : ∀ w ∈ wsX110, w ∈ T2 := mem_r _ [352, 354, 356, 358, 360, 362, 364, 366] (by decide +kernel)
set_option maxRecDepth 20000 in
theorem inX12 : ∀ w ∈ wsX120, w ∈ T2 := mem_r _ [1087, 1089, 1091, 1093, 1095, 1097, 1099, 1101, 1103, 1105, 1107, 1109, 1111, 1113, 1115, 1117] (by decide +kernel)
set_option maxRecDepth 20000 in
theorem inJ4 : ∀ w ∈ wsJ40, w ∈ T2 := mem_r _ [128, 130, 132, 134] (by decide +kernel)
set_option maxRecDepth 20000 in
theorem inX8 : ∀ w ∈ wsX80, w ∈ T2 := mem_r _ [171] (by decide +kernel)
set_option maxRecDepth 20000 in
theorem inX3 : ∀ w ∈ wsX30, w ∈ T2 := mem_r _ [294, 296, 298, 300, 302, 304, 306, 308, 310, 312, 314, 316, 318] (by decide +kernel)
set_option maxRecDepth 20000 in
theorem inX4 : ∀ w ∈ wsX40, w ∈ T2 := mem_r _ [333, 335, 337] (by decide +kernel)
set_option maxRecDepth 20000 in
theorem inX10 : ∀ w ∈ wsX100, w ∈ T2 := mem_r _ [201, 203, 205] (by decide +kernel)
set_option maxRecDepth 20000 in
theorem inX9 : ∀ w ∈ wsX90, w ∈ T2 := mem_r _ [265, 267] (by decide +kernel)
set_option maxRecDepth 20000 in
theorem inX5 : ∀ w ∈ wsX50, w ∈ T2 := mem_r _ [156, 158, 160, 162, 164, 166] (by decide +kernel)
set_option maxRecDepth 20000 in
theorem inX1 : ∀ w ∈ wsX10, w ∈ T2 := mem_r _ [244, 246, 248] (by decide +kernel)
set_option maxRecDepth 20000 in
theorem inJx4a65c : ∀ w ∈ wsJx4a65c0, w ∈ T2 := mem_r _ [231, 227, 229] (by decide +kernel)
set_option maxRecDepth 20000 in
theorem inX2 : ∀ w ∈ wsX20, w ∈ T2 := mem_r _ [642, 644, 646] (by decide +kernel)
set_option maxRecDepth 20000 in
theorem inX7 : ∀ w ∈ wsX70, w ∈ T2 := mem_r _ [624, 626] (by decide +kernel)
set_option maxRecDepth 20000 in
theorem inX6 : ∀ w ∈ wsX60, w ∈ T2 := mem_r _ [717, 719, 721] (by decide +kernel)
set_option maxRecDepth 20000 in
theorem inX0 : ∀ w ∈ wsX00, w ∈ T2 := mem_r _ [752, 754, 756, 758] (by decide +kernel)
theorem wsL_law_in : ∀ w ∈ wsL_law, w ∈ T2 := mem_a (mem_a (mem_a (mem_a (mem_a (mem_a (mem_a (mem_a (mem_a (mem_a (mem_a (mem_a (mem_a (mem_a (mem_a (mem_a (mem_a in_wsL_law_r1 (mem_a in_wsL_law_r2 (mem_a in_wsL_law_r3 (mem_a in_wsL_law_r4 (mem_a in_wsL_law_r5 (mem_a in_wsL_law_r6 (mem_a in_wsL_law_r7 (mem_a in_wsL_law_r8 (mem_a in_wsL_law_r9 (mem_a in_wsL_law_r10 (mem_a in_wsL_law_r11 (mem_a in_wsL_law_r12 (mem_a in_wsL_law_r13 (mem_a in_wsL_law_r14 (mem_a in_wsL_law_r15 (mem_a in_wsL_law_r16 (mem_a in_wsL_law_r17 (mem_a in_wsL_law_r18 (mem_a in_wsL_law_r19 (mem_a in_wsL_law_r20 (mem_a in_wsL_law_r21 (mem_a in_wsL_law_r22 (mem_a in_wsL_law_r23 (mem_a in_wsL_law_r24 (mem_a in_wsL_law_r25 (mem_a in_wsL_law_r26 (mem_a in_wsL_law_r27 (mem_a in_wsL_law_r28 (mem_a in_wsL_law_r29 (mem_a in_wsL_law_r30 (mem_a in_wsL_law_r31 (mem_a in_wsL_law_r32 (mem_a in_wsL_law_r33 (mem_a in_wsL_law_r34 (mem_a in_wsL_law_r35 (mem_a in_wsL_law_r36 (mem_a in_wsL_law_r37 (mem_a in_wsL_law_r38 (mem_a in_wsL_law_r39 (mem_a in_wsL_law_r40 (mem_a in_wsL_law_r41 (mem_a in_wsL_law_r42 (mem_a in_wsL_law_r43 (mem_a in_wsL_law_r44 (mem_a in_wsL_law_r45 (mem_a in_wsL_law_r46 (mem_a in_wsL_law_r47 (in_wsL_law_r48)))))))))))))))))))))))))))))))))))))))))))))))) inX11) inX12) inJ4) inX8) inX3) inX4) inX10) inX9) inX5) inX1) inJx4a65c) inX2) inX7) inX6) inX0) (fun w h => absurd h List.not_mem_nil)
