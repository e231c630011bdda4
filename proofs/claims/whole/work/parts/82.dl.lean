theorem inlX0 : ∀ w ∈ wsX00, w ∈ wsL_law := fun _ h => List.mem_append_left _ (List.mem_append_right _ h)
theorem inlX1 : ∀ w ∈ wsX10, w ∈ wsL_law := fun _ h => List.mem_append_left _ (List.mem_append_left _ (List.mem_append_left _ (List.mem_append_left _ (List.mem_append_left _ (List.mem_append_left _ (List.mem_append_right _ h))))))
theorem inlX2 : ∀ w ∈ wsX20, w ∈ wsL_law := fun _ h => List.mem_append_left _ (List.mem_append_left _ (List.mem_append_left _ (List.mem_append_left _ (List.mem_append_right _ h))))
theorem inlX3 : ∀ w ∈ wsX30, w ∈ wsL_law := fun _ h => List.mem_append_left _ (List.mem_append_left _ (List.mem_append_left _ (List.mem_append_left _ (List.mem_append_left _ (List.mem_append_left _ (List.mem_append_left _ (List.mem_append_left _ (List.mem_append_left _ (List.mem_append_left _ (List.mem_append_left _ (List.mem_append_right _ h)))))))))))
theorem inlX4 : ∀ w ∈ wsX40, w ∈ wsL_law := fun _ h => List.mem_append_left _ (List.mem_append_left _ (List.mem_append_left _ (List.mem_append_left _ (List.mem_append_left _ (List.mem_append_left _ (List.mem_append_left _ (List.mem_append_left _ (List.mem_append_left _ (List.mem_append_left _ (List.mem_append_right _ h))))))))))
theorem inlX5 : ∀ w ∈ wsX50, w ∈ wsL_law := fun _ h => List.mem_append_left _ (List.mem_append_left _ (List.mem_append_left _ (List.mem_append_left _ (List.mem_append_left _ (List.mem_append_left _ (List.mem_append_left _ (List.mem_append_right _ h)))))))
theorem inlX6 : ∀ w ∈ wsX60, w ∈ wsL_law := fun _ h => List.mem_append_left _ (List.mem_append_left _ (List.mem_append_right _ h))
theorem inlX7 : ∀ w ∈ wsX70, w ∈ wsL_law := fun _ h => List.mem_append_left _ (List.mem_append_left _ (List.mem_append_left _ (List.mem_append_right _ h)))
theorem inlX8 : ∀ w ∈ wsX80, w ∈ wsL_law := fun _ h => List.mem_append_left _ (List.mem_append_left _ (List.mem_append_left _ (List.mem_append_left _ (List.mem_append_left _ (List.mem_append_left _ (List.mem_append_left _ (List.mem_append_left _ (List.mem_append_left _ (List.mem_append_left _ (List.mem_append_left _ (List.mem_append_left _ (List.mem_append_right _ h))))))))))))
theorem inlX9 : ∀ w ∈ wsX90, w ∈ wsL_law := fun _ h => List.mem_append_left _ (List.mem_append_left _ (List.mem_append_left _ (List.mem_append_left _ (List.mem_append_left _ (List.mem_append_left _ (List.mem_append_left _ (List.mem_append_left _ (List.mem_append_right _ h))))))))
theorem inlX10 : ∀ w ∈ wsX100, w ∈ wsL_law := fun _ h => List.mem_append_left _ (List.mem_append_left _ (List.mem_append_left _ (List.mem_append_left _ (List.mem_append_left _ (List.mem_append_left _ (List.mem_append_left _ (List.mem_append_left _ (List.mem_append_left _ (List.mem_append_right _ h)))))))))
theorem inlX11 : ∀ w ∈ wsX110, w ∈ wsL_law := fun _ h => List.mem_append_left _ (List.mem_append_left _ (List.mem_append_left _ (List.mem_append_left _ (List.mem_append_left _ (List.mem_append_left _ (List.mem_append_left _ (List.mem_append_left _ (List.mem_append_left _ (List.mem_append_left _ (List.mem_append_left _ (List.mem_append_left _ (List.mem_append_left _ (List.mem_append_left _ (List.mem_append_left _ (List.mem_append_right _ h)))))))))))))))
theorem inlX12 : ∀ w ∈ wsX120, w ∈ wsL_law := fun _ h => List.mem_append_left _ (List.mem_append_left _ (List.mem_append_left _ (List.mem_append_left _ (List.mem_append_left _ (List.mem_append_left _ (List.mem_append_left _ (List.mem_append_left _ (List.mem_append_left _ (List.mem_append_left _ (List.mem_append_left _ (List.mem_append_left _ (List.mem_append_left _ (List.mem_append_left _ (List.mem_append_right _ h))))))))))))))
theorem inlJ4 : ∀ w ∈ wsJ40, w ∈ wsL_law := fun _ h => List.mem_append_left _ (List.mem_append_left _ (List.mem_append_left _ (List.mem_append_left _ (List.mem_append_left _ (List.mem_append_left _ (List.mem_append_left _ (List.mem_append_left _ (List.mem_append_left _ (List.mem_append_left _ (List.mem_append_left _ (List.mem_append_left _ (List.mem_append_left _ (List.mem_append_right _ h)))))))))))))
theorem inlJx4a65c : ∀ w ∈ wsJx4a65c0, w ∈ wsL_law := fun _ h => List.mem_append_left _ (List.mem_append_left _ (List.mem_append_left _ (List.mem_append_left _ (List.mem_append_left _ (List.mem_append_right _ h)))))
set_option maxRecDepth 20000 in
theorem ggL_law_X11_init : GoodIn wsL_law wsX11_init := goodIn_r _ [8, 9, 10, 11, 12, 13, 14, 15, 16, 17, 18, 19, 20, 21, 22, 23, 24, 25, 26, 27, 28, 29, 30, 31, 32, 33, 34, 35, 36, 37, 38, 39, 40, 41, 42, 43, 44, 45, 46, 47, 48, 49, 50, 51, 52, 53, 54, 55, 56, 57, 58, 59, 60, 61, 62, 63, 64, 65, 66, 67, 68, 69, 70, 71, 72, 73, 74, 75, 76, 77, 78, 79, 80, 81, 82, 83, 84, 85, 86, 87, 88, 89, 90, 91, 92, 93, 94, 95, 96, 97, 98, 99, 100, 101, 102, 103, 104, 105, 106, 107, 108, 109, 110, 111, 112, 113, 114, 115, 116, 117, 118, 119, 120, 121, 122, 123, 124, 125, 126, 127, 128, 1154, 1155, 1156, 1157, 1130, 1131, 1132, 1133, 1134, 1135, 1136, 1137, 1158, 1159, 1160, 1161, 1162, 1163, 1164, 1165, 1166, 1167, 1168, 1169, 1170, 1171, 1172, 1173, 1174, 1175, 1176, 1177, 1178, 1179, 1180, 1181, 1182, 1183, 1184, 1185, 1186, 1187, 1188, 1189, 1190, 1191] (by decide +kernel) (by decide +kernel)
set_option maxRecDepth 20000 in
theorem gL_law_X11_init : GoodIn wsL_law (wsX11_init) := ggL_law_X11_init
set_option maxRecDepth 20000 in
theorem ggL_law_X12_init : GoodIn wsL_law wsX12_init := goodIn_r _ [131, 132, 10, 11, 68, 133, 134, 135, 136, 137, 138, 139, 140, 141, 142, 143, 5, 144, 1138, 1139, 1140, 1141, 1142, 1143, 1144, 1145, 1146, 1147, 1148, 1149, 1150, 1151, 1152, 1153] (by decide +kernel) (by decide +kernel)
set_option maxRecDepth 20000 in
theorem gL_law_X12_init : GoodIn wsL_law (wsX12_init) := ggL_law_X12_init
set_option maxRecDepth 20000 in
theorem ggL_law_X11_appendCharacter : GoodIn wsL_law wsX11_appendCharacter := goodIn_r _ [148, 15, 149, 150, 151, 14, 152, 153, 154, 155, 156, 43, 157, 158, 159, 160, 161, 162, 163, 164, 165, 166, 48, 167, 168, 169, 170, 171, 49, 172, 173, 174, 175, 176, 177, 178, 179, 180, 181, 182, 183, 184, 185, 186, 187, 188, 189, 190, 191, 192, 193, 194, 195, 196, 197, 198, 199, 47, 200, 201, 202, 203, 204, 205, 206, 207, 208, 209, 210, 211, 46, 212, 213, 214, 215, 216, 217, 218, 219, 220, 50, 51, 52, 53, 54, 55, 56, 57, 221, 222, 223, 224, 225, 226, 227, 228, 229, 230, 231, 232, 233, 234, 235, 236, 237, 238, 239, 240, 241, 242, 243, 244, 245, 246, 247, 248, 249, 250, 251, 252, 253, 254, 255, 256, 257, 258, 259, 1130, 1131, 1132, 1133, 1134, 1135, 1136, 1137, 1154, 1155, 1156, 1157] (by decide +kernel) (by decide +kernel)
set_option maxRecDepth 20000 in
theorem gL_law_X11_appendCharacter : GoodIn wsL_law (wsV RL 13 RX11 yX11_appendCharacter wsX11_appendCharacter) := goodIn_app (goodIn_of _ (by decide +kernel)) ggL_law_X11_appendCharacter
set_option maxRecDepth 20000 in
theorem ggL_law_X12_appendCharacter : GoodIn wsL_law wsX12_appendCharacter := goodIn_r _ [263, 264, 136, 265, 266, 5, 267, 1138, 1139, 1140, 1141, 1142, 1143, 1144, 1145, 1146, 1147, 1148, 1149, 1150, 1151, 1152, 1153] (by decide +kernel) (by decide +kernel)
set_option maxRecDepth 20000 in
theorem gL_law_X12_appendCharacter : GoodIn wsL_law (wsV RL 17 RX12 yX12_appendCharacter wsX12_appendCharacter) := goodIn_app (goodIn_of _ (by decide +kernel)) ggL_law_X12_appendCharacter
set_option maxRecDepth 20000 in
theorem ggL_law_X11_clearText : GoodIn wsL_law wsX11_clearText := goodIn_r _ [271, 15, 149, 150, 151, 14, 152, 153, 154, 155, 156, 43, 157, 158, 272, 273, 274, 275, 276, 277, 278, 279, 48, 280, 167, 168, 169, 170, 171, 49, 172, 173, 174, 175, 176, 177, 178, 179, 180, 181, 182, 183, 184, 185, 186, 187, 188, 189, 190, 191, 192, 193, 194, 195, 196, 197, 198, 199, 47, 200, 201, 202, 203, 204, 205, 206, 207, 208, 209, 210, 211, 46, 281, 282, 214, 283, 284, 285, 286, 287, 288, 289, 290, 291, 52, 292, 293, 1130, 1131, 1132, 1133, 1134, 1135, 1136, 1137, 1154, 1155, 1156, 1157] (by decide +kernel) (by decide +kernel)
set_option maxRecDepth 20000 in
theorem gL_law_X11_clearText : GoodIn wsL_law (wsV RL 18 RX11 yX11_clearText wsX11_clearText) := goodIn_app (goodIn_of _ (by decide +kernel)) ggL_law_X11_clearText
set_option maxRecDepth 20000 in
theorem ggL_law_X12_clearText : GoodIn wsL_law wsX12_clearText := goodIn_r _ [297, 264, 1138, 1139, 1140, 1141, 1142, 1143, 1144, 1145, 1146, 1147, 1148, 1149, 1150, 1151, 1152, 1153] (by decide +kernel) (by decide +kernel)
set_option maxRecDepth 20000 in
theorem gL_law_X12_clearText : GoodIn wsL_law (wsV RL 22 RX12 yX12_clearText wsX12_clearText) := goodIn_app (goodIn_of _ (by decide +kernel)) ggL_law_X12_clearText
set_option maxRecDepth 20000 in
theorem ggL_law_X11_loadComponent : GoodIn wsL_law wsX11_loadComponent := goodIn_r _ [301, 19, 15, 302, 303, 304, 18, 305, 64, 306, 77, 78, 307, 308, 309, 63, 310, 311, 312, 313, 70, 69, 71, 314, 150, 151, 14, 152, 153, 154, 155, 156, 43, 157, 158, 315, 316, 317, 318, 319, 320, 321, 322, 323, 324, 325, 49, 48, 326, 201, 184, 202, 327, 255, 235, 256, 237, 257, 258, 240, 259, 328, 329, 52, 330, 245, 246, 247, 230, 231, 232, 331, 332, 333, 334, 335, 336, 337, 338, 339, 340, 341, 342, 343, 344, 345, 346, 347, 348, 349, 350, 351, 352, 353, 354, 355, 356, 357, 358, 359, 360, 361, 362, 363, 364, 365, 366, 214, 367, 368, 369, 370, 371, 251, 252, 253, 254, 372, 373, 374, 375, 90, 91, 92, 10, 11, 93, 29, 30, 94, 95, 96, 97, 98, 99, 100, 101, 102, 103, 104, 105, 106, 107, 108, 109, 110, 111, 112, 113, 114, 115, 116, 117, 376, 377, 378, 379, 380, 381, 382, 383, 384, 385, 386, 387, 388, 389, 390, 391, 392, 393, 394, 395, 396, 397, 398, 399, 400, 401, 402, 403, 404, 405, 406, 407, 408, 409, 410, 411, 412, 413, 414, 415, 416, 417, 418, 419, 420, 421, 422, 423, 424, 425, 426, 427, 428, 429, 430, 431, 432, 433, 434, 435, 436, 437, 438, 439, 440, 441, 442, 443, 444, 445, 446, 447, 448, 449, 450, 451, 452, 453, 454, 455, 456, 457, 458, 183, 185, 459, 460, 179, 180, 181, 182, 186, 187, 188, 189, 461, 462, 192, 463, 464, 465, 466, 467, 468, 469, 470, 471, 472, 200, 203, 204, 205, 206, 473, 474, 475, 476, 477, 478, 479, 480, 481, 482, 483, 484, 485, 486, 487, 488, 489, 490, 491, 492, 493, 494, 495, 496, 497, 498, 499, 500, 501, 502, 503, 504, 505, 506, 507, 508, 509, 510, 511, 512, 513, 514, 515, 516, 517, 518, 519, 520, 521, 522, 523, 524, 525, 526, 272, 273, 274, 275, 276, 277, 278, 279, 280, 167, 168, 169, 170, 171, 172, 173, 174, 175, 176, 177, 178, 190, 191, 193, 194, 195, 196, 197, 198, 199, 47, 207, 208, 209, 210, 211, 46, 281, 282, 283, 284, 285, 286, 287, 288, 289, 290, 291, 292, 293, 527, 528, 529, 2, 530, 27, 23, 531, 532, 533, 26, 534, 535, 127, 536, 537, 538, 539, 22, 540, 79, 80, 82, 84, 85, 89, 86, 87, 541, 542, 543, 544, 545, 546, 547, 35, 548, 549, 550, 551, 552, 553, 554, 555, 556, 557, 121, 558, 559, 560, 561, 562, 563, 564, 565, 566, 567, 568, 569, 570, 1130, 1131, 1132, 1133, 1134, 1135, 1136, 1137, 1186, 1187, 1188, 1158, 1180, 1181, 1182, 1183, 1184, 1185, 1154, 1155, 1156, 1157, 1175, 1176, 1177, 1189, 1190, 1191, 1192, 1193, 1194, 1195, 1196, 1197, 1198, 1199, 1200, 1201, 1202, 1203, 1159, 1160, 1161, 1162, 1163, 1164, 1165, 1166, 1167, 1168, 1169, 1170, 1171, 1172, 1173, 1174, 1178, 1179] (by decide +kernel) (by decide +kernel)
set_option maxRecDepth 20000 in
theorem gL_law_X11_loadComponent : GoodIn wsL_law (wsV RL 23 RX11 yX11_loadComponent wsX11_loadComponent) := goodIn_app (goodIn_of _ (by decide +kernel)) ggL_law_X11_loadComponent
set_option maxRecDepth 20000 in
theorem ggL_law_X12_loadComponent : GoodIn wsL_law wsX12_loadComponent := goodIn_r _ [574, 575, 576, 133, 134, 264, 577, 578, 579, 5, 580, 581, 582, 583, 584, 585, 586, 587, 588, 589, 590, 591, 136, 265, 266, 267, 592, 593, 594, 595, 596, 597, 598, 599, 600, 601, 602, 603, 604, 605, 606, 607, 608, 609, 610, 611, 612, 613, 614, 615, 616, 617, 618, 619, 620, 621, 622, 623, 624, 625, 626, 627, 628, 629, 630, 631, 632, 633, 634, 635, 636, 637, 638, 639, 640, 641, 642, 643, 644, 645, 646, 647, 648, 649, 650, 651, 652, 653, 654, 655, 656, 657, 658, 659, 660, 661, 662, 663, 664, 665, 666, 667, 668, 669, 670, 671, 672, 673, 674, 675, 676, 677, 678, 679, 680, 681, 682, 683, 684, 135, 141, 142, 143, 144, 1138, 1139, 1140, 1141, 1142, 1143, 1144, 1145, 1146, 1147, 1148, 1149, 1150, 1151, 1152, 1153] (by decide +kernel) (by decide +kernel)
set_option maxRecDepth 20000 in
theorem gL_law_X12_loadComponent : GoodIn wsL_law (wsV RL 26 RX12 yX12_loadComponent wsX12_loadComponent) := goodIn_app (goodIn_of _ (by decide +kernel)) ggL_law_X12_loadComponent
set_option maxRecDepth 20000 in
theorem ggL_law_X11_setInitialValue : GoodIn wsL_law wsX11_setInitialValue := goodIn_r _ [688, 23, 689, 690, 691, 30, 692, 401, 402, 403, 693, 694, 695, 78, 696, 94, 697, 698, 699, 700, 701, 77, 98, 702, 99, 703, 704, 90, 91, 92, 10, 11, 93, 29, 95, 96, 97, 100, 101, 102, 103, 104, 105, 106, 107, 108, 109, 110, 111, 112, 113, 114, 115, 116, 117, 705, 563, 564, 565, 706, 405, 406, 407, 408, 707, 708, 709, 710, 711, 712, 713, 714, 715, 258, 240, 259, 716, 717, 718, 719, 720, 441, 442, 443, 444, 445, 446, 447, 448, 449, 450, 451, 452, 453, 454, 455, 456, 457, 458, 183, 184, 185, 459, 460, 179, 180, 181, 182, 186, 187, 188, 189, 461, 462, 192, 463, 464, 465, 466, 467, 468, 469, 470, 471, 472, 200, 201, 202, 203, 204, 205, 206, 721, 398, 399, 400, 527, 528, 529, 2, 530, 27, 531, 532, 533, 26, 534, 535, 127, 536, 537, 538, 539, 22, 540, 79, 80, 82, 84, 85, 89, 86, 87, 541, 542, 543, 544, 545, 546, 547, 35, 548, 549, 550, 551, 552, 553, 554, 555, 556, 557, 121, 558, 559, 560, 561, 562, 566, 567, 568, 569, 1130, 1131, 1132, 1133, 1134, 1135, 1136, 1137, 1159, 1160, 1161, 1162, 1163, 1164, 1165, 1166, 1167, 1168, 1169, 1170, 1171, 1186, 1187, 1188, 1175, 1176, 1177, 1189, 1190, 1191, 1172, 1173, 1174, 1178, 1179] (by decide +kernel) (by decide +kernel)
set_option maxRecDepth 20000 in
theorem gL_law_X11_setInitialValue : GoodIn wsL_law (wsV RL 27 RX11 yX11_setInitialValue wsX11_setInitialValue) := goodIn_app (goodIn_of _ (by decide +kernel)) ggL_law_X11_setInitialValue
set_option maxRecDepth 20000 in
theorem ggL_law_X12_setInitialValue : GoodIn wsL_law wsX12_setInitialValue := goodIn_r _ [725, 133, 265, 266, 5, 267, 680, 681, 682, 683, 684, 135, 141, 142, 143, 144, 1138, 1139, 1140, 1141, 1142, 1143, 1144, 1145, 1146, 1147, 1148, 1149, 1150, 1151, 1152, 1153] (by decide +kernel) (by decide +kernel)
set_option maxRecDepth 20000 in
theorem gL_law_X12_setInitialValue : GoodIn wsL_law (wsV RL 31 RX12 yX12_setInitialValue wsX12_setInitialValue) := goodIn_app (goodIn_of _ (by decide +kernel)) ggL_law_X12_setInitialValue
set_option maxRecDepth 20000 in
theorem ggL_law_X11_removeMethod : GoodIn wsL_law wsX11_removeMethod := goodIn_r _ [729, 23, 730, 731, 732, 78, 733, 99, 706, 405, 406, 97, 407, 408, 734, 698, 699, 700, 701, 77, 94, 98, 702, 703, 704, 90, 91, 92, 10, 11, 93, 29, 30, 95, 96, 100, 101, 102, 103, 104, 105, 106, 107, 108, 109, 110, 111, 112, 113, 114, 115, 116, 117, 705, 563, 564, 565, 401, 402, 403, 707, 708, 709, 710, 711, 712, 713, 714, 715, 258, 240, 259, 716, 717, 718, 719, 720, 441, 442, 443, 444, 445, 446, 447, 448, 449, 450, 451, 452, 453, 454, 455, 456, 457, 458, 183, 184, 185, 459, 460, 179, 180, 181, 182, 186, 187, 188, 189, 461, 462, 192, 463, 464, 465, 466, 467, 468, 469, 470, 471, 472, 200, 201, 202, 203, 204, 205, 206, 527, 528, 529, 2, 530, 27, 531, 532, 533, 26, 534, 535, 127, 536, 537, 538, 539, 22, 540, 79, 80, 82, 84, 85, 89, 86, 87, 541, 542, 543, 544, 545, 546, 547, 35, 548, 549, 550, 551, 552, 553, 554, 555, 556, 557, 121, 558, 559, 560, 561, 562, 566, 567, 568, 569, 570, 1130, 1131, 1132, 1133, 1134, 1135, 1136, 1137, 1159, 1160, 1161, 1162, 1163, 1164, 1165, 1166, 1167, 1168, 1169, 1170, 1171, 1186, 1187, 1188, 1189, 1190, 1191, 1175, 1176, 1177, 1172, 1173, 1174, 1178, 1179] (by decide +kernel) (by decide +kernel)
set_option maxRecDepth 20000 in
theorem gL_law_X11_removeMethod : GoodIn wsL_law (wsV RL 32 RX11 yX11_removeMethod wsX11_removeMethod) := goodIn_app (goodIn_of _ (by decide +kernel)) ggL_law_X11_removeMethod
set_option maxRecDepth 20000 in
theorem ggL_law_X12_removeMethod : GoodIn wsL_law wsX12_removeMethod := goodIn_r _ [738, 133, 739, 740, 741, 5, 742, 265, 266, 267, 680, 681, 682, 683, 684, 135, 141, 142, 143, 144, 1138, 1139, 1140, 1141, 1142, 1143, 1144, 1145, 1146, 1147, 1148, 1149, 1150, 1151, 1152, 1153] (by decide +kernel) (by decide +kernel)
set_option maxRecDepth 20000 in
theorem gL_law_X12_removeMethod : GoodIn wsL_law (wsV RL 35 RX12 yX12_removeMethod wsX12_removeMethod) := goodIn_app (goodIn_of _ (by decide +kernel)) ggL_law_X12_removeMethod
set_option maxRecDepth 20000 in
theorem ggL_law_X11_methodCount : GoodIn wsL_law wsX11_methodCount := goodIn_r _ [746, 23, 570, 405, 406, 97, 407, 408, 1130, 1131, 1132, 1133, 1134, 1135, 1136, 1137, 1159, 1160, 1161, 1162, 1163, 1164, 1165, 1166, 1167, 1168, 1169, 1170, 1171, 1186, 1187, 1188, 1189, 1190, 1191] (by decide +kernel) (by decide +kernel)
set_option maxRecDepth 20000 in
theorem gL_law_X11_methodCount : GoodIn wsL_law (wsV RL 36 RX11 yX11_methodCount wsX11_methodCount) := goodIn_app (goodIn_of _ (by decide +kernel)) ggL_law_X11_methodCount
set_option maxRecDepth 20000 in
theorem ggL_law_X12_methodCount : GoodIn wsL_law wsX12_methodCount := goodIn_r _ [750, 133, 1138, 1139, 1140, 1141, 1142, 1143, 1144, 1145, 1146, 1147, 1148, 1149, 1150, 1151, 1152, 1153] (by decide +kernel) (by decide +kernel)
set_option maxRecDepth 20000 in
theorem gL_law_X12_methodCount : GoodIn wsL_law (wsV RL 39 RX12 yX12_methodCount wsX12_methodCount) := goodIn_app (goodIn_of _ (by decide +kernel)) ggL_law_X12_methodCount
set_option maxRecDepth 20000 in
theorem ggL_law_X11_complexity : GoodIn wsL_law wsX11_complexity := goodIn_r _ [754, 23, 755, 730, 731, 732, 78, 733, 99, 706, 405, 406, 97, 407, 408, 756, 708, 709, 710, 711, 712, 713, 714, 715, 258, 240, 259, 716, 717, 718, 719, 107, 757, 758, 759, 479, 760, 484, 485, 486, 761, 762, 763, 1130, 1131, 1132, 1133, 1134, 1135, 1136, 1137, 1159, 1160, 1161, 1162, 1163, 1164, 1165, 1166, 1167, 1168, 1169, 1170, 1171, 1186, 1187, 1188, 1189, 1190, 1191, 1197, 1198, 1199, 1200, 1201, 1202, 1203] (by decide +kernel) (by decide +kernel)
set_option maxRecDepth 20000 in
theorem gL_law_X11_complexity : GoodIn wsL_law (wsV RL 40 RX11 yX11_complexity wsX11_complexity) := goodIn_app (goodIn_of _ (by decide +kernel)) ggL_law_X11_complexity
set_option maxRecDepth 20000 in
theorem ggL_law_X12_complexity : GoodIn wsL_law wsX12_complexity := goodIn_r _ [767, 133, 739, 740, 741, 5, 742, 265, 266, 267, 768, 769, 770, 771, 772, 773, 774, 775, 1138, 1139, 1140, 1141, 1142, 1143, 1144, 1145, 1146, 1147, 1148, 1149, 1150, 1151, 1152, 1153] (by decide +kernel) (by decide +kernel)
set_option maxRecDepth 20000 in
theorem gL_law_X12_complexity : GoodIn wsL_law (wsV RL 43 RX12 yX12_complexity wsX12_complexity) := goodIn_app (goodIn_of _ (by decide +kernel)) ggL_law_X12_complexity
set_option maxRecDepth 20000 in
theorem ggL_law_X11_runText : GoodIn wsL_law wsX11_runText := goodIn_r _ [779, 23, 15, 149, 150, 151, 14, 152, 153, 154, 155, 156, 43, 157, 158, 780, 319, 320, 321, 322, 323, 324, 325, 49, 48, 326, 201, 184, 202, 327, 255, 235, 256, 237, 257, 258, 240, 259, 328, 329, 52, 330, 245, 246, 247, 230, 231, 232, 730, 731, 732, 78, 733, 99, 706, 405, 406, 97, 407, 408, 781, 782, 783, 2, 784, 31, 32, 785, 563, 564, 30, 565, 401, 402, 403, 786, 787, 788, 789, 703, 790, 98, 791, 707, 708, 709, 710, 711, 712, 713, 714, 715, 716, 717, 718, 719, 107, 792, 793, 794, 702, 795, 796, 797, 415, 798, 437, 439, 438, 799, 800, 801, 422, 802, 427, 428, 705, 803, 804, 805, 502, 806, 512, 513, 514, 807, 721, 398, 399, 400, 272, 273, 274, 275, 276, 277, 278, 279, 280, 167, 168, 169, 170, 171, 172, 173, 174, 175, 176, 177, 178, 179, 180, 181, 182, 183, 185, 186, 187, 188, 189, 190, 191, 192, 193, 194, 195, 196, 197, 198, 199, 47, 200, 203, 204, 205, 206, 207, 208, 209, 210, 211, 46, 281, 282, 214, 283, 284, 285, 286, 287, 288, 289, 290, 291, 292, 293, 1130, 1131, 1132, 1133, 1134, 1135, 1136, 1137, 1159, 1160, 1161, 1162, 1163, 1164, 1165, 1166, 1167, 1168, 1169, 1170, 1171, 1154, 1155, 1156, 1157, 1186, 1187, 1188, 1189, 1190, 1191, 1175, 1176, 1177, 1197, 1198, 1199, 1200, 1201, 1202, 1203, 1192, 1193, 1194, 1195, 1196] (by decide +kernel) (by decide +kernel)
set_option maxRecDepth 20000 in
theorem gL_law_X11_runText : GoodIn wsL_law (wsV RL 44 RX11 yX11_runText wsX11_runText) := goodIn_app (goodIn_of _ (by decide +kernel)) ggL_law_X11_runText
set_option maxRecDepth 20000 in
theorem ggL_law_X12_runText : GoodIn wsL_law wsX12_runText := goodIn_r _ [811, 264, 136, 133, 265, 266, 5, 267, 812, 813, 814, 815, 137, 816, 817, 818, 819, 138, 820, 821, 822, 823, 768, 769, 770, 771, 772, 773, 774, 775, 824, 825, 826, 827, 828, 829, 830, 831, 832, 833, 834, 835, 1138, 1139, 1140, 1141, 1142, 1143, 1144, 1145, 1146, 1147, 1148, 1149, 1150, 1151, 1152, 1153] (by decide +kernel) (by decide +kernel)
set_option maxRecDepth 20000 in
theorem gL_law_X12_runText : GoodIn wsL_law (wsV RL 47 RX12 yX12_runText wsX12_runText) := goodIn_app (goodIn_of _ (by decide +kernel)) ggL_law_X12_runText
set_option maxRecDepth 20000 in
theorem ggL_law_X11_setMaximumLength : GoodIn wsL_law wsX11_setMaximumLength := goodIn_r _ [839, 27, 23, 531, 532, 533, 26, 534, 535, 127, 536, 537, 538, 539, 22, 540, 79, 80, 82, 84, 85, 89, 86, 87, 541, 542, 543, 544, 545, 546, 547, 35, 548, 549, 550, 551, 552, 553, 554, 555, 556, 557, 121, 558, 559, 560, 561, 562, 563, 564, 30, 565, 401, 402, 403, 1130, 1131, 1132, 1133, 1134, 1135, 1136, 1137, 1159, 1160, 1161, 1162, 1163, 1164, 1165, 1166, 1167, 1168, 1169, 1170, 1171, 1172, 1173, 1174, 1178, 1179, 1175, 1176, 1177] (by decide +kernel) (by decide +kernel)
set_option maxRecDepth 20000 in
theorem gL_law_X11_setMaximumLength : GoodIn wsL_law (wsV RL 48 RX11 yX11_setMaximumLength wsX11_setMaximumLength) := goodIn_app (goodIn_of _ (by decide +kernel)) ggL_law_X11_setMaximumLength
set_option maxRecDepth 20000 in
theorem ggL_law_X12_setMaximumLength : GoodIn wsL_law wsX12_setMaximumLength := goodIn_r _ [843, 133, 265, 266, 5, 267, 680, 681, 682, 683, 684, 135, 1138, 1139, 1140, 1141, 1142, 1143, 1144, 1145, 1146, 1147, 1148, 1149, 1150, 1151, 1152, 1153] (by decide +kernel) (by decide +kernel)
set_option maxRecDepth 20000 in
theorem gL_law_X12_setMaximumLength : GoodIn wsL_law (wsV RL 51 RX12 yX12_setMaximumLength wsX12_setMaximumLength) := goodIn_app (goodIn_of _ (by decide +kernel)) ggL_law_X12_setMaximumLength
set_option maxRecDepth 20000 in
theorem ggL_law_X11_explore : GoodIn wsL_law wsX11_explore := goodIn_r _ [847, 23, 27, 848, 849, 850, 22, 851, 852, 853, 854, 855, 82, 80, 79, 85, 856, 857, 858, 859, 89, 860, 405, 406, 97, 407, 408, 531, 532, 533, 26, 534, 535, 127, 536, 537, 538, 539, 540, 84, 86, 87, 541, 542, 543, 544, 545, 546, 547, 35, 548, 549, 550, 551, 552, 553, 554, 555, 556, 557, 121, 558, 559, 560, 561, 562, 563, 564, 30, 565, 401, 402, 403, 861, 862, 863, 864, 88, 865, 866, 787, 788, 78, 789, 99, 703, 790, 98, 791, 731, 732, 733, 706, 707, 708, 709, 710, 711, 712, 713, 714, 715, 258, 240, 259, 716, 717, 718, 719, 107, 792, 793, 794, 702, 795, 796, 797, 415, 798, 437, 439, 438, 799, 800, 801, 422, 802, 427, 428, 705, 803, 804, 805, 502, 806, 512, 513, 514, 807, 721, 398, 399, 400, 867, 868, 869, 870, 871, 872, 873, 874, 875, 876, 877, 878, 879, 880, 881, 882, 883, 1130, 1131, 1132, 1133, 1134, 1135, 1136, 1137, 1159, 1160, 1161, 1162, 1163, 1164, 1165, 1166, 1167, 1168, 1169, 1170, 1171, 1178, 1179, 1186, 1187, 1188, 1189, 1190, 1191, 1172, 1173, 1174, 1175, 1176, 1177, 1197, 1198, 1199, 1200, 1201, 1202, 1203, 1192, 1193, 1194, 1195, 1196] (by decide +kernel) (by decide +kernel)
set_option maxRecDepth 20000 in
theorem gL_law_X11_explore : GoodIn wsL_law (wsV RL 52 RX11 yX11_explore wsX11_explore) := goodIn_app (goodIn_of _ (by decide +kernel)) ggL_law_X11_explore
set_option maxRecDepth 20000 in
theorem ggL_law_X12_explore : GoodIn wsL_law wsX12_explore := goodIn_r _ [887, 265, 266, 5, 267, 888, 889, 890, 891, 133, 892, 893, 894, 895, 896, 897, 898, 899, 680, 681, 682, 683, 684, 135, 900, 901, 902, 903, 904, 905, 906, 907, 812, 813, 814, 815, 137, 908, 909, 910, 911, 816, 817, 818, 819, 138, 820, 821, 822, 823, 768, 769, 770, 771, 772, 773, 774, 775, 824, 825, 826, 827, 828, 829, 830, 831, 832, 833, 834, 835, 912, 913, 914, 915, 916, 917, 918, 919, 139, 920, 921, 922, 923, 1138, 1139, 1140, 1141, 1142, 1143, 1144, 1145, 1146, 1147, 1148, 1149, 1150, 1151, 1152, 1153] (by decide +kernel) (by decide +kernel)
set_option maxRecDepth 20000 in
theorem gL_law_X12_explore : GoodIn wsL_law (wsV RL 55 RX12 yX12_explore wsX12_explore) := goodIn_app (goodIn_of _ (by decide +kernel)) ggL_law_X12_explore
set_option maxRecDepth 20000 in
theorem ggL_law_X11_reset : GoodIn wsL_law wsX11_reset := goodIn_r _ [927, 23, 27, 928, 929, 930, 22, 931, 85, 856, 857, 858, 859, 89, 531, 532, 533, 26, 534, 535, 127, 536, 537, 538, 539, 540, 79, 80, 82, 84, 86, 87, 541, 542, 543, 544, 545, 546, 547, 35, 548, 549, 550, 551, 552, 553, 554, 555, 556, 557, 121, 558, 559, 560, 561, 562, 563, 564, 30, 565, 401, 402, 403, 566, 567, 568, 569, 1130, 1131, 1132, 1133, 1134, 1135, 1136, 1137, 1159, 1160, 1161, 1162, 1163, 1164, 1165, 1166, 1167, 1168, 1169, 1170, 1171, 1172, 1173, 1174, 1178, 1179, 1175, 1176, 1177, 1186, 1187, 1188] (by decide +kernel) (by decide +kernel)
set_option maxRecDepth 20000 in
theorem gL_law_X11_reset : GoodIn wsL_law (wsV RL 56 RX11 yX11_reset wsX11_reset) := goodIn_app (goodIn_of _ (by decide +kernel)) ggL_law_X11_reset
set_option maxRecDepth 20000 in
theorem ggL_law_X12_reset : GoodIn wsL_law wsX12_reset := goodIn_r _ [935, 133, 680, 681, 682, 5, 683, 684, 135, 141, 142, 143, 144, 1138, 1139, 1140, 1141, 1142, 1143, 1144, 1145, 1146, 1147, 1148, 1149, 1150, 1151, 1152, 1153] (by decide +kernel) (by decide +kernel)
set_option maxRecDepth 20000 in
theorem gL_law_X12_reset : GoodIn wsL_law (wsV RL 59 RX12 yX12_reset wsX12_reset) := goodIn_app (goodIn_of _ (by decide +kernel)) ggL_law_X12_reset
set_option maxRecDepth 20000 in
theorem ggL_law_X11_undo : GoodIn wsL_law wsX11_undo := goodIn_r _ [939, 27, 23, 940, 941, 942, 26, 943, 536, 944, 945, 946, 947, 127, 535, 537, 538, 539, 22, 540, 79, 80, 82, 84, 85, 89, 86, 87, 541, 542, 543, 544, 545, 546, 547, 35, 548, 549, 550, 551, 552, 553, 554, 555, 556, 557, 121, 558, 559, 560, 561, 562, 563, 564, 30, 565, 401, 402, 403, 1130, 1131, 1132, 1133, 1134, 1135, 1136, 1137, 1172, 1173, 1174, 1159, 1160, 1161, 1162, 1163, 1164, 1165, 1166, 1167, 1168, 1169, 1170, 1171, 1178, 1179, 1175, 1176, 1177] (by decide +kernel) (by decide +kernel)
set_option maxRecDepth 20000 in
theorem gL_law_X11_undo : GoodIn wsL_law (wsV RL 60 RX11 yX11_undo wsX11_undo) := goodIn_app (goodIn_of _ (by decide +kernel)) ggL_law_X11_undo
set_option maxRecDepth 20000 in
theorem ggL_law_X12_undo : GoodIn wsL_law wsX12_undo := goodIn_r _ [951, 684, 133, 135, 1138, 1139, 1140, 1141, 1142, 1143, 1144, 1145, 1146, 1147, 1148, 1149, 1150, 1151, 1152, 1153] (by decide +kernel) (by decide +kernel)
set_option maxRecDepth 20000 in
theorem gL_law_X12_undo : GoodIn wsL_law (wsV RL 63 RX12 yX12_undo wsX12_undo) := goodIn_app (goodIn_of _ (by decide +kernel)) ggL_law_X12_undo
set_option maxRecDepth 20000 in
theorem ggL_law_X11_openPairs : GoodIn wsL_law wsX11_openPairs := goodIn_r _ [955, 23, 956, 957, 958, 22, 959, 852, 853, 854, 855, 82, 80, 79, 85, 856, 857, 858, 859, 89, 860, 405, 406, 97, 407, 408, 1130, 1131, 1132, 1133, 1134, 1135, 1136, 1137, 1159, 1160, 1161, 1162, 1163, 1164, 1165, 1166, 1167, 1168, 1169, 1170, 1171, 1178, 1179, 1186, 1187, 1188, 1189, 1190, 1191] (by decide +kernel) (by decide +kernel)
set_option maxRecDepth 20000 in
theorem gL_law_X11_openPairs : GoodIn wsL_law (wsV RL 64 RX11 yX11_openPairs wsX11_openPairs) := goodIn_app (goodIn_of _ (by decide +kernel)) ggL_law_X11_openPairs
set_option maxRecDepth 20000 in
theorem ggL_law_X12_openPairs : GoodIn wsL_law wsX12_openPairs := goodIn_r _ [963, 133, 892, 893, 894, 5, 895, 896, 897, 898, 899, 1138, 1139, 1140, 1141, 1142, 1143, 1144, 1145, 1146, 1147, 1148, 1149, 1150, 1151, 1152, 1153] (by decide +kernel) (by decide +kernel)
set_option maxRecDepth 20000 in
theorem gL_law_X12_openPairs : GoodIn wsL_law (wsV RL 67 RX12 yX12_openPairs wsX12_openPairs) := goodIn_app (goodIn_of _ (by decide +kernel)) ggL_law_X12_openPairs
set_option maxRecDepth 20000 in
theorem ggL_law_X11_skippedPairs : GoodIn wsL_law wsX11_skippedPairs := goodIn_r _ [967, 23, 1130, 1131, 1132, 1133, 1134, 1135, 1136, 1137, 1159, 1160, 1161, 1162, 1163, 1164, 1165, 1166, 1167, 1168, 1169, 1170, 1171] (by decide +kernel) (by decide +kernel)
set_option maxRecDepth 20000 in
theorem gL_law_X11_skippedPairs : GoodIn wsL_law (wsV RL 68 RX11 yX11_skippedPairs wsX11_skippedPairs) := goodIn_app (goodIn_of _ (by decide +kernel)) ggL_law_X11_skippedPairs
set_option maxRecDepth 20000 in
theorem ggL_law_X12_skippedPairs : GoodIn wsL_law wsX12_skippedPairs := goodIn_r _ [971, 133, 1138, 1139, 1140, 1141, 1142, 1143, 1144, 1145, 1146, 1147, 1148, 1149, 1150, 1151, 1152, 1153] (by decide +kernel) (by decide +kernel)
set_option maxRecDepth 20000 in
theorem gL_law_X12_skippedPairs : GoodIn wsL_law (wsV RL 71 RX12 yX12_skippedPairs wsX12_skippedPairs) := goodIn_app (goodIn_of _ (by decide +kernel)) ggL_law_X12_skippedPairs
set_option maxRecDepth 20000 in
theorem ggL_law_X11_redundantPairs : GoodIn wsL_law wsX11_redundantPairs := goodIn_r _ [975, 23, 1130, 1131, 1132, 1133, 1134, 1135, 1136, 1137, 1159, 1160, 1161, 1162, 1163, 1164, 1165, 1166, 1167, 1168, 1169, 1170, 1171] (by decide +kernel) (by decide +kernel)
set_option maxRecDepth 20000 in
theorem gL_law_X11_redundantPairs : GoodIn wsL_law (wsV RL 72 RX11 yX11_redundantPairs wsX11_redundantPairs) := goodIn_app (goodIn_of _ (by decide +kernel)) ggL_law_X11_redundantPairs
set_option maxRecDepth 20000 in
theorem ggL_law_X12_redundantPairs : GoodIn wsL_law wsX12_redundantPairs := goodIn_r _ [979, 133, 1138, 1139, 1140, 1141, 1142, 1143, 1144, 1145, 1146, 1147, 1148, 1149, 1150, 1151, 1152, 1153] (by decide +kernel) (by decide +kernel)
set_option maxRecDepth 20000 in
theorem gL_law_X12_redundantPairs : GoodIn wsL_law (wsV RL 75 RX12 yX12_redundantPairs wsX12_redundantPairs) := goodIn_app (goodIn_of _ (by decide +kernel)) ggL_law_X12_redundantPairs
set_option maxRecDepth 20000 in
theorem ggL_law_X11_droppedPairs : GoodIn wsL_law wsX11_droppedPairs := goodIn_r _ [983, 23, 1130, 1131, 1132, 1133, 1134, 1135, 1136, 1137, 1159, 1160, 1161, 1162, 1163, 1164, 1165, 1166, 1167, 1168, 1169, 1170, 1171] (by decide +kernel) (by decide +kernel)
set_option maxRecDepth 20000 in
theorem gL_law_X11_droppedPairs : GoodIn wsL_law (wsV RL 76 RX11 yX11_droppedPairs wsX11_droppedPairs) := goodIn_app (goodIn_of _ (by decide +kernel)) ggL_law_X11_droppedPairs
set_option maxRecDepth 20000 in
theorem ggL_law_X12_droppedPairs : GoodIn wsL_law wsX12_droppedPairs := goodIn_r _ [987, 133, 1138, 1139, 1140, 1141, 1142, 1143, 1144, 1145, 1146, 1147, 1148, 1149, 1150, 1151, 1152, 1153] (by decide +kernel) (by decide +kernel)
set_option maxRecDepth 20000 in
theorem gL_law_X12_droppedPairs : GoodIn wsL_law (wsV RL 79 RX12 yX12_droppedPairs wsX12_droppedPairs) := goodIn_app (goodIn_of _ (by decide +kernel)) ggL_law_X12_droppedPairs
set_option maxRecDepth 20000 in
theorem ggL_law_X11_poolSize : GoodIn wsL_law wsX11_poolSize := goodIn_r _ [991, 23, 1130, 1131, 1132, 1133, 1134, 1135, 1136, 1137, 1159, 1160, 1161, 1162, 1163, 1164, 1165, 1166, 1167, 1168, 1169, 1170, 1171] (by decide +kernel) (by decide +kernel)
set_option maxRecDepth 20000 in
theorem gL_law_X11_poolSize : GoodIn wsL_law (wsV RL 80 RX11 yX11_poolSize wsX11_poolSize) := goodIn_app (goodIn_of _ (by decide +kernel)) ggL_law_X11_poolSize
set_option maxRecDepth 20000 in
theorem ggL_law_X12_poolSize : GoodIn wsL_law wsX12_poolSize := goodIn_r _ [995, 133, 1138, 1139, 1140, 1141, 1142, 1143, 1144, 1145, 1146, 1147, 1148, 1149, 1150, 1151, 1152, 1153] (by decide +kernel) (by decide +kernel)
set_option maxRecDepth 20000 in
theorem gL_law_X12_poolSize : GoodIn wsL_law (wsV RL 83 RX12 yX12_poolSize wsX12_poolSize) := goodIn_app (goodIn_of _ (by decide +kernel)) ggL_law_X12_poolSize
set_option maxRecDepth 20000 in
theorem ggL_law_X11_sequenceLength : GoodIn wsL_law wsX11_sequenceLength := goodIn_r _ [999, 23, 1000, 857, 858, 22, 859, 89, 1130, 1131, 1132, 1133, 1134, 1135, 1136, 1137, 1159, 1160, 1161, 1162, 1163, 1164, 1165, 1166, 1167, 1168, 1169, 1170, 1171, 1178, 1179] (by decide +kernel) (by decide +kernel)
set_option maxRecDepth 20000 in
theorem gL_law_X11_sequenceLength : GoodIn wsL_law (wsV RL 84 RX11 yX11_sequenceLength wsX11_sequenceLength) := goodIn_app (goodIn_of _ (by decide +kernel)) ggL_law_X11_sequenceLength
set_option maxRecDepth 20000 in
theorem ggL_law_X12_sequenceLength : GoodIn wsL_law wsX12_sequenceLength := goodIn_r _ [1004, 1005, 1006, 1007, 5, 1008, 133, 265, 266, 267, 896, 897, 898, 899, 1138, 1139, 1140, 1141, 1142, 1143, 1144, 1145, 1146, 1147, 1148, 1149, 1150, 1151, 1152, 1153] (by decide +kernel) (by decide +kernel)
set_option maxRecDepth 20000 in
theorem gL_law_X12_sequenceLength : GoodIn wsL_law (wsV RL 87 RX12 yX12_sequenceLength wsX12_sequenceLength) := goodIn_app (goodIn_of _ (by decide +kernel)) ggL_law_X12_sequenceLength
set_option maxRecDepth 20000 in
theorem ggL_law_X11_sequenceCall : GoodIn wsL_law wsX11_sequenceCall := goodIn_r _ [1012, 23, 1000, 857, 858, 22, 859, 89, 1013, 555, 556, 35, 557, 553, 121, 1130, 1131, 1132, 1133, 1134, 1135, 1136, 1137, 1159, 1160, 1161, 1162, 1163, 1164, 1165, 1166, 1167, 1168, 1169, 1170, 1171, 1178, 1179] (by decide +kernel) (by decide +kernel)
set_option maxRecDepth 20000 in
theorem gL_law_X11_sequenceCall : GoodIn wsL_law (wsV RL 88 RX11 yX11_sequenceCall wsX11_sequenceCall) := goodIn_app (goodIn_of _ (by decide +kernel)) ggL_law_X11_sequenceCall
set_option maxRecDepth 20000 in
theorem ggL_law_X12_sequenceCall : GoodIn wsL_law wsX12_sequenceCall := goodIn_r _ [1017, 1005, 1006, 1007, 5, 1008, 133, 265, 266, 267, 896, 897, 898, 899, 908, 909, 910, 911, 1138, 1139, 1140, 1141, 1142, 1143, 1144, 1145, 1146, 1147, 1148, 1149, 1150, 1151, 1152, 1153] (by decide +kernel) (by decide +kernel)
set_option maxRecDepth 20000 in
theorem gL_law_X12_sequenceCall : GoodIn wsL_law (wsV RL 91 RX12 yX12_sequenceCall wsX12_sequenceCall) := goodIn_app (goodIn_of _ (by decide +kernel)) ggL_law_X12_sequenceCall
set_option maxRecDepth 20000 in
theorem ggL_law_X11_finalValue : GoodIn wsL_law wsX11_finalValue := goodIn_r _ [1021, 23, 1000, 857, 858, 22, 859, 89, 689, 690, 691, 30, 692, 401, 402, 403, 1130, 1131, 1132, 1133, 1134, 1135, 1136, 1137, 1159, 1160, 1161, 1162, 1163, 1164, 1165, 1166, 1167, 1168, 1169, 1170, 1171, 1175, 1176, 1177] (by decide +kernel) (by decide +kernel)
set_option maxRecDepth 20000 in
theorem gL_law_X11_finalValue : GoodIn wsL_law (wsV RL 92 RX11 yX11_finalValue wsX11_finalValue) := goodIn_app (goodIn_of _ (by decide +kernel)) ggL_law_X11_finalValue
set_option maxRecDepth 20000 in
theorem ggL_law_X12_finalValue : GoodIn wsL_law wsX12_finalValue := goodIn_r _ [1025, 137, 1005, 1006, 1007, 5, 1008, 133, 265, 266, 267, 904, 905, 906, 907, 812, 813, 814, 815, 896, 897, 898, 899, 908, 909, 910, 911, 816, 817, 818, 819, 138, 820, 821, 822, 823, 768, 769, 770, 771, 772, 773, 774, 775, 824, 825, 826, 827, 828, 829, 830, 831, 832, 833, 834, 835, 1138, 1139, 1140, 1141, 1142, 1143, 1144, 1145, 1146, 1147, 1148, 1149, 1150, 1151, 1152, 1153] (by decide +kernel) (by decide +kernel)
set_option maxRecDepth 20000 in
theorem gL_law_X12_finalValue : GoodIn wsL_law (wsV RL 95 RX12 yX12_finalValue wsX12_finalValue) := goodIn_app (goodIn_of _ (by decide +kernel)) ggL_law_X12_finalValue
set_option maxRecDepth 20000 in
theorem ggL_law_X11_enabledMethods : GoodIn wsL_law wsX11_enabledMethods := goodIn_r _ [1029, 23, 1000, 857, 858, 22, 859, 89, 570, 405, 406, 97, 407, 408, 1030, 1031, 1032, 78, 1033, 99, 703, 791, 731, 732, 733, 706, 707, 708, 709, 710, 711, 712, 713, 714, 715, 258, 240, 259, 716, 717, 718, 719, 107, 792, 793, 794, 702, 795, 796, 797, 415, 798, 437, 439, 438, 799, 800, 801, 422, 802, 427, 428, 1130, 1131, 1132, 1133, 1134, 1135, 1136, 1137, 1159, 1160, 1161, 1162, 1163, 1164, 1165, 1166, 1167, 1168, 1169, 1170, 1171, 1186, 1187, 1188, 1189, 1190, 1191, 1197, 1198, 1199, 1192, 1193, 1194, 1195, 1196, 1175, 1176, 1177] (by decide +kernel) (by decide +kernel)
set_option maxRecDepth 20000 in
theorem gL_law_X11_enabledMethods : GoodIn wsL_law (wsV RL 96 RX11 yX11_enabledMethods wsX11_enabledMethods) := goodIn_app (goodIn_of _ (by decide +kernel)) ggL_law_X11_enabledMethods
set_option maxRecDepth 20000 in
theorem ggL_law_X12_enabledMethods : GoodIn wsL_law wsX12_enabledMethods := goodIn_r _ [1037, 133, 1005, 1006, 1007, 5, 1008, 265, 266, 267, 904, 905, 906, 907, 812, 813, 814, 815, 137, 896, 897, 898, 899, 908, 909, 910, 911, 816, 817, 818, 819, 138, 820, 821, 822, 823, 768, 769, 770, 771, 772, 773, 774, 775, 824, 825, 826, 827, 828, 829, 830, 831, 832, 833, 834, 835, 1138, 1139, 1140, 1141, 1142, 1143, 1144, 1145, 1146, 1147, 1148, 1149, 1150, 1151, 1152, 1153] (by decide +kernel) (by decide +kernel)
set_option maxRecDepth 20000 in
theorem gL_law_X12_enabledMethods : GoodIn wsL_law (wsV RL 99 RX12 yX12_enabledMethods wsX12_enabledMethods) := goodIn_app (goodIn_of _ (by decide +kernel)) ggL_law_X12_enabledMethods
set_option maxRecDepth 20000 in
theorem ggL_law_X11_findState : GoodIn wsL_law wsX11_findState := goodIn_r _ [1041, 23, 1042, 872, 873, 22, 874, 84, 856, 857, 858, 859, 89, 875, 876, 877, 30, 878, 401, 402, 403, 1130, 1131, 1132, 1133, 1134, 1135, 1136, 1137, 1159, 1160, 1161, 1162, 1163, 1164, 1165, 1166, 1167, 1168, 1169, 1170, 1171, 1175, 1176, 1177] (by decide +kernel) (by decide +kernel)
set_option maxRecDepth 20000 in
theorem gL_law_X11_findState : GoodIn wsL_law (wsV RL 100 RX11 yX11_findState wsX11_findState) := goodIn_app (goodIn_of _ (by decide +kernel)) ggL_law_X11_findState
set_option maxRecDepth 20000 in
theorem ggL_law_X12_findState : GoodIn wsL_law wsX12_findState := goodIn_r _ [1046, 139, 920, 921, 922, 5, 923, 133, 137, 904, 905, 906, 907, 812, 813, 814, 815, 896, 897, 898, 899, 908, 909, 910, 911, 816, 817, 818, 819, 138, 820, 821, 822, 823, 768, 769, 770, 771, 772, 773, 774, 775, 824, 825, 826, 827, 828, 829, 830, 831, 832, 833, 834, 835, 265, 266, 267, 1138, 1139, 1140, 1141, 1142, 1143, 1144, 1145, 1146, 1147, 1148, 1149, 1150, 1151, 1152, 1153] (by decide +kernel) (by decide +kernel)
set_option maxRecDepth 20000 in
theorem gL_law_X12_findState : GoodIn wsL_law (wsV RL 104 RX12 yX12_findState wsX12_findState) := goodIn_app (goodIn_of _ (by decide +kernel)) ggL_law_X12_findState
set_option maxRecDepth 20000 in
theorem ggL_law_X11_failureCount : GoodIn wsL_law wsX11_failureCount := goodIn_r _ [1050, 23, 1130, 1131, 1132, 1133, 1134, 1135, 1136, 1137, 1159, 1160, 1161, 1162, 1163, 1164, 1165, 1166, 1167, 1168, 1169, 1170, 1171] (by decide +kernel) (by decide +kernel)
set_option maxRecDepth 20000 in
theorem gL_law_X11_failureCount : GoodIn wsL_law (wsV RL 105 RX11 yX11_failureCount wsX11_failureCount) := goodIn_app (goodIn_of _ (by decide +kernel)) ggL_law_X11_failureCount
set_option maxRecDepth 20000 in
theorem ggL_law_X12_failureCount : GoodIn wsL_law wsX12_failureCount := goodIn_r _ [1054, 133, 1138, 1139, 1140, 1141, 1142, 1143, 1144, 1145, 1146, 1147, 1148, 1149, 1150, 1151, 1152, 1153] (by decide +kernel) (by decide +kernel)
set_option maxRecDepth 20000 in
theorem gL_law_X12_failureCount : GoodIn wsL_law (wsV RL 108 RX12 yX12_failureCount wsX12_failureCount) := goodIn_app (goodIn_of _ (by decide +kernel)) ggL_law_X12_failureCount
set_option maxRecDepth 20000 in
theorem ggL_law_X11_failureLength : GoodIn wsL_law wsX11_failureLength := goodIn_r _ [1058, 23, 1059, 1060, 1061, 22, 1062, 541, 1130, 1131, 1132, 1133, 1134, 1135, 1136, 1137, 1159, 1160, 1161, 1162, 1163, 1164, 1165, 1166, 1167, 1168, 1169, 1170, 1171, 1178, 1179] (by decide +kernel) (by decide +kernel)
set_option maxRecDepth 20000 in
theorem gL_law_X11_failureLength : GoodIn wsL_law (wsV RL 109 RX11 yX11_failureLength wsX11_failureLength) := goodIn_app (goodIn_of _ (by decide +kernel)) ggL_law_X11_failureLength
set_option maxRecDepth 20000 in
theorem ggL_law_X12_failureLength : GoodIn wsL_law wsX12_failureLength := goodIn_r _ [1066, 1067, 1068, 1069, 5, 1070, 133, 265, 266, 267, 896, 897, 898, 899, 1138, 1139, 1140, 1141, 1142, 1143, 1144, 1145, 1146, 1147, 1148, 1149, 1150, 1151, 1152, 1153] (by decide +kernel) (by decide +kernel)
set_option maxRecDepth 20000 in
theorem gL_law_X12_failureLength : GoodIn wsL_law (wsV RL 112 RX12 yX12_failureLength wsX12_failureLength) := goodIn_app (goodIn_of _ (by decide +kernel)) ggL_law_X12_failureLength
set_option maxRecDepth 20000 in
theorem ggL_law_X11_failureCall : GoodIn wsL_law wsX11_failureCall := goodIn_r _ [1074, 23, 1059, 1060, 1061, 22, 1062, 541, 1013, 555, 556, 35, 557, 553, 121, 1130, 1131, 1132, 1133, 1134, 1135, 1136, 1137, 1159, 1160, 1161, 1162, 1163, 1164, 1165, 1166, 1167, 1168, 1169, 1170, 1171, 1178, 1179] (by decide +kernel) (by decide +kernel)
set_option maxRecDepth 20000 in
theorem gL_law_X11_failureCall : GoodIn wsL_law (wsV RL 113 RX11 yX11_failureCall wsX11_failureCall) := goodIn_app (goodIn_of _ (by decide +kernel)) ggL_law_X11_failureCall
set_option maxRecDepth 20000 in
theorem ggL_law_X12_failureCall : GoodIn wsL_law wsX12_failureCall := goodIn_r _ [1078, 1067, 1068, 1069, 5, 1070, 133, 265, 266, 267, 896, 897, 898, 899, 908, 909, 910, 911, 1138, 1139, 1140, 1141, 1142, 1143, 1144, 1145, 1146, 1147, 1148, 1149, 1150, 1151, 1152, 1153] (by decide +kernel) (by decide +kernel)
set_option maxRecDepth 20000 in
theorem gL_law_X12_failureCall : GoodIn wsL_law (wsV RL 116 RX12 yX12_failureCall wsX12_failureCall) := goodIn_app (goodIn_of _ (by decide +kernel)) ggL_law_X12_failureCall
set_option maxRecDepth 20000 in
theorem ggL_law_X11_failureVerdict : GoodIn wsL_law wsX11_failureVerdict := goodIn_r _ [1082, 23, 1059, 1060, 1061, 22, 1062, 541, 1130, 1131, 1132, 1133, 1134, 1135, 1136, 1137, 1159, 1160, 1161, 1162, 1163, 1164, 1165, 1166, 1167, 1168, 1169, 1170, 1171] (by decide +kernel) (by decide +kernel)
set_option maxRecDepth 20000 in
theorem gL_law_X11_failureVerdict : GoodIn wsL_law (wsV RL 117 RX11 yX11_failureVerdict wsX11_failureVerdict) := goodIn_app (goodIn_of _ (by decide +kernel)) ggL_law_X11_failureVerdict
set_option maxRecDepth 20000 in
theorem ggL_law_X12_failureVerdict : GoodIn wsL_law wsX12_failureVerdict := goodIn_r _ [1086, 1067, 1068, 1069, 5, 1070, 133, 265, 266, 267, 1087, 1088, 1089, 1090, 1138, 1139, 1140, 1141, 1142, 1143, 1144, 1145, 1146, 1147, 1148, 1149, 1150, 1151, 1152, 1153] (by decide +kernel) (by decide +kernel)
set_option maxRecDepth 20000 in
theorem gL_law_X12_failureVerdict : GoodIn wsL_law (wsV RL 120 RX12 yX12_failureVerdict wsX12_failureVerdict) := goodIn_app (goodIn_of _ (by decide +kernel)) ggL_law_X12_failureVerdict
set_option maxRecDepth 20000 in
theorem ggL_law_X11_minimizedLength : GoodIn wsL_law wsX11_minimizedLength := goodIn_r _ [1094, 23, 36, 1059, 1060, 1061, 22, 1062, 541, 1095, 1096, 1097, 2, 1098, 1099, 546, 547, 35, 548, 549, 550, 551, 552, 553, 554, 555, 556, 557, 121, 558, 559, 560, 561, 1100, 1101, 1102, 1103, 37, 1104, 1105, 1106, 1107, 1108, 31, 32, 785, 563, 564, 30, 565, 401, 402, 403, 1013, 786, 787, 788, 78, 789, 99, 703, 790, 98, 791, 731, 732, 733, 706, 405, 406, 97, 407, 408, 707, 708, 709, 710, 711, 712, 713, 714, 715, 258, 240, 259, 716, 717, 718, 719, 107, 792, 793, 794, 702, 795, 796, 797, 415, 798, 437, 439, 438, 799, 800, 801, 422, 802, 427, 428, 705, 803, 804, 805, 502, 806, 512, 513, 514, 807, 721, 398, 399, 400, 1130, 1131, 1132, 1133, 1134, 1135, 1136, 1137, 1159, 1160, 1161, 1162, 1163, 1164, 1165, 1166, 1167, 1168, 1169, 1170, 1171, 1178, 1179, 1186, 1187, 1188, 1175, 1176, 1177, 1197, 1198, 1199, 1200, 1201, 1202, 1203, 1189, 1190, 1191, 1192, 1193, 1194, 1195, 1196] (by decide +kernel) (by decide +kernel)
set_option maxRecDepth 20000 in
theorem gL_law_X11_minimizedLength : GoodIn wsL_law (wsV RL 121 RX11 yX11_minimizedLength wsX11_minimizedLength) := goodIn_app (goodIn_of _ (by decide +kernel)) ggL_law_X11_minimizedLength
set_option maxRecDepth 20000 in
theorem ggL_law_X12_minimizedLength : GoodIn wsL_law wsX12_minimizedLength := goodIn_r _ [1112, 1113, 1067, 1068, 1069, 5, 1070, 133, 265, 266, 267, 1114, 1115, 1116, 1117, 140, 896, 897, 898, 899, 908, 909, 910, 911, 1087, 1088, 1089, 1090, 1118, 1119, 1120, 1121, 812, 813, 814, 815, 137, 816, 817, 818, 819, 138, 820, 821, 822, 823, 768, 769, 770, 771, 772, 773, 774, 775, 824, 825, 826, 827, 828, 829, 830, 831, 832, 833, 834, 835, 1138, 1139, 1140, 1141, 1142, 1143, 1144, 1145, 1146, 1147, 1148, 1149, 1150, 1151, 1152, 1153] (by decide +kernel) (by decide +kernel)
set_option maxRecDepth 20000 in
theorem gL_law_X12_minimizedLength : GoodIn wsL_law (wsV RL 124 RX12 yX12_minimizedLength wsX12_minimizedLength) := goodIn_app (goodIn_of _ (by decide +kernel)) ggL_law_X12_minimizedLength
set_option maxRecDepth 20000 in
theorem ggL_law_X11_minimizedCall : GoodIn wsL_law wsX11_minimizedCall := goodIn_r _ [1125, 23, 36, 1059, 1060, 1061, 22, 1062, 541, 1095, 1096, 1097, 2, 1098, 1099, 546, 547, 35, 548, 549, 550, 551, 552, 553, 554, 555, 556, 557, 121, 558, 559, 560, 561, 1100, 1101, 1102, 1103, 37, 1104, 1105, 1106, 1107, 1108, 31, 32, 785, 563, 564, 30, 565, 401, 402, 403, 1013, 786, 787, 788, 78, 789, 99, 703, 790, 98, 791, 731, 732, 733, 706, 405, 406, 97, 407, 408, 707, 708, 709, 710, 711, 712, 713, 714, 715, 258, 240, 259, 716, 717, 718, 719, 107, 792, 793, 794, 702, 795, 796, 797, 415, 798, 437, 439, 438, 799, 800, 801, 422, 802, 427, 428, 705, 803, 804, 805, 502, 806, 512, 513, 514, 807, 721, 398, 399, 400, 1130, 1131, 1132, 1133, 1134, 1135, 1136, 1137, 1159, 1160, 1161, 1162, 1163, 1164, 1165, 1166, 1167, 1168, 1169, 1170, 1171, 1178, 1179, 1186, 1187, 1188, 1175, 1176, 1177, 1197, 1198, 1199, 1200, 1201, 1202, 1203, 1189, 1190, 1191, 1192, 1193, 1194, 1195, 1196] (by decide +kernel) (by decide +kernel)
set_option maxRecDepth 20000 in
theorem gL_law_X11_minimizedCall : GoodIn wsL_law (wsV RL 125 RX11 yX11_minimizedCall wsX11_minimizedCall) := goodIn_app (goodIn_of _ (by decide +kernel)) ggL_law_X11_minimizedCall
set_option maxRecDepth 20000 in
theorem ggL_law_X12_minimizedCall : GoodIn wsL_law wsX12_minimizedCall := goodIn_r _ [1129, 1113, 140, 1067, 1068, 1069, 5, 1070, 133, 265, 266, 267, 1114, 1115, 1116, 1117, 896, 897, 898, 899, 908, 909, 910, 911, 1087, 1088, 1089, 1090, 1118, 1119, 1120, 1121, 812, 813, 814, 815, 137, 816, 817, 818, 819, 138, 820, 821, 822, 823, 768, 769, 770, 771, 772, 773, 774, 775, 824, 825, 826, 827, 828, 829, 830, 831, 832, 833, 834, 835, 1138, 1139, 1140, 1141, 1142, 1143, 1144, 1145, 1146, 1147, 1148, 1149, 1150, 1151, 1152, 1153] (by decide +kernel) (by decide +kernel)
set_option maxRecDepth 20000 in
theorem gL_law_X12_minimizedCall : GoodIn wsL_law (wsV RL 128 RX12 yX12_minimizedCall wsX12_minimizedCall) := goodIn_app (goodIn_of _ (by decide +kernel)) ggL_law_X12_minimizedCall
theorem dL_law_0 : decode cL_law 0 = .ok (.new 7, 3) := by decide +kernel
theorem dL_law_3 : decode cL_law 3 = .ok (.dup, 1) := by decide +kernel
theorem dL_law_4 : decode cL_law 4 = .ok (.invokespecial 9, 3) := by decide +kernel
theorem dL_law_7 : decode cL_law 7 = .ok (.astore_n 1, 1) := by decide +kernel
theorem dL_law_8 : decode cL_law 8 = .ok (.new 10, 3) := by decide +kernel
theorem dL_law_11 : decode cL_law 11 = .ok (.dup, 1) := by decide +kernel
theorem dL_law_12 : decode cL_law 12 = .ok (.invokespecial 12, 3) := by decide +kernel
theorem dL_law_15 : decode cL_law 15 = .ok (.astore_n 2, 1) := by decide +kernel
theorem dL_law_16 : decode cL_law 16 = .ok (.iconst 0, 1) := by decide +kernel
theorem dL_law_17 : decode cL_law 17 = .ok (.istore_n 3, 1) := by decide +kernel
theorem dL_law_18 : decode cL_law 18 = .ok (.iload_n 3, 1) := by decide +kernel
theorem dL_law_19 : decode cL_law 19 = .ok (.aload_n 0, 1) := by decide +kernel
theorem dL_law_20 : decode cL_law 20 = .ok (.arraylength, 1) := by decide +kernel
theorem dL_law_21 : decode cL_law 21 = .ok (.iconst 4, 1) := by decide +kernel
theorem dL_law_22 : decode cL_law 22 = .ok (.isub, 1) := by decide +kernel
theorem dL_law_23 : decode cL_law 23 = .ok (.if_icmp .gt 737, 3) := by decide +kernel
theorem dL_law_26 : decode cL_law 26 = .ok (.aload_n 0, 1) := by decide +kernel
theorem dL_law_27 : decode cL_law 27 = .ok (.iload_n 3, 1) := by decide +kernel
theorem dL_law_28 : decode cL_law 28 = .ok (.iaload, 1) := by decide +kernel
theorem dL_law_29 : decode cL_law 29 = .ok (.bipush 31, 2) := by decide +kernel
theorem dL_law_31 : decode cL_law 31 = .ok (.iand, 1) := by decide +kernel
theorem dL_law_32 : decode cL_law 32 = .ok (.tableswitch 722 0 27 #[128, 151, 164, 177, 210, 233, 246, 269, 282, 305, 328, 341, 354, 367, 380, 393, 406, 419, 442, 475, 508, 531, 574, 587, 610, 643, 666, 689], 128) := by decide +kernel
theorem dL_law_160 : decode cL_law 160 = .ok (.aload_n 1, 1) := by decide +kernel
theorem dL_law_161 : decode cL_law 161 = .ok (.aload_n 0, 1) := by decide +kernel
theorem dL_law_162 : decode cL_law 162 = .ok (.iload_n 3, 1) := by decide +kernel
theorem dL_law_163 : decode cL_law 163 = .ok (.iconst 1, 1) := by decide +kernel
theorem dL_law_164 : decode cL_law 164 = .ok (.iadd, 1) := by decide +kernel
theorem dL_law_165 : decode cL_law 165 = .ok (.iaload, 1) := by decide +kernel
theorem dL_law_166 : decode cL_law 166 = .ok (.invokevirtual 13, 3) := by decide +kernel
theorem dL_law_169 : decode cL_law 169 = .ok (.aload_n 2, 1) := by decide +kernel
theorem dL_law_170 : decode cL_law 170 = .ok (.aload_n 0, 1) := by decide +kernel
theorem dL_law_171 : decode cL_law 171 = .ok (.iload_n 3, 1) := by decide +kernel
theorem dL_law_172 : decode cL_law 172 = .ok (.iconst 1, 1) := by decide +kernel
theorem dL_law_173 : decode cL_law 173 = .ok (.iadd, 1) := by decide +kernel
theorem dL_law_174 : decode cL_law 174 = .ok (.iaload, 1) := by decide +kernel
theorem dL_law_175 : decode cL_law 175 = .ok (.invokevirtual 17, 3) := by decide +kernel
theorem dL_law_178 : decode cL_law 178 = .ok (.if_icmp .eq 576, 3) := by decide +kernel
theorem dL_law_181 : decode cL_law 181 = .ok (.iconst 0, 1) := by decide +kernel
theorem dL_law_182 : decode cL_law 182 = .ok (.ireturn, 1) := by decide +kernel
theorem dL_law_183 : decode cL_law 183 = .ok (.aload_n 1, 1) := by decide +kernel
theorem dL_law_184 : decode cL_law 184 = .ok (.invokevirtual 18, 3) := by decide +kernel
theorem dL_law_187 : decode cL_law 187 = .ok (.aload_n 2, 1) := by decide +kernel
theorem dL_law_188 : decode cL_law 188 = .ok (.invokevirtual 22, 3) := by decide +kernel
theorem dL_law_191 : decode cL_law 191 = .ok (.if_icmp .eq 563, 3) := by decide +kernel
theorem dL_law_194 : decode cL_law 194 = .ok (.iconst 0, 1) := by decide +kernel
theorem dL_law_195 : decode cL_law 195 = .ok (.ireturn, 1) := by decide +kernel
theorem dL_law_196 : decode cL_law 196 = .ok (.aload_n 1, 1) := by decide +kernel
theorem dL_law_197 : decode cL_law 197 = .ok (.invokevirtual 23, 3) := by decide +kernel
theorem dL_law_200 : decode cL_law 200 = .ok (.aload_n 2, 1) := by decide +kernel
theorem dL_law_201 : decode cL_law 201 = .ok (.invokevirtual 26, 3) := by decide +kernel
theorem dL_law_204 : decode cL_law 204 = .ok (.if_icmp .eq 550, 3) := by decide +kernel
theorem dL_law_207 : decode cL_law 207 = .ok (.iconst 0, 1) := by decide +kernel
theorem dL_law_208 : decode cL_law 208 = .ok (.ireturn, 1) := by decide +kernel
theorem dL_law_209 : decode cL_law 209 = .ok (.aload_n 1, 1) := by decide +kernel
theorem dL_law_210 : decode cL_law 210 = .ok (.aload_n 0, 1) := by decide +kernel
theorem dL_law_211 : decode cL_law 211 = .ok (.iload_n 3, 1) := by decide +kernel
theorem dL_law_212 : decode cL_law 212 = .ok (.iconst 1, 1) := by decide +kernel
theorem dL_law_213 : decode cL_law 213 = .ok (.iadd, 1) := by decide +kernel
theorem dL_law_214 : decode cL_law 214 = .ok (.iaload, 1) := by decide +kernel
theorem dL_law_215 : decode cL_law 215 = .ok (.aload_n 0, 1) := by decide +kernel
theorem dL_law_216 : decode cL_law 216 = .ok (.iload_n 3, 1) := by decide +kernel
theorem dL_law_217 : decode cL_law 217 = .ok (.iconst 2, 1) := by decide +kernel
theorem dL_law_218 : decode cL_law 218 = .ok (.iadd, 1) := by decide +kernel
theorem dL_law_219 : decode cL_law 219 = .ok (.iaload, 1) := by decide +kernel
theorem dL_law_220 : decode cL_law 220 = .ok (.invokevirtual 27, 3) := by decide +kernel
theorem dL_law_223 : decode cL_law 223 = .ok (.aload_n 2, 1) := by decide +kernel
theorem dL_law_224 : decode cL_law 224 = .ok (.aload_n 0, 1) := by decide +kernel
theorem dL_law_225 : decode cL_law 225 = .ok (.iload_n 3, 1) := by decide +kernel
theorem dL_law_226 : decode cL_law 226 = .ok (.iconst 1, 1) := by decide +kernel
theorem dL_law_227 : decode cL_law 227 = .ok (.iadd, 1) := by decide +kernel
theorem dL_law_228 : decode cL_law 228 = .ok (.iaload, 1) := by decide +kernel
theorem dL_law_229 : decode cL_law 229 = .ok (.aload_n 0, 1) := by decide +kernel
theorem dL_law_230 : decode cL_law 230 = .ok (.iload_n 3, 1) := by decide +kernel
theorem dL_law_231 : decode cL_law 231 = .ok (.iconst 2, 1) := by decide +kernel
theorem dL_law_232 : decode cL_law 232 = .ok (.iadd, 1) := by decide +kernel
theorem dL_law_233 : decode cL_law 233 = .ok (.iaload, 1) := by decide +kernel
theorem dL_law_234 : decode cL_law 234 = .ok (.invokevirtual 31, 3) := by decide +kernel
theorem dL_law_237 : decode cL_law 237 = .ok (.if_icmp .eq 517, 3) := by decide +kernel
theorem dL_law_240 : decode cL_law 240 = .ok (.iconst 0, 1) := by decide +kernel
theorem dL_law_241 : decode cL_law 241 = .ok (.ireturn, 1) := by decide +kernel
theorem dL_law_242 : decode cL_law 242 = .ok (.aload_n 1, 1) := by decide +kernel
theorem dL_law_243 : decode cL_law 243 = .ok (.aload_n 0, 1) := by decide +kernel
theorem dL_law_244 : decode cL_law 244 = .ok (.iload_n 3, 1) := by decide +kernel
theorem dL_law_245 : decode cL_law 245 = .ok (.iconst 1, 1) := by decide +kernel
theorem dL_law_246 : decode cL_law 246 = .ok (.iadd, 1) := by decide +kernel
theorem dL_law_247 : decode cL_law 247 = .ok (.iaload, 1) := by decide +kernel
theorem dL_law_248 : decode cL_law 248 = .ok (.invokevirtual 32, 3) := by decide +kernel
theorem dL_law_251 : decode cL_law 251 = .ok (.aload_n 2, 1) := by decide +kernel
theorem dL_law_252 : decode cL_law 252 = .ok (.aload_n 0, 1) := by decide +kernel
theorem dL_law_253 : decode cL_law 253 = .ok (.iload_n 3, 1) := by decide +kernel
theorem dL_law_254 : decode cL_law 254 = .ok (.iconst 1, 1) := by decide +kernel
theorem dL_law_255 : decode cL_law 255 = .ok (.iadd, 1) := by decide +kernel
theorem dL_law_256 : decode cL_law 256 = .ok (.iaload, 1) := by decide +kernel
theorem dL_law_257 : decode cL_law 257 = .ok (.invokevirtual 35, 3) := by decide +kernel
theorem dL_law_260 : decode cL_law 260 = .ok (.if_icmp .eq 494, 3) := by decide +kernel
theorem dL_law_263 : decode cL_law 263 = .ok (.iconst 0, 1) := by decide +kernel
theorem dL_law_264 : decode cL_law 264 = .ok (.ireturn, 1) := by decide +kernel
theorem dL_law_265 : decode cL_law 265 = .ok (.aload_n 1, 1) := by decide +kernel
theorem dL_law_266 : decode cL_law 266 = .ok (.invokevirtual 36, 3) := by decide +kernel
theorem dL_law_269 : decode cL_law 269 = .ok (.aload_n 2, 1) := by decide +kernel
theorem dL_law_270 : decode cL_law 270 = .ok (.invokevirtual 39, 3) := by decide +kernel
theorem dL_law_273 : decode cL_law 273 = .ok (.if_icmp .eq 481, 3) := by decide +kernel
theorem dL_law_276 : decode cL_law 276 = .ok (.iconst 0, 1) := by decide +kernel
theorem dL_law_277 : decode cL_law 277 = .ok (.ireturn, 1) := by decide +kernel
theorem dL_law_278 : decode cL_law 278 = .ok (.aload_n 1, 1) := by decide +kernel
theorem dL_law_279 : decode cL_law 279 = .ok (.aload_n 0, 1) := by decide +kernel
theorem dL_law_280 : decode cL_law 280 = .ok (.iload_n 3, 1) := by decide +kernel
theorem dL_law_281 : decode cL_law 281 = .ok (.iconst 1, 1) := by decide +kernel
theorem dL_law_282 : decode cL_law 282 = .ok (.iadd, 1) := by decide +kernel
theorem dL_law_283 : decode cL_law 283 = .ok (.iaload, 1) := by decide +kernel
theorem dL_law_284 : decode cL_law 284 = .ok (.invokevirtual 40, 3) := by decide +kernel
theorem dL_law_287 : decode cL_law 287 = .ok (.aload_n 2, 1) := by decide +kernel
theorem dL_law_288 : decode cL_law 288 = .ok (.aload_n 0, 1) := by decide +kernel
theorem dL_law_289 : decode cL_law 289 = .ok (.iload_n 3, 1) := by decide +kernel
theorem dL_law_290 : decode cL_law 290 = .ok (.iconst 1, 1) := by decide +kernel
theorem dL_law_291 : decode cL_law 291 = .ok (.iadd, 1) := by decide +kernel
theorem dL_law_292 : decode cL_law 292 = .ok (.iaload, 1) := by decide +kernel
theorem dL_law_293 : decode cL_law 293 = .ok (.invokevirtual 43, 3) := by decide +kernel
theorem dL_law_296 : decode cL_law 296 = .ok (.if_icmp .eq 458, 3) := by decide +kernel
theorem dL_law_299 : decode cL_law 299 = .ok (.iconst 0, 1) := by decide +kernel
theorem dL_law_300 : decode cL_law 300 = .ok (.ireturn, 1) := by decide +kernel
theorem dL_law_301 : decode cL_law 301 = .ok (.aload_n 1, 1) := by decide +kernel
theorem dL_law_302 : decode cL_law 302 = .ok (.invokevirtual 44, 3) := by decide +kernel
theorem dL_law_305 : decode cL_law 305 = .ok (.aload_n 2, 1) := by decide +kernel
theorem dL_law_306 : decode cL_law 306 = .ok (.invokevirtual 47, 3) := by decide +kernel
theorem dL_law_309 : decode cL_law 309 = .ok (.if_icmp .eq 445, 3) := by decide +kernel
theorem dL_law_312 : decode cL_law 312 = .ok (.iconst 0, 1) := by decide +kernel
theorem dL_law_313 : decode cL_law 313 = .ok (.ireturn, 1) := by decide +kernel
theorem dL_law_314 : decode cL_law 314 = .ok (.aload_n 1, 1) := by decide +kernel
theorem dL_law_315 : decode cL_law 315 = .ok (.aload_n 0, 1) := by decide +kernel
theorem dL_law_316 : decode cL_law 316 = .ok (.iload_n 3, 1) := by decide +kernel
theorem dL_law_317 : decode cL_law 317 = .ok (.iconst 1, 1) := by decide +kernel
theorem dL_law_318 : decode cL_law 318 = .ok (.iadd, 1) := by decide +kernel
theorem dL_law_319 : decode cL_law 319 = .ok (.iaload, 1) := by decide +kernel
theorem dL_law_320 : decode cL_law 320 = .ok (.invokevirtual 48, 3) := by decide +kernel
theorem dL_law_323 : decode cL_law 323 = .ok (.aload_n 2, 1) := by decide +kernel
theorem dL_law_324 : decode cL_law 324 = .ok (.aload_n 0, 1) := by decide +kernel
theorem dL_law_325 : decode cL_law 325 = .ok (.iload_n 3, 1) := by decide +kernel
theorem dL_law_326 : decode cL_law 326 = .ok (.iconst 1, 1) := by decide +kernel
theorem dL_law_327 : decode cL_law 327 = .ok (.iadd, 1) := by decide +kernel
theorem dL_law_328 : decode cL_law 328 = .ok (.iaload, 1) := by decide +kernel
theorem dL_law_329 : decode cL_law 329 = .ok (.invokevirtual 51, 3) := by decide +kernel
theorem dL_law_332 : decode cL_law 332 = .ok (.if_icmp .eq 422, 3) := by decide +kernel
theorem dL_law_335 : decode cL_law 335 = .ok (.iconst 0, 1) := by decide +kernel
theorem dL_law_336 : decode cL_law 336 = .ok (.ireturn, 1) := by decide +kernel
theorem dL_law_337 : decode cL_law 337 = .ok (.aload_n 1, 1) := by decide +kernel
theorem dL_law_338 : decode cL_law 338 = .ok (.aload_n 0, 1) := by decide +kernel
theorem dL_law_339 : decode cL_law 339 = .ok (.iload_n 3, 1) := by decide +kernel
theorem dL_law_340 : decode cL_law 340 = .ok (.iconst 1, 1) := by decide +kernel
theorem dL_law_341 : decode cL_law 341 = .ok (.iadd, 1) := by decide +kernel
theorem dL_law_342 : decode cL_law 342 = .ok (.iaload, 1) := by decide +kernel
theorem dL_law_343 : decode cL_law 343 = .ok (.invokevirtual 52, 3) := by decide +kernel
theorem dL_law_346 : decode cL_law 346 = .ok (.aload_n 2, 1) := by decide +kernel
theorem dL_law_347 : decode cL_law 347 = .ok (.aload_n 0, 1) := by decide +kernel
theorem dL_law_348 : decode cL_law 348 = .ok (.iload_n 3, 1) := by decide +kernel
theorem dL_law_349 : decode cL_law 349 = .ok (.iconst 1, 1) := by decide +kernel
theorem dL_law_350 : decode cL_law 350 = .ok (.iadd, 1) := by decide +kernel
theorem dL_law_351 : decode cL_law 351 = .ok (.iaload, 1) := by decide +kernel
theorem dL_law_352 : decode cL_law 352 = .ok (.invokevirtual 55, 3) := by decide +kernel
theorem dL_law_355 : decode cL_law 355 = .ok (.if_icmp .eq 399, 3) := by decide +kernel
theorem dL_law_358 : decode cL_law 358 = .ok (.iconst 0, 1) := by decide +kernel
theorem dL_law_359 : decode cL_law 359 = .ok (.ireturn, 1) := by decide +kernel
theorem dL_law_360 : decode cL_law 360 = .ok (.aload_n 1, 1) := by decide +kernel
theorem dL_law_361 : decode cL_law 361 = .ok (.invokevirtual 56, 3) := by decide +kernel
theorem dL_law_364 : decode cL_law 364 = .ok (.aload_n 2, 1) := by decide +kernel
theorem dL_law_365 : decode cL_law 365 = .ok (.invokevirtual 59, 3) := by decide +kernel
theorem dL_law_368 : decode cL_law 368 = .ok (.if_icmp .eq 386, 3) := by decide +kernel
theorem dL_law_371 : decode cL_law 371 = .ok (.iconst 0, 1) := by decide +kernel
theorem dL_law_372 : decode cL_law 372 = .ok (.ireturn, 1) := by decide +kernel
theorem dL_law_373 : decode cL_law 373 = .ok (.aload_n 1, 1) := by decide +kernel
theorem dL_law_374 : decode cL_law 374 = .ok (.invokevirtual 60, 3) := by decide +kernel
theorem dL_law_377 : decode cL_law 377 = .ok (.aload_n 2, 1) := by decide +kernel
theorem dL_law_378 : decode cL_law 378 = .ok (.invokevirtual 63, 3) := by decide +kernel
theorem dL_law_381 : decode cL_law 381 = .ok (.if_icmp .eq 373, 3) := by decide +kernel
theorem dL_law_384 : decode cL_law 384 = .ok (.iconst 0, 1) := by decide +kernel
theorem dL_law_385 : decode cL_law 385 = .ok (.ireturn, 1) := by decide +kernel
theorem dL_law_386 : decode cL_law 386 = .ok (.aload_n 1, 1) := by decide +kernel
theorem dL_law_387 : decode cL_law 387 = .ok (.invokevirtual 64, 3) := by decide +kernel
theorem dL_law_390 : decode cL_law 390 = .ok (.aload_n 2, 1) := by decide +kernel
theorem dL_law_391 : decode cL_law 391 = .ok (.invokevirtual 67, 3) := by decide +kernel
theorem dL_law_394 : decode cL_law 394 = .ok (.if_icmp .eq 360, 3) := by decide +kernel
theorem dL_law_397 : decode cL_law 397 = .ok (.iconst 0, 1) := by decide +kernel
theorem dL_law_398 : decode cL_law 398 = .ok (.ireturn, 1) := by decide +kernel
theorem dL_law_399 : decode cL_law 399 = .ok (.aload_n 1, 1) := by decide +kernel
theorem dL_law_400 : decode cL_law 400 = .ok (.invokevirtual 68, 3) := by decide +kernel
theorem dL_law_403 : decode cL_law 403 = .ok (.aload_n 2, 1) := by decide +kernel
theorem dL_law_404 : decode cL_law 404 = .ok (.invokevirtual 71, 3) := by decide +kernel
theorem dL_law_407 : decode cL_law 407 = .ok (.if_icmp .eq 347, 3) := by decide +kernel
theorem dL_law_410 : decode cL_law 410 = .ok (.iconst 0, 1) := by decide +kernel
theorem dL_law_411 : decode cL_law 411 = .ok (.ireturn, 1) := by decide +kernel
theorem dL_law_412 : decode cL_law 412 = .ok (.aload_n 1, 1) := by decide +kernel
theorem dL_law_413 : decode cL_law 413 = .ok (.invokevirtual 72, 3) := by decide +kernel
theorem dL_law_416 : decode cL_law 416 = .ok (.aload_n 2, 1) := by decide +kernel
theorem dL_law_417 : decode cL_law 417 = .ok (.invokevirtual 75, 3) := by decide +kernel
theorem dL_law_420 : decode cL_law 420 = .ok (.if_icmp .eq 334, 3) := by decide +kernel
theorem dL_law_423 : decode cL_law 423 = .ok (.iconst 0, 1) := by decide +kernel
theorem dL_law_424 : decode cL_law 424 = .ok (.ireturn, 1) := by decide +kernel
theorem dL_law_425 : decode cL_law 425 = .ok (.aload_n 1, 1) := by decide +kernel
theorem dL_law_426 : decode cL_law 426 = .ok (.invokevirtual 76, 3) := by decide +kernel
theorem dL_law_429 : decode cL_law 429 = .ok (.aload_n 2, 1) := by decide +kernel
theorem dL_law_430 : decode cL_law 430 = .ok (.invokevirtual 79, 3) := by decide +kernel
theorem dL_law_433 : decode cL_law 433 = .ok (.if_icmp .eq 321, 3) := by decide +kernel
theorem dL_law_436 : decode cL_law 436 = .ok (.iconst 0, 1) := by decide +kernel
theorem dL_law_437 : decode cL_law 437 = .ok (.ireturn, 1) := by decide +kernel
theorem dL_law_438 : decode cL_law 438 = .ok (.aload_n 1, 1) := by decide +kernel
theorem dL_law_439 : decode cL_law 439 = .ok (.invokevirtual 80, 3) := by decide +kernel
theorem dL_law_442 : decode cL_law 442 = .ok (.aload_n 2, 1) := by decide +kernel
theorem dL_law_443 : decode cL_law 443 = .ok (.invokevirtual 83, 3) := by decide +kernel
theorem dL_law_446 : decode cL_law 446 = .ok (.if_icmp .eq 308, 3) := by decide +kernel
theorem dL_law_449 : decode cL_law 449 = .ok (.iconst 0, 1) := by decide +kernel
theorem dL_law_450 : decode cL_law 450 = .ok (.ireturn, 1) := by decide +kernel
theorem dL_law_451 : decode cL_law 451 = .ok (.aload_n 1, 1) := by decide +kernel
theorem dL_law_452 : decode cL_law 452 = .ok (.aload_n 0, 1) := by decide +kernel
theorem dL_law_453 : decode cL_law 453 = .ok (.iload_n 3, 1) := by decide +kernel
theorem dL_law_454 : decode cL_law 454 = .ok (.iconst 1, 1) := by decide +kernel
theorem dL_law_455 : decode cL_law 455 = .ok (.iadd, 1) := by decide +kernel
theorem dL_law_456 : decode cL_law 456 = .ok (.iaload, 1) := by decide +kernel
theorem dL_law_457 : decode cL_law 457 = .ok (.invokevirtual 84, 3) := by decide +kernel
theorem dL_law_460 : decode cL_law 460 = .ok (.aload_n 2, 1) := by decide +kernel
theorem dL_law_461 : decode cL_law 461 = .ok (.aload_n 0, 1) := by decide +kernel
theorem dL_law_462 : decode cL_law 462 = .ok (.iload_n 3, 1) := by decide +kernel
theorem dL_law_463 : decode cL_law 463 = .ok (.iconst 1, 1) := by decide +kernel
theorem dL_law_464 : decode cL_law 464 = .ok (.iadd, 1) := by decide +kernel
theorem dL_law_465 : decode cL_law 465 = .ok (.iaload, 1) := by decide +kernel
theorem dL_law_466 : decode cL_law 466 = .ok (.invokevirtual 87, 3) := by decide +kernel
theorem dL_law_469 : decode cL_law 469 = .ok (.if_icmp .eq 285, 3) := by decide +kernel
theorem dL_law_472 : decode cL_law 472 = .ok (.iconst 0, 1) := by decide +kernel
theorem dL_law_473 : decode cL_law 473 = .ok (.ireturn, 1) := by decide +kernel
theorem dL_law_474 : decode cL_law 474 = .ok (.aload_n 1, 1) := by decide +kernel
theorem dL_law_475 : decode cL_law 475 = .ok (.aload_n 0, 1) := by decide +kernel
theorem dL_law_476 : decode cL_law 476 = .ok (.iload_n 3, 1) := by decide +kernel
theorem dL_law_477 : decode cL_law 477 = .ok (.iconst 1, 1) := by decide +kernel
theorem dL_law_478 : decode cL_law 478 = .ok (.iadd, 1) := by decide +kernel
theorem dL_law_479 : decode cL_law 479 = .ok (.iaload, 1) := by decide +kernel
theorem dL_law_480 : decode cL_law 480 = .ok (.aload_n 0, 1) := by decide +kernel
theorem dL_law_481 : decode cL_law 481 = .ok (.iload_n 3, 1) := by decide +kernel
theorem dL_law_482 : decode cL_law 482 = .ok (.iconst 2, 1) := by decide +kernel
theorem dL_law_483 : decode cL_law 483 = .ok (.iadd, 1) := by decide +kernel
theorem dL_law_484 : decode cL_law 484 = .ok (.iaload, 1) := by decide +kernel
theorem dL_law_485 : decode cL_law 485 = .ok (.invokevirtual 88, 3) := by decide +kernel
theorem dL_law_488 : decode cL_law 488 = .ok (.aload_n 2, 1) := by decide +kernel
theorem dL_law_489 : decode cL_law 489 = .ok (.aload_n 0, 1) := by decide +kernel
theorem dL_law_490 : decode cL_law 490 = .ok (.iload_n 3, 1) := by decide +kernel
theorem dL_law_491 : decode cL_law 491 = .ok (.iconst 1, 1) := by decide +kernel
theorem dL_law_492 : decode cL_law 492 = .ok (.iadd, 1) := by decide +kernel
theorem dL_law_493 : decode cL_law 493 = .ok (.iaload, 1) := by decide +kernel
theorem dL_law_494 : decode cL_law 494 = .ok (.aload_n 0, 1) := by decide +kernel
theorem dL_law_495 : decode cL_law 495 = .ok (.iload_n 3, 1) := by decide +kernel
theorem dL_law_496 : decode cL_law 496 = .ok (.iconst 2, 1) := by decide +kernel
theorem dL_law_497 : decode cL_law 497 = .ok (.iadd, 1) := by decide +kernel
theorem dL_law_498 : decode cL_law 498 = .ok (.iaload, 1) := by decide +kernel
theorem dL_law_499 : decode cL_law 499 = .ok (.invokevirtual 91, 3) := by decide +kernel
theorem dL_law_502 : decode cL_law 502 = .ok (.if_icmp .eq 252, 3) := by decide +kernel
theorem dL_law_505 : decode cL_law 505 = .ok (.iconst 0, 1) := by decide +kernel
theorem dL_law_506 : decode cL_law 506 = .ok (.ireturn, 1) := by decide +kernel
theorem dL_law_507 : decode cL_law 507 = .ok (.aload_n 1, 1) := by decide +kernel
theorem dL_law_508 : decode cL_law 508 = .ok (.aload_n 0, 1) := by decide +kernel
theorem dL_law_509 : decode cL_law 509 = .ok (.iload_n 3, 1) := by decide +kernel
theorem dL_law_510 : decode cL_law 510 = .ok (.iconst 1, 1) := by decide +kernel
theorem dL_law_511 : decode cL_law 511 = .ok (.iadd, 1) := by decide +kernel
theorem dL_law_512 : decode cL_law 512 = .ok (.iaload, 1) := by decide +kernel
theorem dL_law_513 : decode cL_law 513 = .ok (.aload_n 0, 1) := by decide +kernel
theorem dL_law_514 : decode cL_law 514 = .ok (.iload_n 3, 1) := by decide +kernel
theorem dL_law_515 : decode cL_law 515 = .ok (.iconst 2, 1) := by decide +kernel
theorem dL_law_516 : decode cL_law 516 = .ok (.iadd, 1) := by decide +kernel
theorem dL_law_517 : decode cL_law 517 = .ok (.iaload, 1) := by decide +kernel
theorem dL_law_518 : decode cL_law 518 = .ok (.invokevirtual 92, 3) := by decide +kernel
theorem dL_law_521 : decode cL_law 521 = .ok (.aload_n 2, 1) := by decide +kernel
theorem dL_law_522 : decode cL_law 522 = .ok (.aload_n 0, 1) := by decide +kernel
theorem dL_law_523 : decode cL_law 523 = .ok (.iload_n 3, 1) := by decide +kernel
theorem dL_law_524 : decode cL_law 524 = .ok (.iconst 1, 1) := by decide +kernel
theorem dL_law_525 : decode cL_law 525 = .ok (.iadd, 1) := by decide +kernel
theorem dL_law_526 : decode cL_law 526 = .ok (.iaload, 1) := by decide +kernel
theorem dL_law_527 : decode cL_law 527 = .ok (.aload_n 0, 1) := by decide +kernel
theorem dL_law_528 : decode cL_law 528 = .ok (.iload_n 3, 1) := by decide +kernel
theorem dL_law_529 : decode cL_law 529 = .ok (.iconst 2, 1) := by decide +kernel
theorem dL_law_530 : decode cL_law 530 = .ok (.iadd, 1) := by decide +kernel
theorem dL_law_531 : decode cL_law 531 = .ok (.iaload, 1) := by decide +kernel
theorem dL_law_532 : decode cL_law 532 = .ok (.invokevirtual 95, 3) := by decide +kernel
theorem dL_law_535 : decode cL_law 535 = .ok (.if_icmp .eq 219, 3) := by decide +kernel
theorem dL_law_538 : decode cL_law 538 = .ok (.iconst 0, 1) := by decide +kernel
theorem dL_law_539 : decode cL_law 539 = .ok (.ireturn, 1) := by decide +kernel
theorem dL_law_540 : decode cL_law 540 = .ok (.aload_n 1, 1) := by decide +kernel
theorem dL_law_541 : decode cL_law 541 = .ok (.aload_n 0, 1) := by decide +kernel
theorem dL_law_542 : decode cL_law 542 = .ok (.iload_n 3, 1) := by decide +kernel
theorem dL_law_543 : decode cL_law 543 = .ok (.iconst 1, 1) := by decide +kernel
theorem dL_law_544 : decode cL_law 544 = .ok (.iadd, 1) := by decide +kernel
theorem dL_law_545 : decode cL_law 545 = .ok (.iaload, 1) := by decide +kernel
theorem dL_law_546 : decode cL_law 546 = .ok (.invokevirtual 96, 3) := by decide +kernel
theorem dL_law_549 : decode cL_law 549 = .ok (.aload_n 2, 1) := by decide +kernel
theorem dL_law_550 : decode cL_law 550 = .ok (.aload_n 0, 1) := by decide +kernel
theorem dL_law_551 : decode cL_law 551 = .ok (.iload_n 3, 1) := by decide +kernel
theorem dL_law_552 : decode cL_law 552 = .ok (.iconst 1, 1) := by decide +kernel
theorem dL_law_553 : decode cL_law 553 = .ok (.iadd, 1) := by decide +kernel
theorem dL_law_554 : decode cL_law 554 = .ok (.iaload, 1) := by decide +kernel
theorem dL_law_555 : decode cL_law 555 = .ok (.invokevirtual 99, 3) := by decide +kernel
theorem dL_law_558 : decode cL_law 558 = .ok (.if_icmp .eq 196, 3) := by decide +kernel
theorem dL_law_561 : decode cL_law 561 = .ok (.iconst 0, 1) := by decide +kernel
theorem dL_law_562 : decode cL_law 562 = .ok (.ireturn, 1) := by decide +kernel
theorem dL_law_563 : decode cL_law 563 = .ok (.aload_n 1, 1) := by decide +kernel
theorem dL_law_564 : decode cL_law 564 = .ok (.aload_n 0, 1) := by decide +kernel
theorem dL_law_565 : decode cL_law 565 = .ok (.iload_n 3, 1) := by decide +kernel
theorem dL_law_566 : decode cL_law 566 = .ok (.iconst 1, 1) := by decide +kernel
theorem dL_law_567 : decode cL_law 567 = .ok (.iadd, 1) := by decide +kernel
theorem dL_law_568 : decode cL_law 568 = .ok (.iaload, 1) := by decide +kernel
theorem dL_law_569 : decode cL_law 569 = .ok (.aload_n 0, 1) := by decide +kernel
theorem dL_law_570 : decode cL_law 570 = .ok (.iload_n 3, 1) := by decide +kernel
theorem dL_law_571 : decode cL_law 571 = .ok (.iconst 2, 1) := by decide +kernel
theorem dL_law_572 : decode cL_law 572 = .ok (.iadd, 1) := by decide +kernel
theorem dL_law_573 : decode cL_law 573 = .ok (.iaload, 1) := by decide +kernel
theorem dL_law_574 : decode cL_law 574 = .ok (.aload_n 0, 1) := by decide +kernel
theorem dL_law_575 : decode cL_law 575 = .ok (.iload_n 3, 1) := by decide +kernel
theorem dL_law_576 : decode cL_law 576 = .ok (.iconst 3, 1) := by decide +kernel
theorem dL_law_577 : decode cL_law 577 = .ok (.iadd, 1) := by decide +kernel
theorem dL_law_578 : decode cL_law 578 = .ok (.iaload, 1) := by decide +kernel
theorem dL_law_579 : decode cL_law 579 = .ok (.invokevirtual 100, 3) := by decide +kernel
theorem dL_law_582 : decode cL_law 582 = .ok (.aload_n 2, 1) := by decide +kernel
theorem dL_law_583 : decode cL_law 583 = .ok (.aload_n 0, 1) := by decide +kernel
theorem dL_law_584 : decode cL_law 584 = .ok (.iload_n 3, 1) := by decide +kernel
theorem dL_law_585 : decode cL_law 585 = .ok (.iconst 1, 1) := by decide +kernel
theorem dL_law_586 : decode cL_law 586 = .ok (.iadd, 1) := by decide +kernel
theorem dL_law_587 : decode cL_law 587 = .ok (.iaload, 1) := by decide +kernel
theorem dL_law_588 : decode cL_law 588 = .ok (.aload_n 0, 1) := by decide +kernel
theorem dL_law_589 : decode cL_law 589 = .ok (.iload_n 3, 1) := by decide +kernel
theorem dL_law_590 : decode cL_law 590 = .ok (.iconst 2, 1) := by decide +kernel
theorem dL_law_591 : decode cL_law 591 = .ok (.iadd, 1) := by decide +kernel
theorem dL_law_592 : decode cL_law 592 = .ok (.iaload, 1) := by decide +kernel
theorem dL_law_593 : decode cL_law 593 = .ok (.aload_n 0, 1) := by decide +kernel
theorem dL_law_594 : decode cL_law 594 = .ok (.iload_n 3, 1) := by decide +kernel
theorem dL_law_595 : decode cL_law 595 = .ok (.iconst 3, 1) := by decide +kernel
theorem dL_law_596 : decode cL_law 596 = .ok (.iadd, 1) := by decide +kernel
theorem dL_law_597 : decode cL_law 597 = .ok (.iaload, 1) := by decide +kernel
theorem dL_law_598 : decode cL_law 598 = .ok (.invokevirtual 104, 3) := by decide +kernel
theorem dL_law_601 : decode cL_law 601 = .ok (.if_icmp .eq 153, 3) := by decide +kernel
theorem dL_law_604 : decode cL_law 604 = .ok (.iconst 0, 1) := by decide +kernel
theorem dL_law_605 : decode cL_law 605 = .ok (.ireturn, 1) := by decide +kernel
theorem dL_law_606 : decode cL_law 606 = .ok (.aload_n 1, 1) := by decide +kernel
theorem dL_law_607 : decode cL_law 607 = .ok (.invokevirtual 105, 3) := by decide +kernel
theorem dL_law_610 : decode cL_law 610 = .ok (.aload_n 2, 1) := by decide +kernel
theorem dL_law_611 : decode cL_law 611 = .ok (.invokevirtual 108, 3) := by decide +kernel
theorem dL_law_614 : decode cL_law 614 = .ok (.if_icmp .eq 140, 3) := by decide +kernel
theorem dL_law_617 : decode cL_law 617 = .ok (.iconst 0, 1) := by decide +kernel
theorem dL_law_618 : decode cL_law 618 = .ok (.ireturn, 1) := by decide +kernel
theorem dL_law_619 : decode cL_law 619 = .ok (.aload_n 1, 1) := by decide +kernel
theorem dL_law_620 : decode cL_law 620 = .ok (.aload_n 0, 1) := by decide +kernel
theorem dL_law_621 : decode cL_law 621 = .ok (.iload_n 3, 1) := by decide +kernel
theorem dL_law_622 : decode cL_law 622 = .ok (.iconst 1, 1) := by decide +kernel
theorem dL_law_623 : decode cL_law 623 = .ok (.iadd, 1) := by decide +kernel
theorem dL_law_624 : decode cL_law 624 = .ok (.iaload, 1) := by decide +kernel
theorem dL_law_625 : decode cL_law 625 = .ok (.invokevirtual 109, 3) := by decide +kernel
theorem dL_law_628 : decode cL_law 628 = .ok (.aload_n 2, 1) := by decide +kernel
theorem dL_law_629 : decode cL_law 629 = .ok (.aload_n 0, 1) := by decide +kernel
theorem dL_law_630 : decode cL_law 630 = .ok (.iload_n 3, 1) := by decide +kernel
theorem dL_law_631 : decode cL_law 631 = .ok (.iconst 1, 1) := by decide +kernel
theorem dL_law_632 : decode cL_law 632 = .ok (.iadd, 1) := by decide +kernel
theorem dL_law_633 : decode cL_law 633 = .ok (.iaload, 1) := by decide +kernel
theorem dL_law_634 : decode cL_law 634 = .ok (.invokevirtual 112, 3) := by decide +kernel
theorem dL_law_637 : decode cL_law 637 = .ok (.if_icmp .eq 117, 3) := by decide +kernel
theorem dL_law_640 : decode cL_law 640 = .ok (.iconst 0, 1) := by decide +kernel
theorem dL_law_641 : decode cL_law 641 = .ok (.ireturn, 1) := by decide +kernel
theorem dL_law_642 : decode cL_law 642 = .ok (.aload_n 1, 1) := by decide +kernel
theorem dL_law_643 : decode cL_law 643 = .ok (.aload_n 0, 1) := by decide +kernel
theorem dL_law_644 : decode cL_law 644 = .ok (.iload_n 3, 1) := by decide +kernel
theorem dL_law_645 : decode cL_law 645 = .ok (.iconst 1, 1) := by decide +kernel
theorem dL_law_646 : decode cL_law 646 = .ok (.iadd, 1) := by decide +kernel
theorem dL_law_647 : decode cL_law 647 = .ok (.iaload, 1) := by decide +kernel
theorem dL_law_648 : decode cL_law 648 = .ok (.aload_n 0, 1) := by decide +kernel
theorem dL_law_649 : decode cL_law 649 = .ok (.iload_n 3, 1) := by decide +kernel
theorem dL_law_650 : decode cL_law 650 = .ok (.iconst 2, 1) := by decide +kernel
theorem dL_law_651 : decode cL_law 651 = .ok (.iadd, 1) := by decide +kernel
theorem dL_law_652 : decode cL_law 652 = .ok (.iaload, 1) := by decide +kernel
theorem dL_law_653 : decode cL_law 653 = .ok (.invokevirtual 113, 3) := by decide +kernel
theorem dL_law_656 : decode cL_law 656 = .ok (.aload_n 2, 1) := by decide +kernel
theorem dL_law_657 : decode cL_law 657 = .ok (.aload_n 0, 1) := by decide +kernel
theorem dL_law_658 : decode cL_law 658 = .ok (.iload_n 3, 1) := by decide +kernel
theorem dL_law_659 : decode cL_law 659 = .ok (.iconst 1, 1) := by decide +kernel
theorem dL_law_660 : decode cL_law 660 = .ok (.iadd, 1) := by decide +kernel
theorem dL_law_661 : decode cL_law 661 = .ok (.iaload, 1) := by decide +kernel
theorem dL_law_662 : decode cL_law 662 = .ok (.aload_n 0, 1) := by decide +kernel
theorem dL_law_663 : decode cL_law 663 = .ok (.iload_n 3, 1) := by decide +kernel
theorem dL_law_664 : decode cL_law 664 = .ok (.iconst 2, 1) := by decide +kernel
theorem dL_law_665 : decode cL_law 665 = .ok (.iadd, 1) := by decide +kernel
theorem dL_law_666 : decode cL_law 666 = .ok (.iaload, 1) := by decide +kernel
theorem dL_law_667 : decode cL_law 667 = .ok (.invokevirtual 116, 3) := by decide +kernel
theorem dL_law_670 : decode cL_law 670 = .ok (.if_icmp .eq 84, 3) := by decide +kernel
theorem dL_law_673 : decode cL_law 673 = .ok (.iconst 0, 1) := by decide +kernel
theorem dL_law_674 : decode cL_law 674 = .ok (.ireturn, 1) := by decide +kernel
theorem dL_law_675 : decode cL_law 675 = .ok (.aload_n 1, 1) := by decide +kernel
theorem dL_law_676 : decode cL_law 676 = .ok (.aload_n 0, 1) := by decide +kernel
theorem dL_law_677 : decode cL_law 677 = .ok (.iload_n 3, 1) := by decide +kernel
theorem dL_law_678 : decode cL_law 678 = .ok (.iconst 1, 1) := by decide +kernel
theorem dL_law_679 : decode cL_law 679 = .ok (.iadd, 1) := by decide +kernel
theorem dL_law_680 : decode cL_law 680 = .ok (.iaload, 1) := by decide +kernel
theorem dL_law_681 : decode cL_law 681 = .ok (.invokevirtual 117, 3) := by decide +kernel
theorem dL_law_684 : decode cL_law 684 = .ok (.aload_n 2, 1) := by decide +kernel
theorem dL_law_685 : decode cL_law 685 = .ok (.aload_n 0, 1) := by decide +kernel
theorem dL_law_686 : decode cL_law 686 = .ok (.iload_n 3, 1) := by decide +kernel
theorem dL_law_687 : decode cL_law 687 = .ok (.iconst 1, 1) := by decide +kernel
theorem dL_law_688 : decode cL_law 688 = .ok (.iadd, 1) := by decide +kernel
theorem dL_law_689 : decode cL_law 689 = .ok (.iaload, 1) := by decide +kernel
theorem dL_law_690 : decode cL_law 690 = .ok (.invokevirtual 120, 3) := by decide +kernel
theorem dL_law_693 : decode cL_law 693 = .ok (.if_icmp .eq 61, 3) := by decide +kernel
theorem dL_law_696 : decode cL_law 696 = .ok (.iconst 0, 1) := by decide +kernel
theorem dL_law_697 : decode cL_law 697 = .ok (.ireturn, 1) := by decide +kernel
theorem dL_law_698 : decode cL_law 698 = .ok (.aload_n 1, 1) := by decide +kernel
theorem dL_law_699 : decode cL_law 699 = .ok (.aload_n 0, 1) := by decide +kernel
theorem dL_law_700 : decode cL_law 700 = .ok (.iload_n 3, 1) := by decide +kernel
theorem dL_law_701 : decode cL_law 701 = .ok (.iconst 1, 1) := by decide +kernel
theorem dL_law_702 : decode cL_law 702 = .ok (.iadd, 1) := by decide +kernel
theorem dL_law_703 : decode cL_law 703 = .ok (.iaload, 1) := by decide +kernel
theorem dL_law_704 : decode cL_law 704 = .ok (.invokevirtual 121, 3) := by decide +kernel
theorem dL_law_707 : decode cL_law 707 = .ok (.aload_n 2, 1) := by decide +kernel
theorem dL_law_708 : decode cL_law 708 = .ok (.aload_n 0, 1) := by decide +kernel
theorem dL_law_709 : decode cL_law 709 = .ok (.iload_n 3, 1) := by decide +kernel
theorem dL_law_710 : decode cL_law 710 = .ok (.iconst 1, 1) := by decide +kernel
theorem dL_law_711 : decode cL_law 711 = .ok (.iadd, 1) := by decide +kernel
theorem dL_law_712 : decode cL_law 712 = .ok (.iaload, 1) := by decide +kernel
theorem dL_law_713 : decode cL_law 713 = .ok (.invokevirtual 124, 3) := by decide +kernel
theorem dL_law_716 : decode cL_law 716 = .ok (.if_icmp .eq 38, 3) := by decide +kernel
theorem dL_law_719 : decode cL_law 719 = .ok (.iconst 0, 1) := by decide +kernel
theorem dL_law_720 : decode cL_law 720 = .ok (.ireturn, 1) := by decide +kernel
theorem dL_law_721 : decode cL_law 721 = .ok (.aload_n 1, 1) := by decide +kernel
theorem dL_law_722 : decode cL_law 722 = .ok (.aload_n 0, 1) := by decide +kernel
theorem dL_law_723 : decode cL_law 723 = .ok (.iload_n 3, 1) := by decide +kernel
theorem dL_law_724 : decode cL_law 724 = .ok (.iconst 1, 1) := by decide +kernel
theorem dL_law_725 : decode cL_law 725 = .ok (.iadd, 1) := by decide +kernel
theorem dL_law_726 : decode cL_law 726 = .ok (.iaload, 1) := by decide +kernel
theorem dL_law_727 : decode cL_law 727 = .ok (.aload_n 0, 1) := by decide +kernel
theorem dL_law_728 : decode cL_law 728 = .ok (.iload_n 3, 1) := by decide +kernel
theorem dL_law_729 : decode cL_law 729 = .ok (.iconst 2, 1) := by decide +kernel
theorem dL_law_730 : decode cL_law 730 = .ok (.iadd, 1) := by decide +kernel
theorem dL_law_731 : decode cL_law 731 = .ok (.iaload, 1) := by decide +kernel
theorem dL_law_732 : decode cL_law 732 = .ok (.invokevirtual 125, 3) := by decide +kernel
theorem dL_law_735 : decode cL_law 735 = .ok (.aload_n 2, 1) := by decide +kernel
theorem dL_law_736 : decode cL_law 736 = .ok (.aload_n 0, 1) := by decide +kernel
theorem dL_law_737 : decode cL_law 737 = .ok (.iload_n 3, 1) := by decide +kernel
theorem dL_law_738 : decode cL_law 738 = .ok (.iconst 1, 1) := by decide +kernel
theorem dL_law_739 : decode cL_law 739 = .ok (.iadd, 1) := by decide +kernel
theorem dL_law_740 : decode cL_law 740 = .ok (.iaload, 1) := by decide +kernel
theorem dL_law_741 : decode cL_law 741 = .ok (.aload_n 0, 1) := by decide +kernel
theorem dL_law_742 : decode cL_law 742 = .ok (.iload_n 3, 1) := by decide +kernel
theorem dL_law_743 : decode cL_law 743 = .ok (.iconst 2, 1) := by decide +kernel
theorem dL_law_744 : decode cL_law 744 = .ok (.iadd, 1) := by decide +kernel
theorem dL_law_745 : decode cL_law 745 = .ok (.iaload, 1) := by decide +kernel
theorem dL_law_746 : decode cL_law 746 = .ok (.invokevirtual 128, 3) := by decide +kernel
theorem dL_law_749 : decode cL_law 749 = .ok (.if_icmp .eq 5, 3) := by decide +kernel
theorem dL_law_752 : decode cL_law 752 = .ok (.iconst 0, 1) := by decide +kernel
theorem dL_law_753 : decode cL_law 753 = .ok (.ireturn, 1) := by decide +kernel
theorem dL_law_754 : decode cL_law 754 = .ok (.iinc 3 4, 3) := by decide +kernel
theorem dL_law_757 : decode cL_law 757 = .ok (.goto (-739), 3) := by decide +kernel
theorem dL_law_760 : decode cL_law 760 = .ok (.iconst 1, 1) := by decide +kernel
theorem dL_law_761 : decode cL_law 761 = .ok (.ireturn, 1) := by decide +kernel
