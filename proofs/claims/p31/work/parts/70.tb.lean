theorem mem_r {big : List Cond} (ws : List Cond) (ps : List Nat) (hp : ws = ps.filterMap (fun i => big[i]?)) : ∀ w ∈ ws, w ∈ big := by
  intro w hw
  rw [hp] at hw
  obtain ⟨i, -, hi⟩ := List.mem_filterMap.mp hw
  exact List.mem_of_getElem? hi
theorem mem_a {a b big : List Cond} (ha : ∀ w ∈ a, w ∈ big) (hb : ∀ w ∈ b, w ∈ big) : ∀ w ∈ a ++ b, w ∈ big := fun w h => (List.mem_append.mp h).elim (ha w) (hb w)
set_option maxRecDepth 20000 in
theorem in_wsL_law_r1 : ∀ w ∈ wsL_law_r1, w ∈ T2 := mem_r _ [47, 48, 21, 118, 1057, 49, 50, 51, 52, 53, 54, 55, 56, 23, 293, 87, 88, 26, 294, 123, 124, 28, 295, 270] (by decide +kernel)
set_option maxRecDepth 20000 in
theorem in_wsL_law_r2 : ∀ w ∈ wsL_law_r2, w ∈ T2 := mem_r _ [271, 35, 296, 289, 136, 30, 297, 298, 291, 205, 34, 299, 300, 57, 58, 59, 60, 61, 22, 62, 63, 64, 86, 73] (by decide +kernel)
set_option maxRecDepth 20000 in
theorem in_wsL_law_r3 : ∀ w ∈ wsL_law_r3, w ∈ T2 := mem_r _ [74, 66, 67, 25, 68, 69, 70, 71, 72, 90, 91, 92, 93, 94, 27, 119, 96, 97, 98, 99, 100, 101, 125, 126] (by decide +kernel)
set_option maxRecDepth 20000 in
theorem in_wsL_law_r4 : ∀ w ∈ wsL_law_r4, w ∈ T2 := mem_r _ [127, 128, 129, 130, 29, 219, 221, 200, 223, 202, 225, 227, 230, 232, 242, 228, 132, 133, 134, 135, 183, 157, 158, 33] (by decide +kernel)
set_option maxRecDepth 20000 in
theorem in_wsL_law_r5 : ∀ w ∈ wsL_law_r5, w ∈ T2 := mem_r _ [187, 189, 138, 139, 140, 159, 160, 161, 169, 171, 162, 163, 32, 164, 173, 165, 166, 31, 167, 168, 207, 208, 209, 210] (by decide +kernel)
set_option maxRecDepth 20000 in
theorem in_wsL_law_r6 : ∀ w ∈ wsL_law_r6, w ∈ T2 := mem_r _ [272, 273, 274, 275, 276, 279, 278, 861, 862, 863, 864, 865, 866, 867, 868, 281, 869, 870, 871, 872, 280, 690, 691, 692] (by decide +kernel)
set_option maxRecDepth 20000 in
theorem in_wsL_law_r7 : ∀ w ∈ wsL_law_r7, w ∈ T2 := mem_r _ [693, 234, 236, 238, 240, 694, 695, 696, 697, 698, 699, 700, 701, 211, 702, 703, 704, 705, 706, 707, 708, 709, 710, 711] (by decide +kernel)
set_option maxRecDepth 20000 in
theorem in_wsL_law_r8 : ∀ w ∈ wsL_law_r8, w ∈ T2 := mem_r _ [712, 713, 141, 144, 147, 853, 854, 855, 856, 857, 858, 859, 860, 825, 826, 827, 828, 686, 687, 688, 689, 714, 715, 716] (by decide +kernel)
theorem in_typed : Cond.code yL_typed cL_typed 10 (some .int) ∈ T2 := List.mem_append_left _ (List.mem_append_right _ (List.mem_append_right _ (List.mem_append_right _ (List.mem_append_right _ (List.mem_append_left _ (List.mem_of_getElem? (l := tables_1_4) (i := 193) rfl))))))
set_option maxRecDepth 20000 in
theorem in_wsL_law_r9 : ∀ w ∈ wsL_law_r9, w ∈ T2 := mem_a (a := [Cond.code yX3_restart cX3_restart 1 none, Cond.methodLink RL 97 yX11_poolSize, Cond.instanceMethod yX11_poolSize, Cond.selects RX11 yX11_poolSize yX11_poolSize, Cond.code yX11_poolSize cX11_poolSize 1 (some .int), Cond.methodLink RL 140 yX11_setMaximumLength, Cond.instanceMethod yX11_setMaximumLength, Cond.selects RX11 yX11_setMaximumLength yX11_setMaximumLength, Cond.code yX11_setMaximumLength cX11_setMaximumLength 3 (some .int), Cond.methodLink RL 157 yL_typed, Cond.static yL_typed, Cond.initialized RL]) (b := Cond.code yL_typed cL_typed 10 (some .int) :: [Cond.constantLong RL 39 (452823970848), Cond.constantLong RL 44 (7597139782324019566), Cond.constantLong RL 46 (29728), Cond.constantLong RL 52 (30792323104203808), Cond.constantLong RL 54 (8243119442065777952), Cond.constantLong RL 56 (6582048), Cond.constantLong RL 58 (2334393424032195872), Cond.methodLink RL 35 yL_cell, Cond.static yL_cell, Cond.code yL_cell cL_cell 2 (some .int), Cond.methodLink RL 31 yL_low]) (mem_r _ [717, 881, 882, 883, 884, 809, 810, 811, 812, 931, 932, 20] (by decide +kernel)) (List.forall_mem_cons.mpr ⟨in_typed, mem_r _ [938, 945, 946, 954, 955, 956, 957, 885, 886, 887, 934] (by decide +kernel)⟩)
set_option maxRecDepth 20000 in
theorem in_wsL_law_r10 : ∀ w ∈ wsL_law_r10, w ∈ T2 := mem_r _ [935, 936, 937, 888, 889, 890, 891, 892, 893, 894, 895, 322, 323, 324, 325, 326, 1058, 85, 327, 328, 76, 896, 897, 898] (by decide +kernel)
set_option maxRecDepth 20000 in
theorem in_wsL_law_r11 : ∀ w ∈ wsL_law_r11, w ∈ T2 := mem_r _ [899, 900, 1063, 901, 902, 336, 1060, 1091, 338, 339, 340, 1061, 1092, 342, 343, 354, 344, 345, 36, 346, 347, 348, 37, 349] (by decide +kernel)
set_option maxRecDepth 20000 in
theorem in_wsL_law_r12 : ∀ w ∈ wsL_law_r12, w ∈ T2 := mem_r _ [350, 351, 352, 353, 355, 356, 38, 357, 358, 359, 360, 361, 362, 364, 365, 366, 367, 368, 370, 369, 39, 371, 373, 374] (by decide +kernel)
set_option maxRecDepth 20000 in
theorem in_wsL_law_r13 : ∀ w ∈ wsL_law_r13, w ∈ T2 := mem_r _ [372, 375, 903, 904, 40, 905, 906, 1064, 1093, 908, 909, 910, 911, 912, 913, 914, 915, 916, 917, 918, 426, 427, 428, 919] (by decide +kernel)
set_option maxRecDepth 20000 in
theorem in_wsL_law_r14 : ∀ w ∈ wsL_law_r14, w ∈ T2 := mem_r _ [920, 24, 921, 416, 922, 923, 41, 924, 925, 926, 927, 424, 429, 431, 928, 929, 930, 473, 474, 475, 476, 414, 415, 418] (by decide +kernel)
set_option maxRecDepth 20000 in
theorem in_wsL_law_r15 : ∀ w ∈ wsL_law_r15, w ∈ T2 := mem_r _ [419, 420, 939, 940, 941, 942, 943, 944, 947, 948, 949, 950, 951, 952, 953, 389, 390, 391, 392, 393, 394, 395, 396, 487] (by decide +kernel)
set_option maxRecDepth 20000 in
theorem in_wsL_law_r16 : ∀ w ∈ wsL_law_r16, w ∈ T2 := mem_r _ [397, 398, 399, 400, 102, 104, 103, 401, 402, 403, 404, 405, 406, 407, 408, 409, 1062, 410, 411, 412, 413, 421, 422, 423] (by decide +kernel)
set_option maxRecDepth 20000 in
theorem in_wsL_law_r17 : ∀ w ∈ wsL_law_r17, w ∈ T2 := mem_r _ [433, 434, 435, 436, 437, 438, 439, 440, 441, 442, 443, 444, 446, 447, 448, 449, 450, 451, 452, 1089, 453, 454, 455, 456] (by decide +kernel)
set_option maxRecDepth 20000 in
theorem in_wsL_law_r18 : ∀ w ∈ wsL_law_r18, w ∈ T2 := mem_r _ [457, 1090, 458, 459, 460, 461, 462, 463, 464, 465, 466, 467, 468, 469, 470, 471, 472, 477, 484, 485, 486, 489, 490, 491] (by decide +kernel)
set_option maxRecDepth 20000 in
theorem in_wsL_law_r19 : ∀ w ∈ wsL_law_r19, w ∈ T2 := mem_r _ [492, 493, 494, 495, 496, 497, 499, 0, 500, 501, 502, 503, 504, 505, 506, 507, 508, 509, 510, 511, 512, 513, 514, 515] (by decide +kernel)
set_option maxRecDepth 20000 in
theorem in_wsL_law_r20 : ∀ w ∈ wsL_law_r20, w ∈ T2 := mem_r _ [516, 517, 172, 518, 520, 1, 521, 543, 544, 43, 522, 524, 2, 525, 526, 527, 42, 528, 529, 530, 531, 532, 533, 539] (by decide +kernel)
set_option maxRecDepth 20000 in
theorem in_wsL_law_r21 : ∀ w ∈ wsL_law_r21, w ∈ T2 := mem_r _ [541, 3, 542, 545, 546, 547, 548, 549, 550, 551, 559, 560, 561, 562, 174, 175, 563, 565, 4, 566, 567, 569, 5, 570] (by decide +kernel)
set_option maxRecDepth 20000 in
theorem in_wsL_law_r22 : ∀ w ∈ wsL_law_r22, w ∈ T2 := mem_r _ [571, 573, 6, 574, 603, 604, 575, 576, 577, 578, 579, 1081, 580, 596, 597, 598, 599, 600, 602, 605, 607, 7, 608, 609] (by decide +kernel)
set_option maxRecDepth 20000 in
theorem in_wsL_law_r23 : ∀ w ∈ wsL_law_r23, w ∈ T2 := mem_r _ [610, 44, 612, 613, 614, 615, 617, 620, 623, 616, 633, 635, 8, 636, 637, 639, 9, 640, 641, 643, 10, 644, 649, 650] (by decide +kernel)
set_option maxRecDepth 20000 in
theorem in_wsL_law_r24 : ∀ w ∈ wsL_law_r24, w ∈ T2 := mem_r _ [45, 645, 647, 11, 648, 651, 652, 653, 654, 655, 657, 658, 660, 670, 671, 672, 673, 674, 675, 676, 677, 678, 679, 680] (by decide +kernel)
set_option maxRecDepth 20000 in
theorem in_wsL_law_r25 : ∀ w ∈ wsL_law_r25, w ∈ T2 := mem_r _ [681, 329, 330, 331, 332, 333, 1059, 334, 335, 75, 376, 377, 378, 379, 380, 381, 382, 383, 384, 385, 386, 387, 388, 682] (by decide +kernel)
set_option maxRecDepth 20000 in
theorem in_wsL_law_r26 : ∀ w ∈ wsL_law_r26, w ∈ T2 := mem_r _ [684, 12, 685, 718, 1054, 1055, 1056, 873, 874, 875, 876, 877, 878, 879, 880, 821, 823, 14, 824, 829, 1007, 1008, 1009, 1010] (by decide +kernel)
set_option maxRecDepth 20000 in
theorem in_wsL_law_r27 : ∀ w ∈ wsL_law_r27, w ∈ T2 := mem_r _ [967, 968, 969, 970, 972, 973, 974, 975, 977, 978, 979, 980, 958, 959, 960, 965, 966, 971, 976, 981, 982, 988, 1002, 1011] (by decide +kernel)
set_option maxRecDepth 20000 in
theorem in_wsL_law_r28 : ∀ w ∈ wsL_law_r28, w ∈ T2 := mem_r _ [1020, 961, 962, 963, 964, 764, 765, 766, 767, 769, 759, 760, 761, 762, 738, 768, 740, 741, 742, 743, 744, 46, 745, 746] (by decide +kernel)
set_option maxRecDepth 20000 in
theorem in_wsL_law_r29 : ∀ w ∈ wsL_law_r29, w ∈ T2 := mem_r _ [747, 748, 749, 750, 770, 771, 772, 773, 776, 774, 775, 983, 984, 985, 986, 987, 989, 990, 991, 992, 993, 994, 995, 996] (by decide +kernel)
set_option maxRecDepth 20000 in
theorem in_wsL_law_r30 : ∀ w ∈ wsL_law_r30, w ∈ T2 := mem_r _ [997, 998, 999, 1000, 1001, 753, 791, 739, 792, 793, 794, 751, 795, 796, 797, 798, 799, 800, 801, 802, 1003, 1004, 1005, 1006] (by decide +kernel)
set_option maxRecDepth 20000 in
theorem in_wsL_law_r31 : ∀ w ∈ wsL_law_r31, w ∈ T2 := mem_r _ [723, 724, 725, 726, 1012, 1013, 1014, 1015, 1016, 1017, 1018, 1019, 1021, 1022, 1023, 1024, 1025, 1026, 1027, 1028, 1029, 1031, 17, 1032] (by decide +kernel)
set_option maxRecDepth 20000 in
theorem in_wsL_law_r32 : ∀ w ∈ wsL_law_r32, w ∈ T2 := mem_r _ [1033, 1034, 1036, 18, 1037, 1038, 1039, 1041, 19, 1042, 786, 787, 788, 789, 790, 803, 737, 804, 805, 806, 807, 808, 754, 1043] (by decide +kernel)
set_option maxRecDepth 20000 in
theorem in_wsL_law_r33 : ∀ w ∈ wsL_law_r33, w ∈ T2 := mem_r _ [1044, 1045, 719, 720, 721, 722, 727, 728, 729, 730, 731, 732, 733, 734, 735, 736, 752, 755, 756, 757, 758, 763, 813, 814] (by decide +kernel)
set_option maxRecDepth 20000 in
theorem in_wsL_law_r34 : ∀ w ∈ wsL_law_r34, w ∈ T2 := mem_r _ [815, 816, 817, 818, 819, 820, 830, 831, 832, 833, 834, 835, 836, 838, 15, 839, 840, 841, 842, 843, 844, 845, 846, 847] (by decide +kernel)
set_option maxRecDepth 20000 in
theorem in_wsL_law_r35 : ∀ w ∈ wsL_law_r35, w ∈ T2 := mem_r _ [848, 849, 851, 16, 852, 1046, 1047, 1048, 1049, 1050, 1051, 1052, 1053, 318, 319, 320, 321, 777, 778, 779, 780, 781, 782, 784] (by decide +kernel)
set_option maxRecDepth 20000 in
theorem in_wsL_law_r36 : ∀ w ∈ wsL_law_r36, w ∈ T2 := mem_r _ [13, 785] (by decide +kernel)
set_option maxRecDepth 20000 in
theorem inX11 : ∀ w ∈ wsX110, w ∈ T2 := mem_r _ [301, 303, 305, 307, 309, 311, 313, 315] (by decide +kernel)
set_option maxRecDepth 20000 in
theorem inJ4 : ∀ w ∈ wsJ40, w ∈ T2 := mem_r _ [77, 79, 81, 83] (by decide +kernel)
set_option maxRecDepth 20000 in
theorem inX8 : ∀ w ∈ wsX80, w ∈ T2 := mem_r _ [120] (by decide +kernel)
set_option maxRecDepth 20000 in
theorem inX3 : ∀ w ∈ wsX30, w ∈ T2 := mem_r _ [243, 245, 247, 249, 251, 253, 255, 257, 259, 261, 263, 265, 267] (by decide +kernel)
set_option maxRecDepth 20000 in
theorem inX4 : ∀ w ∈ wsX40, w ∈ T2 := mem_r _ [282, 284, 286] (by decide +kernel)
set_option maxRecDepth 20000 in
theorem inX10 : ∀ w ∈ wsX100, w ∈ T2 := mem_r _ [150, 152, 154] (by decide +kernel)
set_option maxRecDepth 20000 in
theorem inX9 : ∀ w ∈ wsX90, w ∈ T2 := mem_r _ [214, 216] (by decide +kernel)
set_option maxRecDepth 20000 in
theorem inX5 : ∀ w ∈ wsX50, w ∈ T2 := mem_r _ [105, 107, 109, 111, 113, 115] (by decide +kernel)
set_option maxRecDepth 20000 in
theorem inX1 : ∀ w ∈ wsX10, w ∈ T2 := mem_r _ [193, 195, 197] (by decide +kernel)
set_option maxRecDepth 20000 in
theorem inJx4a65c : ∀ w ∈ wsJx4a65c0, w ∈ T2 := mem_r _ [180, 176, 178] (by decide +kernel)
set_option maxRecDepth 20000 in
theorem inX2 : ∀ w ∈ wsX20, w ∈ T2 := mem_r _ [552, 554, 556] (by decide +kernel)
set_option maxRecDepth 20000 in
theorem inX7 : ∀ w ∈ wsX70, w ∈ T2 := mem_r _ [534, 536] (by decide +kernel)
set_option maxRecDepth 20000 in
theorem inX6 : ∀ w ∈ wsX60, w ∈ T2 := mem_r _ [626, 628, 630] (by decide +kernel)
set_option maxRecDepth 20000 in
theorem inX0 : ∀ w ∈ wsX00, w ∈ T2 := mem_r _ [661, 663, 665, 667] (by decide +kernel)
theorem wsL_law_in : ∀ w ∈ wsL_law, w ∈ T2 := mem_a (mem_a (mem_a (mem_a (mem_a (mem_a (mem_a (mem_a (mem_a (mem_a (mem_a (mem_a (mem_a (mem_a (mem_a (mem_a in_wsL_law_r1 (mem_a in_wsL_law_r2 (mem_a in_wsL_law_r3 (mem_a in_wsL_law_r4 (mem_a in_wsL_law_r5 (mem_a in_wsL_law_r6 (mem_a in_wsL_law_r7 (mem_a in_wsL_law_r8 (mem_a in_wsL_law_r9 (mem_a in_wsL_law_r10 (mem_a in_wsL_law_r11 (mem_a in_wsL_law_r12 (mem_a in_wsL_law_r13 (mem_a in_wsL_law_r14 (mem_a in_wsL_law_r15 (mem_a in_wsL_law_r16 (mem_a in_wsL_law_r17 (mem_a in_wsL_law_r18 (mem_a in_wsL_law_r19 (mem_a in_wsL_law_r20 (mem_a in_wsL_law_r21 (mem_a in_wsL_law_r22 (mem_a in_wsL_law_r23 (mem_a in_wsL_law_r24 (mem_a in_wsL_law_r25 (mem_a in_wsL_law_r26 (mem_a in_wsL_law_r27 (mem_a in_wsL_law_r28 (mem_a in_wsL_law_r29 (mem_a in_wsL_law_r30 (mem_a in_wsL_law_r31 (mem_a in_wsL_law_r32 (mem_a in_wsL_law_r33 (mem_a in_wsL_law_r34 (mem_a in_wsL_law_r35 (in_wsL_law_r36)))))))))))))))))))))))))))))))))))) inX11) inJ4) inX8) inX3) inX4) inX10) inX9) inX5) inX1) inJx4a65c) inX2) inX7) inX6) inX0) (fun w h => absurd h List.not_mem_nil)
