set_option maxRecDepth 20000 in
theorem ggL_law_L_typed : GoodIn wsL_law wsL_typed := by
  intro w hw
  have hw : w ∈ Cond.code yL_typed cL_typed 10 (some .int) :: ((wsL_typed_r1 ++ (wsL_typed_r2 ++ (wsL_typed_r3 ++ (wsL_typed_r4 ++ (wsL_typed_r5 ++ (wsL_typed_r6 ++ wsL_typed_r7)))))) ++ wsX110 ++ wsJ40) := hw
  rcases List.mem_cons.mp hw with e | hw
  · subst e
    exact ⟨List.mem_of_getElem? (l := wsL_law) (i := 204) rfl, Or.inl rfl⟩
  · exact goodIn_r _ [205, 206, 207, 208, 209, 210, 211, 212, 213, 203, 214, 215, 216, 217, 218, 219, 220, 221, 222, 223, 224, 225, 2, 226, 14, 227, 228, 229, 13, 230, 231, 232, 233, 234, 42, 235, 236, 237, 238, 239, 240, 241, 242, 243, 244, 47, 245, 246, 247, 248, 249, 48, 250, 251, 252, 253, 254, 255, 256, 257, 258, 259, 260, 261, 262, 263, 264, 265, 266, 267, 268, 269, 270, 271, 272, 273, 274, 275, 276, 277, 46, 278, 279, 280, 281, 282, 283, 284, 285, 286, 287, 288, 289, 45, 290, 291, 292, 293, 294, 295, 296, 297, 298, 49, 50, 51, 52, 53, 54, 55, 56, 299, 300, 301, 302, 303, 304, 305, 306, 307, 308, 309, 310, 311, 312, 313, 314, 315, 316, 317, 318, 319, 320, 321, 322, 323, 324, 325, 326, 327, 328, 329, 330, 331, 332, 333, 334, 335, 336, 337, 338, 339, 340, 341, 342, 343, 344, 345, 346, 347, 348, 349, 350, 842, 843, 844, 845, 846, 847, 848, 849, 850, 851, 852, 853] (by decide +kernel) (by decide +kernel) w hw
set_option maxRecDepth 20000 in
theorem gL_law_L_typed : GoodIn wsL_law (va_wsS RL 157 yL_typed wsL_typed) := goodIn_app (goodIn_of _ (by decide +kernel)) ggL_law_L_typed
set_option maxRecDepth 20000 in
theorem ggL_law_X11_removeMethod : GoodIn wsL_law wsX11_removeMethod := goodIn_r _ [788, 22, 658, 659, 660, 76, 661, 97, 662, 455, 456, 95, 457, 458, 789, 779, 780, 781, 782, 75, 92, 96, 707, 701, 783, 88, 89, 90, 9, 10, 91, 28, 29, 93, 94, 98, 99, 100, 101, 102, 103, 104, 105, 106, 107, 108, 109, 110, 111, 112, 113, 114, 115, 760, 167, 168, 169, 170, 171, 172, 703, 664, 665, 666, 667, 668, 669, 670, 671, 336, 318, 337, 672, 673, 674, 675, 784, 491, 492, 493, 494, 495, 496, 497, 498, 499, 500, 501, 502, 503, 504, 505, 506, 507, 508, 261, 262, 263, 509, 510, 257, 258, 259, 260, 264, 265, 266, 267, 511, 512, 270, 513, 514, 515, 516, 517, 518, 519, 520, 521, 522, 278, 279, 280, 281, 282, 283, 284, 599, 600, 601, 2, 602, 26, 185, 186, 187, 25, 188, 140, 125, 135, 141, 142, 143, 21, 144, 77, 78, 80, 82, 83, 87, 84, 85, 145, 146, 147, 148, 149, 150, 151, 34, 152, 153, 154, 155, 156, 157, 158, 159, 160, 161, 119, 162, 163, 164, 165, 166, 189, 190, 191, 192, 603, 842, 843, 844, 845, 846, 847, 848, 849, 855, 856, 857, 858, 859, 860, 861, 862, 863, 864, 865, 866, 867, 882, 883, 884, 885, 886, 887, 871, 872, 873, 868, 869, 870, 874, 875] (by decide +kernel) (by decide +kernel)
set_option maxRecDepth 20000 in
theorem gL_law_X11_removeMethod : GoodIn wsL_law (wsV RL 137 RX11 yX11_removeMethod wsX11_removeMethod) := goodIn_app (goodIn_of _ (by decide +kernel)) ggL_law_X11_removeMethod
set_option maxRecDepth 20000 in
theorem ggL_law_X11_init : GoodIn wsL_law wsX11_init := goodIn_r _ [7, 8, 9, 10, 11, 12, 13, 14, 15, 16, 17, 18, 19, 20, 21, 22, 23, 24, 25, 26, 27, 28, 29, 30, 31, 32, 33, 34, 35, 36, 37, 38, 39, 40, 41, 42, 43, 44, 45, 46, 47, 48, 49, 50, 51, 52, 53, 54, 55, 56, 57, 58, 59, 60, 61, 62, 63, 64, 65, 66, 3, 67, 68, 69, 70, 71, 72, 73, 74, 75, 76, 77, 78, 79, 80, 81, 82, 83, 84, 85, 86, 87, 88, 89, 90, 91, 92, 93, 94, 95, 96, 97, 98, 99, 100, 101, 102, 103, 104, 105, 106, 107, 108, 109, 110, 111, 112, 113, 114, 115, 116, 117, 118, 119, 120, 121, 122, 123, 124, 125, 126, 850, 851, 852, 853, 842, 843, 844, 845, 846, 847, 848, 849, 854, 855, 856, 857, 858, 859, 860, 861, 862, 863, 864, 865, 866, 867, 868, 869, 870, 871, 872, 873, 874, 875, 876, 877, 878, 879, 880, 881, 882, 883, 884, 885, 886, 887] (by decide +kernel) (by decide +kernel)
set_option maxRecDepth 20000 in
theorem gL_law_X11_init : GoodIn wsL_law (wsX11_init) := ggL_law_X11_init
set_option maxRecDepth 20000 in
theorem ggL_law_X11_poolSize : GoodIn wsL_law wsX11_poolSize := goodIn_r _ [196, 22, 842, 843, 844, 845, 846, 847, 848, 849, 855, 856, 857, 858, 859, 860, 861, 862, 863, 864, 865, 866, 867] (by decide +kernel) (by decide +kernel)
set_option maxRecDepth 20000 in
theorem gL_law_X11_poolSize : GoodIn wsL_law (wsV RL 97 RX11 yX11_poolSize wsX11_poolSize) := goodIn_app (goodIn_of _ (by decide +kernel)) ggL_law_X11_poolSize
set_option maxRecDepth 20000 in
theorem ggL_law_L_cell : GoodIn wsL_law wsL_cell := goodIn_r _ [214] (by decide +kernel) (by decide +kernel)
set_option maxRecDepth 20000 in
theorem gL_law_L_cell : GoodIn wsL_law (va_wsS RL 35 yL_cell wsL_cell) := goodIn_app (goodIn_of _ (by decide +kernel)) ggL_law_L_cell
