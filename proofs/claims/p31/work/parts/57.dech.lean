theorem dL_cell_0 : decode cL_cell 0 = .ok (.iload_n 1, 1) := by decide +kernel
theorem dL_cell_1 : decode cL_cell 1 = .ok (.aload_n 0, 1) := by decide +kernel
theorem dL_cell_2 : decode cL_cell 2 = .ok (.arraylength, 1) := by decide +kernel
theorem dL_cell_3 : decode cL_cell 3 = .ok (.if_icmp .ge 9, 3) := by decide +kernel
theorem dL_cell_6 : decode cL_cell 6 = .ok (.aload_n 0, 1) := by decide +kernel
theorem dL_cell_7 : decode cL_cell 7 = .ok (.iload_n 1, 1) := by decide +kernel
theorem dL_cell_8 : decode cL_cell 8 = .ok (.iaload, 1) := by decide +kernel
theorem dL_cell_9 : decode cL_cell 9 = .ok (.goto 15, 3) := by decide +kernel
theorem dL_cell_12 : decode cL_cell 12 = .ok (.sipush 7919, 3) := by decide +kernel
theorem dL_cell_15 : decode cL_cell 15 = .ok (.iload_n 1, 1) := by decide +kernel
theorem dL_cell_16 : decode cL_cell 16 = .ok (.iconst 3, 1) := by decide +kernel
theorem dL_cell_17 : decode cL_cell 17 = .ok (.iadd, 1) := by decide +kernel
theorem dL_cell_18 : decode cL_cell 18 = .ok (.imul, 1) := by decide +kernel
theorem dL_cell_19 : decode cL_cell 19 = .ok (.iload_n 1, 1) := by decide +kernel
theorem dL_cell_20 : decode cL_cell 20 = .ok (.bipush 11, 2) := by decide +kernel
theorem dL_cell_22 : decode cL_cell 22 = .ok (.iadd, 1) := by decide +kernel
theorem dL_cell_23 : decode cL_cell 23 = .ok (.imul, 1) := by decide +kernel
theorem dL_cell_24 : decode cL_cell 24 = .ok (.ireturn, 1) := by decide +kernel
theorem dL_low_0 : decode cL_low 0 = .ok (.iload_n 0, 1) := by decide +kernel
theorem dL_low_1 : decode cL_low 1 = .ok (.ldc 7, 2) := by decide +kernel
theorem dL_low_3 : decode cL_low 3 = .ok (.iand, 1) := by decide +kernel
theorem dL_low_4 : decode cL_low 4 = .ok (.iload_n 1, 1) := by decide +kernel
theorem dL_low_5 : decode cL_low 5 = .ok (.irem, 1) := by decide +kernel
theorem dL_low_6 : decode cL_low 6 = .ok (.ireturn, 1) := by decide +kernel
set_option maxRecDepth 20000 in
theorem ggL_word_X11_appendCharacter : GoodIn wsL_word wsX11_appendCharacter := goodIn_r _ [6, 7, 8, 9, 10, 11, 12, 13, 14, 15, 16, 17, 18, 19, 20, 21, 22, 23, 24, 25, 26, 27, 28, 29, 30, 31, 32, 33, 34, 35, 36, 37, 38, 39, 40, 41, 42, 43, 44, 45, 46, 47, 48, 49, 50, 51, 52, 53, 54, 55, 56, 57, 58, 59, 60, 61, 62, 63, 64, 65, 66, 67, 68, 69, 70, 71, 72, 73, 74, 75, 76, 77, 78, 79, 80, 81, 82, 83, 84, 85, 86, 87, 88, 89, 90, 91, 92, 93, 94, 95, 96, 97, 98, 99, 100, 101, 102, 103, 104, 105, 106, 107, 108, 109, 110, 111, 112, 113, 114, 115, 116, 117, 118, 119, 120, 121, 122, 123, 124, 125, 126, 127, 128, 129, 130, 131, 132, 133, 134, 135, 136, 137, 138, 139, 140, 141, 142, 143, 144] (by decide +kernel) (by decide +kernel)
set_option maxRecDepth 20000 in
theorem gL_word_X11_appendCharacter : GoodIn wsL_word (wsV RL 10 RX11 yX11_appendCharacter wsX11_appendCharacter) := goodIn_app (goodIn_of _ (by decide +kernel)) ggL_word_X11_appendCharacter
theorem dL_word_0 : decode cL_word 0 = .ok (.bipush 56, 2) := by decide +kernel
theorem dL_word_2 : decode cL_word 2 = .ok (.istore_n 3, 1) := by decide +kernel
theorem dL_word_3 : decode cL_word 3 = .ok (.iload_n 3, 1) := by decide +kernel
theorem dL_word_4 : decode cL_word 4 = .ok (.ifCond .lt 31, 3) := by decide +kernel
theorem dL_word_7 : decode cL_word 7 = .ok (.lload_n 1, 1) := by decide +kernel
theorem dL_word_8 : decode cL_word 8 = .ok (.iload_n 3, 1) := by decide +kernel
theorem dL_word_9 : decode cL_word 9 = .ok (.lshr, 1) := by decide +kernel
theorem dL_word_10 : decode cL_word 10 = .ok (.ldc2_w 8, 3) := by decide +kernel
theorem dL_word_13 : decode cL_word 13 = .ok (.land, 1) := by decide +kernel
theorem dL_word_14 : decode cL_word 14 = .ok (.l2i, 1) := by decide +kernel
theorem dL_word_15 : decode cL_word 15 = .ok (.istore 4, 2) := by decide +kernel
theorem dL_word_17 : decode cL_word 17 = .ok (.iload 4, 2) := by decide +kernel
theorem dL_word_19 : decode cL_word 19 = .ok (.ifCond .le 10, 3) := by decide +kernel
theorem dL_word_22 : decode cL_word 22 = .ok (.aload_n 0, 1) := by decide +kernel
theorem dL_word_23 : decode cL_word 23 = .ok (.iload 4, 2) := by decide +kernel
theorem dL_word_25 : decode cL_word 25 = .ok (.invokevirtual 10, 3) := by decide +kernel
theorem dL_word_28 : decode cL_word 28 = .ok (.pop, 1) := by decide +kernel
theorem dL_word_29 : decode cL_word 29 = .ok (.iinc 3 (-8), 3) := by decide +kernel
theorem dL_word_32 : decode cL_word 32 = .ok (.goto (-29), 3) := by decide +kernel
theorem dL_word_35 : decode cL_word 35 = .ok (.return_, 1) := by decide +kernel
set_option maxRecDepth 20000 in
theorem ggL_number_X11_appendCharacter : GoodIn wsL_number wsX11_appendCharacter := goodIn_r _ [5, 6, 7, 8, 9, 10, 11, 12, 13, 14, 15, 16, 17, 18, 19, 20, 21, 22, 23, 24, 25, 26, 27, 28, 29, 30, 31, 32, 33, 34, 35, 36, 37, 38, 39, 40, 41, 42, 43, 44, 45, 46, 47, 48, 49, 50, 51, 52, 53, 54, 55, 56, 57, 58, 59, 60, 61, 62, 63, 64, 65, 66, 67, 68, 69, 70, 71, 72, 73, 74, 75, 76, 77, 78, 79, 80, 81, 82, 83, 84, 85, 86, 87, 88, 89, 90, 91, 92, 93, 94, 95, 96, 97, 98, 99, 100, 101, 102, 103, 104, 105, 106, 107, 108, 109, 110, 111, 112, 113, 114, 115, 116, 117, 118, 119, 120, 121, 122, 123, 124, 125, 126, 127, 128, 129, 130, 131, 132, 133, 134, 135, 136, 137, 138, 139, 140, 141, 142, 143] (by decide +kernel) (by decide +kernel)
set_option maxRecDepth 20000 in
theorem gL_number_X11_appendCharacter : GoodIn wsL_number (wsV RL 10 RX11 yX11_appendCharacter wsX11_appendCharacter) := goodIn_app (goodIn_of _ (by decide +kernel)) ggL_number_X11_appendCharacter
theorem dL_number_0 : decode cL_number 0 = .ok (.iload_n 1, 1) := by decide +kernel
theorem dL_number_1 : decode cL_number 1 = .ok (.istore_n 2, 1) := by decide +kernel
theorem dL_number_2 : decode cL_number 2 = .ok (.iload_n 2, 1) := by decide +kernel
theorem dL_number_3 : decode cL_number 3 = .ok (.ifCond .ge 13, 3) := by decide +kernel
theorem dL_number_6 : decode cL_number 6 = .ok (.aload_n 0, 1) := by decide +kernel
theorem dL_number_7 : decode cL_number 7 = .ok (.bipush 45, 2) := by decide +kernel
theorem dL_number_9 : decode cL_number 9 = .ok (.invokevirtual 10, 3) := by decide +kernel
theorem dL_number_12 : decode cL_number 12 = .ok (.pop, 1) := by decide +kernel
theorem dL_number_13 : decode cL_number 13 = .ok (.iload_n 2, 1) := by decide +kernel
theorem dL_number_14 : decode cL_number 14 = .ok (.ineg, 1) := by decide +kernel
theorem dL_number_15 : decode cL_number 15 = .ok (.istore_n 2, 1) := by decide +kernel
theorem dL_number_16 : decode cL_number 16 = .ok (.iload_n 2, 1) := by decide +kernel
theorem dL_number_17 : decode cL_number 17 = .ok (.bipush 9, 2) := by decide +kernel
theorem dL_number_19 : decode cL_number 19 = .ok (.if_icmp .le 15, 3) := by decide +kernel
theorem dL_number_22 : decode cL_number 22 = .ok (.aload_n 0, 1) := by decide +kernel
theorem dL_number_23 : decode cL_number 23 = .ok (.bipush 48, 2) := by decide +kernel
theorem dL_number_25 : decode cL_number 25 = .ok (.iload_n 2, 1) := by decide +kernel
theorem dL_number_26 : decode cL_number 26 = .ok (.bipush 10, 2) := by decide +kernel
theorem dL_number_28 : decode cL_number 28 = .ok (.idiv, 1) := by decide +kernel
theorem dL_number_29 : decode cL_number 29 = .ok (.iadd, 1) := by decide +kernel
theorem dL_number_30 : decode cL_number 30 = .ok (.invokevirtual 10, 3) := by decide +kernel
theorem dL_number_33 : decode cL_number 33 = .ok (.pop, 1) := by decide +kernel
theorem dL_number_34 : decode cL_number 34 = .ok (.aload_n 0, 1) := by decide +kernel
theorem dL_number_35 : decode cL_number 35 = .ok (.bipush 48, 2) := by decide +kernel
theorem dL_number_37 : decode cL_number 37 = .ok (.iload_n 2, 1) := by decide +kernel
theorem dL_number_38 : decode cL_number 38 = .ok (.bipush 10, 2) := by decide +kernel
theorem dL_number_40 : decode cL_number 40 = .ok (.irem, 1) := by decide +kernel
theorem dL_number_41 : decode cL_number 41 = .ok (.iadd, 1) := by decide +kernel
theorem dL_number_42 : decode cL_number 42 = .ok (.invokevirtual 10, 3) := by decide +kernel
theorem dL_number_45 : decode cL_number 45 = .ok (.pop, 1) := by decide +kernel
theorem dL_number_46 : decode cL_number 46 = .ok (.return_, 1) := by decide +kernel
set_option maxRecDepth 20000 in
theorem ggL_operand_L_number : GoodIn wsL_operand wsL_number := goodIn_r _ [5, 6, 7, 8, 9, 10, 11, 12, 13, 14, 15, 16, 17, 18, 19, 20, 21, 22, 23, 24, 25, 26, 27, 28, 29, 30, 31, 32, 33, 34, 35, 36, 37, 38, 39, 40, 41, 42, 43, 44, 45, 46, 47, 48, 49, 50, 51, 52, 53, 54, 55, 56, 57, 58, 59, 60, 61, 62, 63, 64, 65, 66, 67, 68, 69, 70, 71, 72, 73, 74, 75, 76, 77, 78, 79, 80, 81, 82, 83, 84, 85, 86, 87, 88, 89, 90, 91, 92, 93, 94, 95, 96, 97, 98, 99, 100, 101, 102, 103, 104, 105, 106, 107, 108, 109, 110, 111, 112, 113, 114, 115, 116, 117, 118, 119, 120, 121, 122, 123, 124, 125, 126, 127, 128, 129, 130, 131, 132, 133, 134, 135, 136, 141, 142, 143, 144, 145, 146, 147, 148, 149, 150, 151, 152] (by decide +kernel) (by decide +kernel)
set_option maxRecDepth 20000 in
theorem gL_operand_L_number : GoodIn wsL_operand (va_wsS RL 16 yL_number wsL_number) := goodIn_app (goodIn_of _ (by decide +kernel)) ggL_operand_L_number
set_option maxRecDepth 20000 in
theorem ggL_operand_L_word : GoodIn wsL_operand wsL_word := goodIn_r _ [139, 140, 6, 7, 8, 9, 10, 11, 12, 13, 14, 15, 16, 17, 18, 19, 20, 21, 22, 23, 24, 25, 26, 27, 28, 29, 30, 31, 32, 33, 34, 35, 36, 37, 38, 39, 40, 41, 42, 43, 44, 45, 46, 47, 48, 49, 50, 51, 52, 53, 54, 55, 56, 57, 58, 59, 60, 61, 62, 63, 64, 65, 66, 67, 68, 69, 70, 71, 72, 73, 74, 75, 76, 77, 78, 79, 80, 81, 82, 83, 84, 85, 86, 87, 88, 89, 90, 91, 92, 93, 94, 95, 96, 97, 98, 99, 100, 101, 102, 103, 104, 105, 106, 107, 108, 109, 110, 111, 112, 113, 114, 115, 116, 117, 118, 119, 120, 121, 122, 123, 124, 125, 126, 127, 128, 129, 130, 131, 132, 133, 134, 135, 136, 141, 142, 143, 144, 145, 146, 147, 148, 149, 150, 151, 152] (by decide +kernel) (by decide +kernel)
set_option maxRecDepth 20000 in
theorem gL_operand_L_word : GoodIn wsL_operand (va_wsS RL 24 yL_word wsL_word) := goodIn_app (goodIn_of _ (by decide +kernel)) ggL_operand_L_word
set_option maxRecDepth 20000 in
theorem ggL_operand_X11_appendCharacter : GoodIn wsL_operand wsX11_appendCharacter := goodIn_r _ [10, 11, 12, 13, 14, 15, 16, 17, 18, 19, 20, 21, 22, 23, 24, 25, 26, 27, 28, 29, 30, 31, 32, 33, 34, 35, 36, 37, 38, 39, 40, 41, 42, 43, 44, 45, 46, 47, 48, 49, 50, 51, 52, 53, 54, 55, 56, 57, 58, 59, 60, 61, 62, 63, 64, 65, 66, 67, 68, 69, 70, 71, 72, 73, 74, 75, 76, 77, 78, 79, 80, 81, 82, 83, 84, 85, 86, 87, 88, 89, 90, 91, 92, 93, 94, 95, 96, 97, 98, 99, 100, 101, 102, 103, 104, 105, 106, 107, 108, 109, 110, 111, 112, 113, 114, 115, 116, 117, 118, 119, 120, 121, 122, 123, 124, 125, 126, 127, 128, 129, 130, 131, 132, 133, 134, 135, 136, 141, 142, 143, 144, 145, 146, 147, 148, 149, 150, 151, 152] (by decide +kernel) (by decide +kernel)
set_option maxRecDepth 20000 in
theorem gL_operand_X11_appendCharacter : GoodIn wsL_operand (wsV RL 10 RX11 yX11_appendCharacter wsX11_appendCharacter) := goodIn_app (goodIn_of _ (by decide +kernel)) ggL_operand_X11_appendCharacter
theorem dL_operand_0 : decode cL_operand 0 = .ok (.iload_n 1, 1) := by decide +kernel
theorem dL_operand_1 : decode cL_operand 1 = .ok (.iconst 5, 1) := by decide +kernel
theorem dL_operand_2 : decode cL_operand 2 = .ok (.if_icmp .le 12, 3) := by decide +kernel
theorem dL_operand_5 : decode cL_operand 5 = .ok (.aload_n 0, 1) := by decide +kernel
theorem dL_operand_6 : decode cL_operand 6 = .ok (.iload_n 1, 1) := by decide +kernel
theorem dL_operand_7 : decode cL_operand 7 = .ok (.bipush 100, 2) := by decide +kernel
theorem dL_operand_9 : decode cL_operand 9 = .ok (.isub, 1) := by decide +kernel
theorem dL_operand_10 : decode cL_operand 10 = .ok (.invokestatic 16, 3) := by decide +kernel
theorem dL_operand_13 : decode cL_operand 13 = .ok (.return_, 1) := by decide +kernel
theorem dL_operand_14 : decode cL_operand 14 = .ok (.iload_n 1, 1) := by decide +kernel
theorem dL_operand_15 : decode cL_operand 15 = .ok (.iconst 2, 1) := by decide +kernel
theorem dL_operand_16 : decode cL_operand 16 = .ok (.if_icmp .le 10, 3) := by decide +kernel
theorem dL_operand_19 : decode cL_operand 19 = .ok (.aload_n 0, 1) := by decide +kernel
theorem dL_operand_20 : decode cL_operand 20 = .ok (.ldc2_w 22, 3) := by decide +kernel
theorem dL_operand_23 : decode cL_operand 23 = .ok (.invokestatic 24, 3) := by decide +kernel
theorem dL_operand_26 : decode cL_operand 26 = .ok (.aload_n 0, 1) := by decide +kernel
theorem dL_operand_27 : decode cL_operand 27 = .ok (.bipush 120, 2) := by decide +kernel
theorem dL_operand_29 : decode cL_operand 29 = .ok (.iload_n 1, 1) := by decide +kernel
theorem dL_operand_30 : decode cL_operand 30 = .ok (.iconst 3, 1) := by decide +kernel
theorem dL_operand_31 : decode cL_operand 31 = .ok (.irem, 1) := by decide +kernel
theorem dL_operand_32 : decode cL_operand 32 = .ok (.iadd, 1) := by decide +kernel
theorem dL_operand_33 : decode cL_operand 33 = .ok (.invokevirtual 10, 3) := by decide +kernel
theorem dL_operand_36 : decode cL_operand 36 = .ok (.pop, 1) := by decide +kernel
theorem dL_operand_37 : decode cL_operand 37 = .ok (.return_, 1) := by decide +kernel
set_option maxRecDepth 20000 in
theorem ggL_condition_L_operand : GoodIn wsL_condition wsL_operand := goodIn_r _ [4, 5, 6, 7, 3, 8, 9, 10, 11, 12, 13, 14, 15, 16, 17, 18, 19, 20, 21, 22, 23, 24, 25, 26, 27, 28, 29, 30, 31, 32, 33, 34, 35, 36, 37, 38, 39, 40, 41, 42, 43, 44, 45, 46, 47, 48, 49, 50, 51, 52, 53, 54, 55, 56, 57, 58, 59, 60, 61, 62, 63, 64, 65, 66, 67, 68, 69, 70, 71, 72, 73, 74, 75, 76, 77, 78, 79, 80, 81, 82, 83, 84, 85, 86, 87, 88, 89, 90, 91, 92, 93, 94, 95, 96, 97, 98, 99, 100, 101, 102, 103, 104, 105, 106, 107, 108, 109, 110, 111, 112, 113, 114, 115, 116, 117, 118, 119, 120, 121, 122, 123, 124, 125, 126, 127, 128, 129, 130, 131, 132, 133, 134, 135, 136, 137, 138, 139, 140, 141, 142, 143, 144, 145, 146, 147, 148, 149, 150, 151, 152, 153, 154, 155] (by decide +kernel) (by decide +kernel)
set_option maxRecDepth 20000 in
theorem gL_condition_L_operand : GoodIn wsL_condition (va_wsS RL 28 yL_operand wsL_operand) := goodIn_app (goodIn_of _ (by decide +kernel)) ggL_condition_L_operand
set_option maxRecDepth 20000 in
theorem ggL_condition_X11_appendCharacter : GoodIn wsL_condition wsX11_appendCharacter := goodIn_r _ [13, 14, 15, 16, 17, 18, 19, 20, 21, 22, 23, 24, 25, 26, 27, 28, 29, 30, 31, 32, 33, 34, 35, 36, 37, 38, 39, 40, 41, 42, 43, 44, 45, 46, 47, 48, 49, 50, 51, 52, 53, 54, 55, 56, 57, 58, 59, 60, 61, 62, 63, 64, 65, 66, 67, 68, 69, 70, 71, 72, 73, 74, 75, 76, 77, 78, 79, 80, 81, 82, 83, 84, 85, 86, 87, 88, 89, 90, 91, 92, 93, 94, 95, 96, 97, 98, 99, 100, 101, 102, 103, 104, 105, 106, 107, 108, 109, 110, 111, 112, 113, 114, 115, 116, 117, 118, 119, 120, 121, 122, 123, 124, 125, 126, 127, 128, 129, 130, 131, 132, 133, 134, 135, 136, 137, 138, 139, 144, 145, 146, 147, 148, 149, 150, 151, 152, 153, 154, 155] (by decide +kernel) (by decide +kernel)
set_option maxRecDepth 20000 in
theorem gL_condition_X11_appendCharacter : GoodIn wsL_condition (wsV RL 10 RX11 yX11_appendCharacter wsX11_appendCharacter) := goodIn_app (goodIn_of _ (by decide +kernel)) ggL_condition_X11_appendCharacter
theorem dL_condition_0 : decode cL_condition 0 = .ok (.aload_n 0, 1) := by decide +kernel
theorem dL_condition_1 : decode cL_condition 1 = .ok (.iload_n 1, 1) := by decide +kernel
theorem dL_condition_2 : decode cL_condition 2 = .ok (.invokestatic 28, 3) := by decide +kernel
theorem dL_condition_5 : decode cL_condition 5 = .ok (.aload_n 0, 1) := by decide +kernel
theorem dL_condition_6 : decode cL_condition 6 = .ok (.bipush 60, 2) := by decide +kernel
theorem dL_condition_8 : decode cL_condition 8 = .ok (.iload_n 2, 1) := by decide +kernel
theorem dL_condition_9 : decode cL_condition 9 = .ok (.iadd, 1) := by decide +kernel
theorem dL_condition_10 : decode cL_condition 10 = .ok (.invokevirtual 10, 3) := by decide +kernel
theorem dL_condition_13 : decode cL_condition 13 = .ok (.pop, 1) := by decide +kernel
theorem dL_condition_14 : decode cL_condition 14 = .ok (.aload_n 0, 1) := by decide +kernel
theorem dL_condition_15 : decode cL_condition 15 = .ok (.iload_n 3, 1) := by decide +kernel
theorem dL_condition_16 : decode cL_condition 16 = .ok (.invokestatic 28, 3) := by decide +kernel
theorem dL_condition_19 : decode cL_condition 19 = .ok (.return_, 1) := by decide +kernel
set_option maxRecDepth 20000 in
theorem ggL_drawn_L_low : GoodIn wsL_drawn wsL_low := goodIn_r _ [4, 5] (by decide +kernel) (by decide +kernel)
set_option maxRecDepth 20000 in
theorem gL_drawn_L_low : GoodIn wsL_drawn (va_wsS RL 31 yL_low wsL_low) := goodIn_app (goodIn_of _ (by decide +kernel)) ggL_drawn_L_low
theorem dL_drawn_0 : decode cL_drawn 0 = .ok (.iload_n 0, 1) := by decide +kernel
theorem dL_drawn_1 : decode cL_drawn 1 = .ok (.iconst 3, 1) := by decide +kernel
theorem dL_drawn_2 : decode cL_drawn 2 = .ok (.iand, 1) := by decide +kernel
theorem dL_drawn_3 : decode cL_drawn 3 = .ok (.iconst 2, 1) := by decide +kernel
theorem dL_drawn_4 : decode cL_drawn 4 = .ok (.if_icmp .ge 13, 3) := by decide +kernel
theorem dL_drawn_7 : decode cL_drawn 7 = .ok (.iload_n 0, 1) := by decide +kernel
theorem dL_drawn_8 : decode cL_drawn 8 = .ok (.iconst 2, 1) := by decide +kernel
theorem dL_drawn_9 : decode cL_drawn 9 = .ok (.ishr, 1) := by decide +kernel
theorem dL_drawn_10 : decode cL_drawn 10 = .ok (.iload_n 1, 1) := by decide +kernel
theorem dL_drawn_11 : decode cL_drawn 11 = .ok (.invokestatic 31, 3) := by decide +kernel
theorem dL_drawn_14 : decode cL_drawn 14 = .ok (.goto 14, 3) := by decide +kernel
theorem dL_drawn_17 : decode cL_drawn 17 = .ok (.bipush 95, 2) := by decide +kernel
theorem dL_drawn_19 : decode cL_drawn 19 = .ok (.iload_n 0, 1) := by decide +kernel
theorem dL_drawn_20 : decode cL_drawn 20 = .ok (.iconst 2, 1) := by decide +kernel
theorem dL_drawn_21 : decode cL_drawn 21 = .ok (.ishr, 1) := by decide +kernel
theorem dL_drawn_22 : decode cL_drawn 22 = .ok (.bipush 11, 2) := by decide +kernel
theorem dL_drawn_24 : decode cL_drawn 24 = .ok (.invokestatic 31, 3) := by decide +kernel
theorem dL_drawn_27 : decode cL_drawn 27 = .ok (.iadd, 1) := by decide +kernel
theorem dL_drawn_28 : decode cL_drawn 28 = .ok (.ireturn, 1) := by decide +kernel
set_option maxRecDepth 20000 in
theorem ggL_typed_L_cell : GoodIn wsL_typed wsL_cell := goodIn_r _ [11] (by decide +kernel) (by decide +kernel)
set_option maxRecDepth 20000 in
theorem gL_typed_L_cell : GoodIn wsL_typed (va_wsS RL 35 yL_cell wsL_cell) := goodIn_app (goodIn_of _ (by decide +kernel)) ggL_typed_L_cell
set_option maxRecDepth 20000 in
theorem ggL_typed_L_low : GoodIn wsL_typed wsL_low := goodIn_r _ [14, 15] (by decide +kernel) (by decide +kernel)
set_option maxRecDepth 20000 in
theorem gL_typed_L_low : GoodIn wsL_typed (va_wsS RL 31 yL_low wsL_low) := goodIn_app (goodIn_of _ (by decide +kernel)) ggL_typed_L_low
set_option maxRecDepth 20000 in
theorem ggL_typed_L_word : GoodIn wsL_typed wsL_word := goodIn_r _ [18, 19, 20, 21, 22, 23, 24, 25, 26, 27, 28, 29, 30, 31, 32, 33, 34, 35, 36, 37, 38, 39, 40, 41, 42, 43, 44, 45, 46, 47, 48, 49, 50, 51, 52, 53, 54, 55, 56, 57, 58, 59, 60, 61, 62, 63, 64, 65, 66, 67, 68, 69, 70, 71, 72, 73, 74, 75, 76, 77, 78, 79, 80, 81, 82, 83, 84, 85, 86, 87, 88, 89, 90, 91, 92, 93, 94, 95, 96, 97, 98, 99, 100, 101, 102, 103, 104, 105, 106, 107, 108, 109, 110, 111, 112, 113, 114, 115, 116, 117, 118, 119, 120, 121, 122, 123, 124, 125, 126, 127, 128, 129, 130, 131, 132, 133, 134, 135, 136, 137, 138, 139, 140, 141, 142, 143, 144, 145, 146, 147, 148, 149, 150, 164, 165, 166, 167, 168, 169, 170, 171, 172, 173, 174, 175] (by decide +kernel) (by decide +kernel)
set_option maxRecDepth 20000 in
theorem gL_typed_L_word : GoodIn wsL_typed (va_wsS RL 24 yL_word wsL_word) := goodIn_app (goodIn_of _ (by decide +kernel)) ggL_typed_L_word
set_option maxRecDepth 20000 in
theorem ggL_typed_X11_appendCharacter : GoodIn wsL_typed wsX11_appendCharacter := goodIn_r _ [24, 25, 26, 27, 28, 29, 30, 31, 32, 33, 34, 35, 36, 37, 38, 39, 40, 41, 42, 43, 44, 45, 46, 47, 48, 49, 50, 51, 52, 53, 54, 55, 56, 57, 58, 59, 60, 61, 62, 63, 64, 65, 66, 67, 68, 69, 70, 71, 72, 73, 74, 75, 76, 77, 78, 79, 80, 81, 82, 83, 84, 85, 86, 87, 88, 89, 90, 91, 92, 93, 94, 95, 96, 97, 98, 99, 100, 101, 102, 103, 104, 105, 106, 107, 108, 109, 110, 111, 112, 113, 114, 115, 116, 117, 118, 119, 120, 121, 122, 123, 124, 125, 126, 127, 128, 129, 130, 131, 132, 133, 134, 135, 136, 137, 138, 139, 140, 141, 142, 143, 144, 145, 146, 147, 148, 149, 150, 164, 165, 166, 167, 168, 169, 170, 171, 172, 173, 174, 175] (by decide +kernel) (by decide +kernel)
set_option maxRecDepth 20000 in
theorem gL_typed_X11_appendCharacter : GoodIn wsL_typed (wsV RL 10 RX11 yX11_appendCharacter wsX11_appendCharacter) := goodIn_app (goodIn_of _ (by decide +kernel)) ggL_typed_X11_appendCharacter
set_option maxRecDepth 20000 in
theorem ggL_typed_L_number : GoodIn wsL_typed wsL_number := goodIn_r _ [153, 20, 21, 22, 23, 24, 25, 26, 27, 28, 29, 30, 31, 32, 33, 34, 35, 36, 37, 38, 39, 40, 41, 42, 43, 44, 45, 46, 47, 48, 49, 50, 51, 52, 53, 54, 55, 56, 57, 58, 59, 60, 61, 62, 63, 64, 65, 66, 67, 68, 69, 70, 71, 72, 73, 74, 75, 76, 77, 78, 79, 80, 81, 82, 83, 84, 85, 86, 87, 88, 89, 90, 91, 92, 93, 94, 95, 96, 97, 98, 99, 100, 101, 102, 103, 104, 105, 106, 107, 108, 109, 110, 111, 112, 113, 114, 115, 116, 117, 118, 119, 120, 121, 122, 123, 124, 125, 126, 127, 128, 129, 130, 131, 132, 133, 134, 135, 136, 137, 138, 139, 140, 141, 142, 143, 144, 145, 146, 147, 148, 149, 150, 164, 165, 166, 167, 168, 169, 170, 171, 172, 173, 174, 175] (by decide +kernel) (by decide +kernel)
set_option maxRecDepth 20000 in
theorem gL_typed_L_number : GoodIn wsL_typed (va_wsS RL 16 yL_number wsL_number) := goodIn_app (goodIn_of _ (by decide +kernel)) ggL_typed_L_number
set_option maxRecDepth 20000 in
theorem ggL_typed_L_drawn : GoodIn wsL_typed wsL_drawn := goodIn_r _ [156, 12, 13, 10, 14, 15] (by decide +kernel) (by decide +kernel)
set_option maxRecDepth 20000 in
theorem gL_typed_L_drawn : GoodIn wsL_typed (va_wsS RL 41 yL_drawn wsL_drawn) := goodIn_app (goodIn_of _ (by decide +kernel)) ggL_typed_L_drawn
set_option maxRecDepth 20000 in
theorem ggL_typed_L_condition : GoodIn wsL_typed wsL_condition := goodIn_r _ [159, 160, 161, 10, 162, 163, 151, 152, 153, 20, 21, 22, 23, 24, 25, 26, 27, 28, 29, 30, 31, 32, 33, 34, 35, 36, 37, 38, 39, 40, 41, 42, 43, 44, 45, 46, 47, 48, 49, 50, 51, 52, 53, 54, 55, 56, 57, 58, 59, 60, 61, 62, 63, 64, 65, 66, 67, 68, 69, 70, 71, 72, 73, 74, 75, 76, 77, 78, 79, 80, 81, 82, 83, 84, 85, 86, 87, 88, 89, 90, 91, 92, 93, 94, 95, 96, 97, 98, 99, 100, 101, 102, 103, 104, 105, 106, 107, 108, 109, 110, 111, 112, 113, 114, 115, 116, 117, 118, 119, 120, 121, 122, 123, 124, 125, 126, 127, 128, 129, 130, 131, 132, 133, 134, 135, 136, 137, 138, 139, 140, 141, 142, 143, 144, 145, 146, 147, 148, 149, 150, 16, 17, 18, 19, 164, 165, 166, 167, 168, 169, 170, 171, 172, 173, 174, 175] (by decide +kernel) (by decide +kernel)
set_option maxRecDepth 20000 in
theorem gL_typed_L_condition : GoodIn wsL_typed (va_wsS RL 48 yL_condition wsL_condition) := goodIn_app (goodIn_of _ (by decide +kernel)) ggL_typed_L_condition
set_option maxRecDepth 20000 in
theorem ggL_typed_L_operand : GoodIn wsL_typed wsL_operand := goodIn_r _ [162, 163, 151, 152, 10, 153, 20, 21, 22, 23, 24, 25, 26, 27, 28, 29, 30, 31, 32, 33, 34, 35, 36, 37, 38, 39, 40, 41, 42, 43, 44, 45, 46, 47, 48, 49, 50, 51, 52, 53, 54, 55, 56, 57, 58, 59, 60, 61, 62, 63, 64, 65, 66, 67, 68, 69, 70, 71, 72, 73, 74, 75, 76, 77, 78, 79, 80, 81, 82, 83, 84, 85, 86, 87, 88, 89, 90, 91, 92, 93, 94, 95, 96, 97, 98, 99, 100, 101, 102, 103, 104, 105, 106, 107, 108, 109, 110, 111, 112, 113, 114, 115, 116, 117, 118, 119, 120, 121, 122, 123, 124, 125, 126, 127, 128, 129, 130, 131, 132, 133, 134, 135, 136, 137, 138, 139, 140, 141, 142, 143, 144, 145, 146, 147, 148, 149, 150, 16, 17, 18, 19, 164, 165, 166, 167, 168, 169, 170, 171, 172, 173, 174, 175] (by decide +kernel) (by decide +kernel)
set_option maxRecDepth 20000 in
theorem gL_typed_L_operand : GoodIn wsL_typed (va_wsS RL 28 yL_operand wsL_operand) := goodIn_app (goodIn_of _ (by decide +kernel)) ggL_typed_L_operand
theorem dL_typed_0 : decode cL_typed 0 = .ok (.aload_n 1, 1) := by decide +kernel
theorem dL_typed_1 : decode cL_typed 1 = .ok (.iload_n 2, 1) := by decide +kernel
theorem dL_typed_2 : decode cL_typed 2 = .ok (.invokestatic 35, 3) := by decide +kernel
theorem dL_typed_5 : decode cL_typed 5 = .ok (.istore 4, 2) := by decide +kernel
theorem dL_typed_7 : decode cL_typed 7 = .ok (.iconst 0, 1) := by decide +kernel
theorem dL_typed_8 : decode cL_typed 8 = .ok (.istore 5, 2) := by decide +kernel
theorem dL_typed_10 : decode cL_typed 10 = .ok (.iload 5, 2) := by decide +kernel
theorem dL_typed_12 : decode cL_typed 12 = .ok (.iconst 3, 1) := by decide +kernel
theorem dL_typed_13 : decode cL_typed 13 = .ok (.if_icmp .ge 14, 3) := by decide +kernel
theorem dL_typed_16 : decode cL_typed 16 = .ok (.aload_n 3, 1) := by decide +kernel
theorem dL_typed_17 : decode cL_typed 17 = .ok (.iload 5, 2) := by decide +kernel
theorem dL_typed_19 : decode cL_typed 19 = .ok (.iconst 0, 1) := by decide +kernel
theorem dL_typed_20 : decode cL_typed 20 = .ok (.iastore, 1) := by decide +kernel
theorem dL_typed_21 : decode cL_typed 21 = .ok (.iinc 5 1, 3) := by decide +kernel
theorem dL_typed_24 : decode cL_typed 24 = .ok (.goto (-14), 3) := by decide +kernel
theorem dL_typed_27 : decode cL_typed 27 = .ok (.iload 4, 2) := by decide +kernel
theorem dL_typed_29 : decode cL_typed 29 = .ok (.iconst 3, 1) := by decide +kernel
theorem dL_typed_30 : decode cL_typed 30 = .ok (.invokestatic 31, 3) := by decide +kernel
theorem dL_typed_33 : decode cL_typed 33 = .ok (.istore 5, 2) := by decide +kernel
theorem dL_typed_35 : decode cL_typed 35 = .ok (.aload_n 3, 1) := by decide +kernel
theorem dL_typed_36 : decode cL_typed 36 = .ok (.iload 5, 2) := by decide +kernel
theorem dL_typed_38 : decode cL_typed 38 = .ok (.iload 4, 2) := by decide +kernel
theorem dL_typed_40 : decode cL_typed 40 = .ok (.iconst 2, 1) := by decide +kernel
theorem dL_typed_41 : decode cL_typed 41 = .ok (.ishr, 1) := by decide +kernel
theorem dL_typed_42 : decode cL_typed 42 = .ok (.bipush 15, 2) := by decide +kernel
theorem dL_typed_44 : decode cL_typed 44 = .ok (.invokestatic 31, 3) := by decide +kernel
theorem dL_typed_47 : decode cL_typed 47 = .ok (.bipush 7, 2) := by decide +kernel
theorem dL_typed_49 : decode cL_typed 49 = .ok (.isub, 1) := by decide +kernel
theorem dL_typed_50 : decode cL_typed 50 = .ok (.iastore, 1) := by decide +kernel
theorem dL_typed_51 : decode cL_typed 51 = .ok (.aload_n 0, 1) := by decide +kernel
theorem dL_typed_52 : decode cL_typed 52 = .ok (.ldc2_w 39, 3) := by decide +kernel
theorem dL_typed_55 : decode cL_typed 55 = .ok (.invokestatic 24, 3) := by decide +kernel
theorem dL_typed_58 : decode cL_typed 58 = .ok (.aload_n 0, 1) := by decide +kernel
theorem dL_typed_59 : decode cL_typed 59 = .ok (.bipush 120, 2) := by decide +kernel
theorem dL_typed_61 : decode cL_typed 61 = .ok (.iload 5, 2) := by decide +kernel
theorem dL_typed_63 : decode cL_typed 63 = .ok (.iadd, 1) := by decide +kernel
theorem dL_typed_64 : decode cL_typed 64 = .ok (.invokevirtual 10, 3) := by decide +kernel
theorem dL_typed_67 : decode cL_typed 67 = .ok (.pop, 1) := by decide +kernel
theorem dL_typed_68 : decode cL_typed 68 = .ok (.aload_n 0, 1) := by decide +kernel
theorem dL_typed_69 : decode cL_typed 69 = .ok (.aload_n 3, 1) := by decide +kernel
theorem dL_typed_70 : decode cL_typed 70 = .ok (.iload 5, 2) := by decide +kernel
theorem dL_typed_72 : decode cL_typed 72 = .ok (.iaload, 1) := by decide +kernel
theorem dL_typed_73 : decode cL_typed 73 = .ok (.invokestatic 16, 3) := by decide +kernel
theorem dL_typed_76 : decode cL_typed 76 = .ok (.aload_n 0, 1) := by decide +kernel
theorem dL_typed_77 : decode cL_typed 77 = .ok (.bipush 59, 2) := by decide +kernel
theorem dL_typed_79 : decode cL_typed 79 = .ok (.invokevirtual 10, 3) := by decide +kernel
theorem dL_typed_82 : decode cL_typed 82 = .ok (.pop, 1) := by decide +kernel
theorem dL_typed_83 : decode cL_typed 83 = .ok (.aload_n 3, 1) := by decide +kernel
theorem dL_typed_84 : decode cL_typed 84 = .ok (.iconst 3, 1) := by decide +kernel
theorem dL_typed_85 : decode cL_typed 85 = .ok (.iload 4, 2) := by decide +kernel
theorem dL_typed_87 : decode cL_typed 87 = .ok (.bipush 6, 2) := by decide +kernel
theorem dL_typed_89 : decode cL_typed 89 = .ok (.ishr, 1) := by decide +kernel
theorem dL_typed_90 : decode cL_typed 90 = .ok (.iconst 1, 1) := by decide +kernel
theorem dL_typed_91 : decode cL_typed 91 = .ok (.iand, 1) := by decide +kernel
theorem dL_typed_92 : decode cL_typed 92 = .ok (.iastore, 1) := by decide +kernel
theorem dL_typed_93 : decode cL_typed 93 = .ok (.aload_n 3, 1) := by decide +kernel
theorem dL_typed_94 : decode cL_typed 94 = .ok (.iconst 3, 1) := by decide +kernel
theorem dL_typed_95 : decode cL_typed 95 = .ok (.iaload, 1) := by decide +kernel
theorem dL_typed_96 : decode cL_typed 96 = .ok (.iconst 1, 1) := by decide +kernel
theorem dL_typed_97 : decode cL_typed 97 = .ok (.if_icmp .ne 122, 3) := by decide +kernel
theorem dL_typed_100 : decode cL_typed 100 = .ok (.aload_n 1, 1) := by decide +kernel
theorem dL_typed_101 : decode cL_typed 101 = .ok (.iload_n 2, 1) := by decide +kernel
theorem dL_typed_102 : decode cL_typed 102 = .ok (.iconst 1, 1) := by decide +kernel
theorem dL_typed_103 : decode cL_typed 103 = .ok (.iadd, 1) := by decide +kernel
theorem dL_typed_104 : decode cL_typed 104 = .ok (.invokestatic 35, 3) := by decide +kernel
theorem dL_typed_107 : decode cL_typed 107 = .ok (.istore 6, 2) := by decide +kernel
theorem dL_typed_109 : decode cL_typed 109 = .ok (.aload_n 3, 1) := by decide +kernel
theorem dL_typed_110 : decode cL_typed 110 = .ok (.iconst 4, 1) := by decide +kernel
theorem dL_typed_111 : decode cL_typed 111 = .ok (.iload 6, 2) := by decide +kernel
theorem dL_typed_113 : decode cL_typed 113 = .ok (.iconst 3, 1) := by decide +kernel
theorem dL_typed_114 : decode cL_typed 114 = .ok (.invokestatic 31, 3) := by decide +kernel
theorem dL_typed_117 : decode cL_typed 117 = .ok (.iastore, 1) := by decide +kernel
theorem dL_typed_118 : decode cL_typed 118 = .ok (.aload_n 3, 1) := by decide +kernel
theorem dL_typed_119 : decode cL_typed 119 = .ok (.iconst 5, 1) := by decide +kernel
theorem dL_typed_120 : decode cL_typed 120 = .ok (.iload 6, 2) := by decide +kernel
theorem dL_typed_122 : decode cL_typed 122 = .ok (.iconst 2, 1) := by decide +kernel
theorem dL_typed_123 : decode cL_typed 123 = .ok (.ishr, 1) := by decide +kernel
theorem dL_typed_124 : decode cL_typed 124 = .ok (.iconst 3, 1) := by decide +kernel
theorem dL_typed_125 : decode cL_typed 125 = .ok (.invokestatic 31, 3) := by decide +kernel
theorem dL_typed_128 : decode cL_typed 128 = .ok (.iastore, 1) := by decide +kernel
theorem dL_typed_129 : decode cL_typed 129 = .ok (.aload_n 3, 1) := by decide +kernel
theorem dL_typed_130 : decode cL_typed 130 = .ok (.bipush 6, 2) := by decide +kernel
theorem dL_typed_132 : decode cL_typed 132 = .ok (.aload_n 3, 1) := by decide +kernel
theorem dL_typed_133 : decode cL_typed 133 = .ok (.iconst 5, 1) := by decide +kernel
theorem dL_typed_134 : decode cL_typed 134 = .ok (.iaload, 1) := by decide +kernel
theorem dL_typed_135 : decode cL_typed 135 = .ok (.ifCond .ne 18, 3) := by decide +kernel
theorem dL_typed_138 : decode cL_typed 138 = .ok (.bipush 104, 2) := by decide +kernel
theorem dL_typed_140 : decode cL_typed 140 = .ok (.iload 6, 2) := by decide +kernel
theorem dL_typed_142 : decode cL_typed 142 = .ok (.iconst 4, 1) := by decide +kernel
theorem dL_typed_143 : decode cL_typed 143 = .ok (.ishr, 1) := by decide +kernel
theorem dL_typed_144 : decode cL_typed 144 = .ok (.bipush 9, 2) := by decide +kernel
theorem dL_typed_146 : decode cL_typed 146 = .ok (.invokestatic 31, 3) := by decide +kernel
theorem dL_typed_149 : decode cL_typed 149 = .ok (.iadd, 1) := by decide +kernel
theorem dL_typed_150 : decode cL_typed 150 = .ok (.goto 33, 3) := by decide +kernel
theorem dL_typed_153 : decode cL_typed 153 = .ok (.aload_n 3, 1) := by decide +kernel
theorem dL_typed_154 : decode cL_typed 154 = .ok (.iconst 5, 1) := by decide +kernel
theorem dL_typed_155 : decode cL_typed 155 = .ok (.iaload, 1) := by decide +kernel
theorem dL_typed_156 : decode cL_typed 156 = .ok (.iconst 2, 1) := by decide +kernel
theorem dL_typed_157 : decode cL_typed 157 = .ok (.if_icmp .ne 18, 3) := by decide +kernel
theorem dL_typed_160 : decode cL_typed 160 = .ok (.bipush 96, 2) := by decide +kernel
theorem dL_typed_162 : decode cL_typed 162 = .ok (.iload 6, 2) := by decide +kernel
theorem dL_typed_164 : decode cL_typed 164 = .ok (.iconst 4, 1) := by decide +kernel
theorem dL_typed_165 : decode cL_typed 165 = .ok (.ishr, 1) := by decide +kernel
theorem dL_typed_166 : decode cL_typed 166 = .ok (.bipush 9, 2) := by decide +kernel
theorem dL_typed_168 : decode cL_typed 168 = .ok (.invokestatic 31, 3) := by decide +kernel
theorem dL_typed_171 : decode cL_typed 171 = .ok (.isub, 1) := by decide +kernel
theorem dL_typed_172 : decode cL_typed 172 = .ok (.goto 11, 3) := by decide +kernel
theorem dL_typed_175 : decode cL_typed 175 = .ok (.iload 6, 2) := by decide +kernel
theorem dL_typed_177 : decode cL_typed 177 = .ok (.iconst 4, 1) := by decide +kernel
theorem dL_typed_178 : decode cL_typed 178 = .ok (.ishr, 1) := by decide +kernel
theorem dL_typed_179 : decode cL_typed 179 = .ok (.iconst 3, 1) := by decide +kernel
theorem dL_typed_180 : decode cL_typed 180 = .ok (.invokestatic 41, 3) := by decide +kernel
theorem dL_typed_183 : decode cL_typed 183 = .ok (.iastore, 1) := by decide +kernel
theorem dL_typed_184 : decode cL_typed 184 = .ok (.aload_n 0, 1) := by decide +kernel
theorem dL_typed_185 : decode cL_typed 185 = .ok (.ldc2_w 44, 3) := by decide +kernel
theorem dL_typed_188 : decode cL_typed 188 = .ok (.invokestatic 24, 3) := by decide +kernel
theorem dL_typed_191 : decode cL_typed 191 = .ok (.aload_n 0, 1) := by decide +kernel
theorem dL_typed_192 : decode cL_typed 192 = .ok (.ldc2_w 46, 3) := by decide +kernel
theorem dL_typed_195 : decode cL_typed 195 = .ok (.invokestatic 24, 3) := by decide +kernel
theorem dL_typed_198 : decode cL_typed 198 = .ok (.aload_n 0, 1) := by decide +kernel
theorem dL_typed_199 : decode cL_typed 199 = .ok (.aload_n 3, 1) := by decide +kernel
theorem dL_typed_200 : decode cL_typed 200 = .ok (.iconst 4, 1) := by decide +kernel
theorem dL_typed_201 : decode cL_typed 201 = .ok (.iaload, 1) := by decide +kernel
theorem dL_typed_202 : decode cL_typed 202 = .ok (.aload_n 3, 1) := by decide +kernel
theorem dL_typed_203 : decode cL_typed 203 = .ok (.iconst 5, 1) := by decide +kernel
theorem dL_typed_204 : decode cL_typed 204 = .ok (.iaload, 1) := by decide +kernel
theorem dL_typed_205 : decode cL_typed 205 = .ok (.aload_n 3, 1) := by decide +kernel
theorem dL_typed_206 : decode cL_typed 206 = .ok (.bipush 6, 2) := by decide +kernel
theorem dL_typed_208 : decode cL_typed 208 = .ok (.iaload, 1) := by decide +kernel
theorem dL_typed_209 : decode cL_typed 209 = .ok (.invokestatic 48, 3) := by decide +kernel
theorem dL_typed_212 : decode cL_typed 212 = .ok (.aload_n 0, 1) := by decide +kernel
theorem dL_typed_213 : decode cL_typed 213 = .ok (.bipush 59, 2) := by decide +kernel
theorem dL_typed_215 : decode cL_typed 215 = .ok (.invokevirtual 10, 3) := by decide +kernel
theorem dL_typed_218 : decode cL_typed 218 = .ok (.pop, 1) := by decide +kernel
theorem dL_typed_219 : decode cL_typed 219 = .ok (.aload_n 3, 1) := by decide +kernel
theorem dL_typed_220 : decode cL_typed 220 = .ok (.bipush 7, 2) := by decide +kernel
theorem dL_typed_222 : decode cL_typed 222 = .ok (.iconst 1, 1) := by decide +kernel
theorem dL_typed_223 : decode cL_typed 223 = .ok (.iload 4, 2) := by decide +kernel
theorem dL_typed_225 : decode cL_typed 225 = .ok (.bipush 7, 2) := by decide +kernel
theorem dL_typed_227 : decode cL_typed 227 = .ok (.ishr, 1) := by decide +kernel
theorem dL_typed_228 : decode cL_typed 228 = .ok (.iconst 3, 1) := by decide +kernel
theorem dL_typed_229 : decode cL_typed 229 = .ok (.invokestatic 31, 3) := by decide +kernel
theorem dL_typed_232 : decode cL_typed 232 = .ok (.iadd, 1) := by decide +kernel
theorem dL_typed_233 : decode cL_typed 233 = .ok (.iastore, 1) := by decide +kernel
theorem dL_typed_234 : decode cL_typed 234 = .ok (.iconst 0, 1) := by decide +kernel
theorem dL_typed_235 : decode cL_typed 235 = .ok (.istore 6, 2) := by decide +kernel
theorem dL_typed_237 : decode cL_typed 237 = .ok (.iload 6, 2) := by decide +kernel
theorem dL_typed_239 : decode cL_typed 239 = .ok (.aload_n 3, 1) := by decide +kernel
theorem dL_typed_240 : decode cL_typed 240 = .ok (.bipush 7, 2) := by decide +kernel
theorem dL_typed_242 : decode cL_typed 242 = .ok (.iaload, 1) := by decide +kernel
theorem dL_typed_243 : decode cL_typed 243 = .ok (.if_icmp .ge 414, 3) := by decide +kernel
theorem dL_typed_246 : decode cL_typed 246 = .ok (.aload_n 1, 1) := by decide +kernel
theorem dL_typed_247 : decode cL_typed 247 = .ok (.iload_n 2, 1) := by decide +kernel
theorem dL_typed_248 : decode cL_typed 248 = .ok (.iconst 2, 1) := by decide +kernel
theorem dL_typed_249 : decode cL_typed 249 = .ok (.iadd, 1) := by decide +kernel
theorem dL_typed_250 : decode cL_typed 250 = .ok (.iload 6, 2) := by decide +kernel
theorem dL_typed_252 : decode cL_typed 252 = .ok (.iadd, 1) := by decide +kernel
theorem dL_typed_253 : decode cL_typed 253 = .ok (.invokestatic 35, 3) := by decide +kernel
theorem dL_typed_256 : decode cL_typed 256 = .ok (.istore 7, 2) := by decide +kernel
theorem dL_typed_258 : decode cL_typed 258 = .ok (.bipush 8, 2) := by decide +kernel
theorem dL_typed_260 : decode cL_typed 260 = .ok (.bipush 12, 2) := by decide +kernel
theorem dL_typed_262 : decode cL_typed 262 = .ok (.iload 6, 2) := by decide +kernel
theorem dL_typed_264 : decode cL_typed 264 = .ok (.imul, 1) := by decide +kernel
theorem dL_typed_265 : decode cL_typed 265 = .ok (.iadd, 1) := by decide +kernel
theorem dL_typed_266 : decode cL_typed 266 = .ok (.istore 8, 2) := by decide +kernel
theorem dL_typed_268 : decode cL_typed 268 = .ok (.aload_n 0, 1) := by decide +kernel
theorem dL_typed_269 : decode cL_typed 269 = .ok (.ldc2_w 52, 3) := by decide +kernel
theorem dL_typed_272 : decode cL_typed 272 = .ok (.invokestatic 24, 3) := by decide +kernel
theorem dL_typed_275 : decode cL_typed 275 = .ok (.aload_n 3, 1) := by decide +kernel
theorem dL_typed_276 : decode cL_typed 276 = .ok (.iload 8, 2) := by decide +kernel
theorem dL_typed_278 : decode cL_typed 278 = .ok (.iload 7, 2) := by decide +kernel
theorem dL_typed_280 : decode cL_typed 280 = .ok (.iconst 1, 1) := by decide +kernel
theorem dL_typed_281 : decode cL_typed 281 = .ok (.iand, 1) := by decide +kernel
theorem dL_typed_282 : decode cL_typed 282 = .ok (.iastore, 1) := by decide +kernel
theorem dL_typed_283 : decode cL_typed 283 = .ok (.aload_n 3, 1) := by decide +kernel
theorem dL_typed_284 : decode cL_typed 284 = .ok (.iload 8, 2) := by decide +kernel
theorem dL_typed_286 : decode cL_typed 286 = .ok (.iaload, 1) := by decide +kernel
theorem dL_typed_287 : decode cL_typed 287 = .ok (.iconst 1, 1) := by decide +kernel
theorem dL_typed_288 : decode cL_typed 288 = .ok (.if_icmp .ne 81, 3) := by decide +kernel
theorem dL_typed_291 : decode cL_typed 291 = .ok (.aload_n 3, 1) := by decide +kernel
theorem dL_typed_292 : decode cL_typed 292 = .ok (.iload 8, 2) := by decide +kernel
theorem dL_typed_294 : decode cL_typed 294 = .ok (.iconst 1, 1) := by decide +kernel
theorem dL_typed_295 : decode cL_typed 295 = .ok (.iadd, 1) := by decide +kernel
theorem dL_typed_296 : decode cL_typed 296 = .ok (.iload 7, 2) := by decide +kernel
theorem dL_typed_298 : decode cL_typed 298 = .ok (.iconst 1, 1) := by decide +kernel
theorem dL_typed_299 : decode cL_typed 299 = .ok (.ishr, 1) := by decide +kernel
theorem dL_typed_300 : decode cL_typed 300 = .ok (.iconst 3, 1) := by decide +kernel
theorem dL_typed_301 : decode cL_typed 301 = .ok (.invokestatic 31, 3) := by decide +kernel
theorem dL_typed_304 : decode cL_typed 304 = .ok (.iastore, 1) := by decide +kernel
theorem dL_typed_305 : decode cL_typed 305 = .ok (.aload_n 3, 1) := by decide +kernel
theorem dL_typed_306 : decode cL_typed 306 = .ok (.iload 8, 2) := by decide +kernel
theorem dL_typed_308 : decode cL_typed 308 = .ok (.iconst 2, 1) := by decide +kernel
theorem dL_typed_309 : decode cL_typed 309 = .ok (.iadd, 1) := by decide +kernel
theorem dL_typed_310 : decode cL_typed 310 = .ok (.iload 7, 2) := by decide +kernel
theorem dL_typed_312 : decode cL_typed 312 = .ok (.iconst 3, 1) := by decide +kernel
theorem dL_typed_313 : decode cL_typed 313 = .ok (.ishr, 1) := by decide +kernel
theorem dL_typed_314 : decode cL_typed 314 = .ok (.iconst 3, 1) := by decide +kernel
theorem dL_typed_315 : decode cL_typed 315 = .ok (.invokestatic 31, 3) := by decide +kernel
theorem dL_typed_318 : decode cL_typed 318 = .ok (.iastore, 1) := by decide +kernel
theorem dL_typed_319 : decode cL_typed 319 = .ok (.aload_n 3, 1) := by decide +kernel
theorem dL_typed_320 : decode cL_typed 320 = .ok (.iload 8, 2) := by decide +kernel
theorem dL_typed_322 : decode cL_typed 322 = .ok (.iconst 3, 1) := by decide +kernel
theorem dL_typed_323 : decode cL_typed 323 = .ok (.iadd, 1) := by decide +kernel
theorem dL_typed_324 : decode cL_typed 324 = .ok (.iload 7, 2) := by decide +kernel
theorem dL_typed_326 : decode cL_typed 326 = .ok (.iconst 5, 1) := by decide +kernel
theorem dL_typed_327 : decode cL_typed 327 = .ok (.ishr, 1) := by decide +kernel
theorem dL_typed_328 : decode cL_typed 328 = .ok (.iconst 3, 1) := by decide +kernel
theorem dL_typed_329 : decode cL_typed 329 = .ok (.invokestatic 41, 3) := by decide +kernel
theorem dL_typed_332 : decode cL_typed 332 = .ok (.iastore, 1) := by decide +kernel
theorem dL_typed_333 : decode cL_typed 333 = .ok (.aload_n 0, 1) := by decide +kernel
theorem dL_typed_334 : decode cL_typed 334 = .ok (.ldc2_w 54, 3) := by decide +kernel
theorem dL_typed_337 : decode cL_typed 337 = .ok (.invokestatic 24, 3) := by decide +kernel
theorem dL_typed_340 : decode cL_typed 340 = .ok (.aload_n 0, 1) := by decide +kernel
theorem dL_typed_341 : decode cL_typed 341 = .ok (.aload_n 3, 1) := by decide +kernel
theorem dL_typed_342 : decode cL_typed 342 = .ok (.iload 8, 2) := by decide +kernel
theorem dL_typed_344 : decode cL_typed 344 = .ok (.iconst 1, 1) := by decide +kernel
theorem dL_typed_345 : decode cL_typed 345 = .ok (.iadd, 1) := by decide +kernel
theorem dL_typed_346 : decode cL_typed 346 = .ok (.iaload, 1) := by decide +kernel
theorem dL_typed_347 : decode cL_typed 347 = .ok (.aload_n 3, 1) := by decide +kernel
theorem dL_typed_348 : decode cL_typed 348 = .ok (.iload 8, 2) := by decide +kernel
theorem dL_typed_350 : decode cL_typed 350 = .ok (.iconst 2, 1) := by decide +kernel
theorem dL_typed_351 : decode cL_typed 351 = .ok (.iadd, 1) := by decide +kernel
theorem dL_typed_352 : decode cL_typed 352 = .ok (.iaload, 1) := by decide +kernel
theorem dL_typed_353 : decode cL_typed 353 = .ok (.aload_n 3, 1) := by decide +kernel
theorem dL_typed_354 : decode cL_typed 354 = .ok (.iload 8, 2) := by decide +kernel
theorem dL_typed_356 : decode cL_typed 356 = .ok (.iconst 3, 1) := by decide +kernel
theorem dL_typed_357 : decode cL_typed 357 = .ok (.iadd, 1) := by decide +kernel
theorem dL_typed_358 : decode cL_typed 358 = .ok (.iaload, 1) := by decide +kernel
theorem dL_typed_359 : decode cL_typed 359 = .ok (.invokestatic 48, 3) := by decide +kernel
theorem dL_typed_362 : decode cL_typed 362 = .ok (.aload_n 0, 1) := by decide +kernel
theorem dL_typed_363 : decode cL_typed 363 = .ok (.bipush 32, 2) := by decide +kernel
theorem dL_typed_365 : decode cL_typed 365 = .ok (.invokevirtual 10, 3) := by decide +kernel
theorem dL_typed_368 : decode cL_typed 368 = .ok (.pop, 1) := by decide +kernel
theorem dL_typed_369 : decode cL_typed 369 = .ok (.aload_n 3, 1) := by decide +kernel
theorem dL_typed_370 : decode cL_typed 370 = .ok (.iload 8, 2) := by decide +kernel
theorem dL_typed_372 : decode cL_typed 372 = .ok (.iconst 4, 1) := by decide +kernel
theorem dL_typed_373 : decode cL_typed 373 = .ok (.iadd, 1) := by decide +kernel
theorem dL_typed_374 : decode cL_typed 374 = .ok (.iload 7, 2) := by decide +kernel
theorem dL_typed_376 : decode cL_typed 376 = .ok (.bipush 11, 2) := by decide +kernel
theorem dL_typed_378 : decode cL_typed 378 = .ok (.ishr, 1) := by decide +kernel
theorem dL_typed_379 : decode cL_typed 379 = .ok (.iconst 3, 1) := by decide +kernel
theorem dL_typed_380 : decode cL_typed 380 = .ok (.invokestatic 31, 3) := by decide +kernel
theorem dL_typed_383 : decode cL_typed 383 = .ok (.iastore, 1) := by decide +kernel
theorem dL_typed_384 : decode cL_typed 384 = .ok (.aload_n 3, 1) := by decide +kernel
theorem dL_typed_385 : decode cL_typed 385 = .ok (.iload 8, 2) := by decide +kernel
theorem dL_typed_387 : decode cL_typed 387 = .ok (.iconst 5, 1) := by decide +kernel
theorem dL_typed_388 : decode cL_typed 388 = .ok (.iadd, 1) := by decide +kernel
theorem dL_typed_389 : decode cL_typed 389 = .ok (.iload 7, 2) := by decide +kernel
theorem dL_typed_391 : decode cL_typed 391 = .ok (.bipush 13, 2) := by decide +kernel
theorem dL_typed_393 : decode cL_typed 393 = .ok (.ishr, 1) := by decide +kernel
theorem dL_typed_394 : decode cL_typed 394 = .ok (.iconst 3, 1) := by decide +kernel
theorem dL_typed_395 : decode cL_typed 395 = .ok (.invokestatic 41, 3) := by decide +kernel
theorem dL_typed_398 : decode cL_typed 398 = .ok (.iastore, 1) := by decide +kernel
theorem dL_typed_399 : decode cL_typed 399 = .ok (.aload_n 3, 1) := by decide +kernel
theorem dL_typed_400 : decode cL_typed 400 = .ok (.iload 8, 2) := by decide +kernel
theorem dL_typed_402 : decode cL_typed 402 = .ok (.bipush 6, 2) := by decide +kernel
theorem dL_typed_404 : decode cL_typed 404 = .ok (.iadd, 1) := by decide +kernel
theorem dL_typed_405 : decode cL_typed 405 = .ok (.iload 7, 2) := by decide +kernel
theorem dL_typed_407 : decode cL_typed 407 = .ok (.bipush 18, 2) := by decide +kernel
theorem dL_typed_409 : decode cL_typed 409 = .ok (.ishr, 1) := by decide +kernel
theorem dL_typed_410 : decode cL_typed 410 = .ok (.iconst 3, 1) := by decide +kernel
theorem dL_typed_411 : decode cL_typed 411 = .ok (.invokestatic 31, 3) := by decide +kernel
theorem dL_typed_414 : decode cL_typed 414 = .ok (.iconst 1, 1) := by decide +kernel
theorem dL_typed_415 : decode cL_typed 415 = .ok (.isub, 1) := by decide +kernel
theorem dL_typed_416 : decode cL_typed 416 = .ok (.iastore, 1) := by decide +kernel
theorem dL_typed_417 : decode cL_typed 417 = .ok (.aload_n 3, 1) := by decide +kernel
theorem dL_typed_418 : decode cL_typed 418 = .ok (.iload 8, 2) := by decide +kernel
theorem dL_typed_420 : decode cL_typed 420 = .ok (.bipush 7, 2) := by decide +kernel
theorem dL_typed_422 : decode cL_typed 422 = .ok (.iadd, 1) := by decide +kernel
theorem dL_typed_423 : decode cL_typed 423 = .ok (.aload_n 1, 1) := by decide +kernel
theorem dL_typed_424 : decode cL_typed 424 = .ok (.iload_n 2, 1) := by decide +kernel
theorem dL_typed_425 : decode cL_typed 425 = .ok (.iconst 5, 1) := by decide +kernel
theorem dL_typed_426 : decode cL_typed 426 = .ok (.iadd, 1) := by decide +kernel
theorem dL_typed_427 : decode cL_typed 427 = .ok (.iload 6, 2) := by decide +kernel
theorem dL_typed_429 : decode cL_typed 429 = .ok (.iadd, 1) := by decide +kernel
theorem dL_typed_430 : decode cL_typed 430 = .ok (.invokestatic 35, 3) := by decide +kernel
theorem dL_typed_433 : decode cL_typed 433 = .ok (.iconst 3, 1) := by decide +kernel
theorem dL_typed_434 : decode cL_typed 434 = .ok (.invokestatic 41, 3) := by decide +kernel
theorem dL_typed_437 : decode cL_typed 437 = .ok (.iastore, 1) := by decide +kernel
theorem dL_typed_438 : decode cL_typed 438 = .ok (.aload_n 0, 1) := by decide +kernel
theorem dL_typed_439 : decode cL_typed 439 = .ok (.ldc2_w 56, 3) := by decide +kernel
theorem dL_typed_442 : decode cL_typed 442 = .ok (.invokestatic 24, 3) := by decide +kernel
theorem dL_typed_445 : decode cL_typed 445 = .ok (.aload_n 0, 1) := by decide +kernel
theorem dL_typed_446 : decode cL_typed 446 = .ok (.bipush 120, 2) := by decide +kernel
theorem dL_typed_448 : decode cL_typed 448 = .ok (.aload_n 3, 1) := by decide +kernel
theorem dL_typed_449 : decode cL_typed 449 = .ok (.iload 8, 2) := by decide +kernel
theorem dL_typed_451 : decode cL_typed 451 = .ok (.iconst 4, 1) := by decide +kernel
theorem dL_typed_452 : decode cL_typed 452 = .ok (.iadd, 1) := by decide +kernel
theorem dL_typed_453 : decode cL_typed 453 = .ok (.iaload, 1) := by decide +kernel
theorem dL_typed_454 : decode cL_typed 454 = .ok (.iadd, 1) := by decide +kernel
theorem dL_typed_455 : decode cL_typed 455 = .ok (.invokevirtual 10, 3) := by decide +kernel
theorem dL_typed_458 : decode cL_typed 458 = .ok (.pop, 1) := by decide +kernel
theorem dL_typed_459 : decode cL_typed 459 = .ok (.aload_n 0, 1) := by decide +kernel
theorem dL_typed_460 : decode cL_typed 460 = .ok (.bipush 61, 2) := by decide +kernel
theorem dL_typed_462 : decode cL_typed 462 = .ok (.invokevirtual 10, 3) := by decide +kernel
theorem dL_typed_465 : decode cL_typed 465 = .ok (.pop, 1) := by decide +kernel
theorem dL_typed_466 : decode cL_typed 466 = .ok (.aload_n 0, 1) := by decide +kernel
theorem dL_typed_467 : decode cL_typed 467 = .ok (.aload_n 3, 1) := by decide +kernel
theorem dL_typed_468 : decode cL_typed 468 = .ok (.iload 8, 2) := by decide +kernel
theorem dL_typed_470 : decode cL_typed 470 = .ok (.iconst 5, 1) := by decide +kernel
theorem dL_typed_471 : decode cL_typed 471 = .ok (.iadd, 1) := by decide +kernel
theorem dL_typed_472 : decode cL_typed 472 = .ok (.iaload, 1) := by decide +kernel
theorem dL_typed_473 : decode cL_typed 473 = .ok (.invokestatic 28, 3) := by decide +kernel
theorem dL_typed_476 : decode cL_typed 476 = .ok (.aload_n 3, 1) := by decide +kernel
theorem dL_typed_477 : decode cL_typed 477 = .ok (.iload 8, 2) := by decide +kernel
theorem dL_typed_479 : decode cL_typed 479 = .ok (.bipush 6, 2) := by decide +kernel
theorem dL_typed_481 : decode cL_typed 481 = .ok (.iadd, 1) := by decide +kernel
theorem dL_typed_482 : decode cL_typed 482 = .ok (.iaload, 1) := by decide +kernel
theorem dL_typed_483 : decode cL_typed 483 = .ok (.ifCond .eq 36, 3) := by decide +kernel
theorem dL_typed_486 : decode cL_typed 486 = .ok (.aload_n 0, 1) := by decide +kernel
theorem dL_typed_487 : decode cL_typed 487 = .ok (.aload_n 3, 1) := by decide +kernel
theorem dL_typed_488 : decode cL_typed 488 = .ok (.iload 8, 2) := by decide +kernel
theorem dL_typed_490 : decode cL_typed 490 = .ok (.bipush 6, 2) := by decide +kernel
theorem dL_typed_492 : decode cL_typed 492 = .ok (.iadd, 1) := by decide +kernel
theorem dL_typed_493 : decode cL_typed 493 = .ok (.iaload, 1) := by decide +kernel
theorem dL_typed_494 : decode cL_typed 494 = .ok (.ifCond .le 8, 3) := by decide +kernel
theorem dL_typed_497 : decode cL_typed 497 = .ok (.bipush 43, 2) := by decide +kernel
theorem dL_typed_499 : decode cL_typed 499 = .ok (.goto 5, 3) := by decide +kernel
theorem dL_typed_502 : decode cL_typed 502 = .ok (.bipush 45, 2) := by decide +kernel
theorem dL_typed_504 : decode cL_typed 504 = .ok (.invokevirtual 10, 3) := by decide +kernel
theorem dL_typed_507 : decode cL_typed 507 = .ok (.pop, 1) := by decide +kernel
theorem dL_typed_508 : decode cL_typed 508 = .ok (.aload_n 0, 1) := by decide +kernel
theorem dL_typed_509 : decode cL_typed 509 = .ok (.aload_n 3, 1) := by decide +kernel
theorem dL_typed_510 : decode cL_typed 510 = .ok (.iload 8, 2) := by decide +kernel
theorem dL_typed_512 : decode cL_typed 512 = .ok (.bipush 7, 2) := by decide +kernel
theorem dL_typed_514 : decode cL_typed 514 = .ok (.iadd, 1) := by decide +kernel
theorem dL_typed_515 : decode cL_typed 515 = .ok (.iaload, 1) := by decide +kernel
theorem dL_typed_516 : decode cL_typed 516 = .ok (.invokestatic 28, 3) := by decide +kernel
theorem dL_typed_519 : decode cL_typed 519 = .ok (.aload_n 3, 1) := by decide +kernel
theorem dL_typed_520 : decode cL_typed 520 = .ok (.iload 8, 2) := by decide +kernel
theorem dL_typed_522 : decode cL_typed 522 = .ok (.bipush 8, 2) := by decide +kernel
theorem dL_typed_524 : decode cL_typed 524 = .ok (.iadd, 1) := by decide +kernel
theorem dL_typed_525 : decode cL_typed 525 = .ok (.iload 7, 2) := by decide +kernel
theorem dL_typed_527 : decode cL_typed 527 = .ok (.bipush 20, 2) := by decide +kernel
theorem dL_typed_529 : decode cL_typed 529 = .ok (.ishr, 1) := by decide +kernel
theorem dL_typed_530 : decode cL_typed 530 = .ok (.iconst 4, 1) := by decide +kernel
theorem dL_typed_531 : decode cL_typed 531 = .ok (.invokestatic 31, 3) := by decide +kernel
theorem dL_typed_534 : decode cL_typed 534 = .ok (.ifCond .ne 7, 3) := by decide +kernel
theorem dL_typed_537 : decode cL_typed 537 = .ok (.iconst 1, 1) := by decide +kernel
theorem dL_typed_538 : decode cL_typed 538 = .ok (.goto 4, 3) := by decide +kernel
theorem dL_typed_541 : decode cL_typed 541 = .ok (.iconst 0, 1) := by decide +kernel
theorem dL_typed_542 : decode cL_typed 542 = .ok (.iastore, 1) := by decide +kernel
theorem dL_typed_543 : decode cL_typed 543 = .ok (.aload_n 3, 1) := by decide +kernel
theorem dL_typed_544 : decode cL_typed 544 = .ok (.iload 8, 2) := by decide +kernel
theorem dL_typed_546 : decode cL_typed 546 = .ok (.bipush 8, 2) := by decide +kernel
theorem dL_typed_548 : decode cL_typed 548 = .ok (.iadd, 1) := by decide +kernel
theorem dL_typed_549 : decode cL_typed 549 = .ok (.iaload, 1) := by decide +kernel
theorem dL_typed_550 : decode cL_typed 550 = .ok (.iconst 1, 1) := by decide +kernel
theorem dL_typed_551 : decode cL_typed 551 = .ok (.if_icmp .ne 93, 3) := by decide +kernel
theorem dL_typed_554 : decode cL_typed 554 = .ok (.aload_n 1, 1) := by decide +kernel
theorem dL_typed_555 : decode cL_typed 555 = .ok (.iload_n 2, 1) := by decide +kernel
theorem dL_typed_556 : decode cL_typed 556 = .ok (.bipush 8, 2) := by decide +kernel
theorem dL_typed_558 : decode cL_typed 558 = .ok (.iadd, 1) := by decide +kernel
theorem dL_typed_559 : decode cL_typed 559 = .ok (.iload 6, 2) := by decide +kernel
theorem dL_typed_561 : decode cL_typed 561 = .ok (.iadd, 1) := by decide +kernel
theorem dL_typed_562 : decode cL_typed 562 = .ok (.invokestatic 35, 3) := by decide +kernel
theorem dL_typed_565 : decode cL_typed 565 = .ok (.istore 9, 2) := by decide +kernel
theorem dL_typed_567 : decode cL_typed 567 = .ok (.aload_n 3, 1) := by decide +kernel
theorem dL_typed_568 : decode cL_typed 568 = .ok (.iload 8, 2) := by decide +kernel
theorem dL_typed_570 : decode cL_typed 570 = .ok (.bipush 9, 2) := by decide +kernel
theorem dL_typed_572 : decode cL_typed 572 = .ok (.iadd, 1) := by decide +kernel
theorem dL_typed_573 : decode cL_typed 573 = .ok (.iload 9, 2) := by decide +kernel
theorem dL_typed_575 : decode cL_typed 575 = .ok (.bipush 6, 2) := by decide +kernel
theorem dL_typed_577 : decode cL_typed 577 = .ok (.invokestatic 31, 3) := by decide +kernel
theorem dL_typed_580 : decode cL_typed 580 = .ok (.iastore, 1) := by decide +kernel
theorem dL_typed_581 : decode cL_typed 581 = .ok (.aload_n 3, 1) := by decide +kernel
theorem dL_typed_582 : decode cL_typed 582 = .ok (.iload 8, 2) := by decide +kernel
theorem dL_typed_584 : decode cL_typed 584 = .ok (.bipush 10, 2) := by decide +kernel
theorem dL_typed_586 : decode cL_typed 586 = .ok (.iadd, 1) := by decide +kernel
theorem dL_typed_587 : decode cL_typed 587 = .ok (.iload 9, 2) := by decide +kernel
theorem dL_typed_589 : decode cL_typed 589 = .ok (.iconst 3, 1) := by decide +kernel
theorem dL_typed_590 : decode cL_typed 590 = .ok (.ishr, 1) := by decide +kernel
theorem dL_typed_591 : decode cL_typed 591 = .ok (.iconst 3, 1) := by decide +kernel
theorem dL_typed_592 : decode cL_typed 592 = .ok (.invokestatic 31, 3) := by decide +kernel
theorem dL_typed_595 : decode cL_typed 595 = .ok (.iastore, 1) := by decide +kernel
theorem dL_typed_596 : decode cL_typed 596 = .ok (.aload_n 3, 1) := by decide +kernel
theorem dL_typed_597 : decode cL_typed 597 = .ok (.iload 8, 2) := by decide +kernel
theorem dL_typed_599 : decode cL_typed 599 = .ok (.bipush 11, 2) := by decide +kernel
theorem dL_typed_601 : decode cL_typed 601 = .ok (.iadd, 1) := by decide +kernel
theorem dL_typed_602 : decode cL_typed 602 = .ok (.iload 9, 2) := by decide +kernel
theorem dL_typed_604 : decode cL_typed 604 = .ok (.iconst 5, 1) := by decide +kernel
theorem dL_typed_605 : decode cL_typed 605 = .ok (.ishr, 1) := by decide +kernel
theorem dL_typed_606 : decode cL_typed 606 = .ok (.bipush 6, 2) := by decide +kernel
theorem dL_typed_608 : decode cL_typed 608 = .ok (.invokestatic 41, 3) := by decide +kernel
theorem dL_typed_611 : decode cL_typed 611 = .ok (.iastore, 1) := by decide +kernel
theorem dL_typed_612 : decode cL_typed 612 = .ok (.aload_n 0, 1) := by decide +kernel
theorem dL_typed_613 : decode cL_typed 613 = .ok (.ldc2_w 58, 3) := by decide +kernel
theorem dL_typed_616 : decode cL_typed 616 = .ok (.invokestatic 24, 3) := by decide +kernel
theorem dL_typed_619 : decode cL_typed 619 = .ok (.aload_n 0, 1) := by decide +kernel
theorem dL_typed_620 : decode cL_typed 620 = .ok (.aload_n 3, 1) := by decide +kernel
theorem dL_typed_621 : decode cL_typed 621 = .ok (.iload 8, 2) := by decide +kernel
theorem dL_typed_623 : decode cL_typed 623 = .ok (.bipush 9, 2) := by decide +kernel
theorem dL_typed_625 : decode cL_typed 625 = .ok (.iadd, 1) := by decide +kernel
theorem dL_typed_626 : decode cL_typed 626 = .ok (.iaload, 1) := by decide +kernel
theorem dL_typed_627 : decode cL_typed 627 = .ok (.aload_n 3, 1) := by decide +kernel
theorem dL_typed_628 : decode cL_typed 628 = .ok (.iload 8, 2) := by decide +kernel
theorem dL_typed_630 : decode cL_typed 630 = .ok (.bipush 10, 2) := by decide +kernel
theorem dL_typed_632 : decode cL_typed 632 = .ok (.iadd, 1) := by decide +kernel
theorem dL_typed_633 : decode cL_typed 633 = .ok (.iaload, 1) := by decide +kernel
theorem dL_typed_634 : decode cL_typed 634 = .ok (.aload_n 3, 1) := by decide +kernel
theorem dL_typed_635 : decode cL_typed 635 = .ok (.iload 8, 2) := by decide +kernel
theorem dL_typed_637 : decode cL_typed 637 = .ok (.bipush 11, 2) := by decide +kernel
theorem dL_typed_639 : decode cL_typed 639 = .ok (.iadd, 1) := by decide +kernel
theorem dL_typed_640 : decode cL_typed 640 = .ok (.iaload, 1) := by decide +kernel
theorem dL_typed_641 : decode cL_typed 641 = .ok (.invokestatic 48, 3) := by decide +kernel
theorem dL_typed_644 : decode cL_typed 644 = .ok (.aload_n 0, 1) := by decide +kernel
theorem dL_typed_645 : decode cL_typed 645 = .ok (.bipush 59, 2) := by decide +kernel
theorem dL_typed_647 : decode cL_typed 647 = .ok (.invokevirtual 10, 3) := by decide +kernel
theorem dL_typed_650 : decode cL_typed 650 = .ok (.pop, 1) := by decide +kernel
theorem dL_typed_651 : decode cL_typed 651 = .ok (.iinc 6 1, 3) := by decide +kernel
theorem dL_typed_654 : decode cL_typed 654 = .ok (.goto (-417), 3) := by decide +kernel
theorem dL_typed_657 : decode cL_typed 657 = .ok (.aload_n 3, 1) := by decide +kernel
theorem dL_typed_658 : decode cL_typed 658 = .ok (.bipush 7, 2) := by decide +kernel
theorem dL_typed_660 : decode cL_typed 660 = .ok (.iaload, 1) := by decide +kernel
theorem dL_typed_661 : decode cL_typed 661 = .ok (.ireturn, 1) := by decide +kernel
set_option maxRecDepth 20000 in
theorem ggL_tale_X11_methodCount : GoodIn wsL_tale wsX11_methodCount := goodIn_r _ [15, 16, 17, 18, 19, 20, 21, 22, 235, 236, 237, 238, 239, 240, 241, 242, 243, 244, 245, 246, 247, 248, 249, 250, 251, 252, 253, 254, 255, 256, 257, 258, 259, 260, 261] (by decide +kernel) (by decide +kernel)
set_option maxRecDepth 20000 in
theorem gL_tale_X11_methodCount : GoodIn wsL_tale (wsV RL 68 RX11 yX11_methodCount wsX11_methodCount) := goodIn_app (goodIn_of _ (by decide +kernel)) ggL_tale_X11_methodCount
set_option maxRecDepth 20000 in
theorem ggL_tale_X11_openPairs : GoodIn wsL_tale wsX11_openPairs := goodIn_r _ [26, 16, 27, 28, 29, 30, 31, 32, 33, 34, 35, 36, 37, 38, 39, 40, 41, 42, 43, 44, 45, 18, 19, 20, 21, 22, 235, 236, 237, 238, 239, 240, 241, 242, 243, 244, 245, 246, 247, 248, 249, 250, 251, 252, 253, 254, 255, 262, 263, 256, 257, 258, 259, 260, 261] (by decide +kernel) (by decide +kernel)
set_option maxRecDepth 20000 in
theorem gL_tale_X11_openPairs : GoodIn wsL_tale (wsV RL 74 RX11 yX11_openPairs wsX11_openPairs) := goodIn_app (goodIn_of _ (by decide +kernel)) ggL_tale_X11_openPairs
set_option maxRecDepth 20000 in
theorem ggL_tale_X11_skippedPairs : GoodIn wsL_tale wsX11_skippedPairs := goodIn_r _ [49, 16, 235, 236, 237, 238, 239, 240, 241, 242, 243, 244, 245, 246, 247, 248, 249, 250, 251, 252, 253, 254, 255] (by decide +kernel) (by decide +kernel)
set_option maxRecDepth 20000 in
theorem gL_tale_X11_skippedPairs : GoodIn wsL_tale (wsV RL 79 RX11 yX11_skippedPairs wsX11_skippedPairs) := goodIn_app (goodIn_of _ (by decide +kernel)) ggL_tale_X11_skippedPairs
set_option maxRecDepth 20000 in
theorem ggL_tale_X11_redundantPairs : GoodIn wsL_tale wsX11_redundantPairs := goodIn_r _ [53, 16, 235, 236, 237, 238, 239, 240, 241, 242, 243, 244, 245, 246, 247, 248, 249, 250, 251, 252, 253, 254, 255] (by decide +kernel) (by decide +kernel)
set_option maxRecDepth 20000 in
theorem gL_tale_X11_redundantPairs : GoodIn wsL_tale (wsV RL 84 RX11 yX11_redundantPairs wsX11_redundantPairs) := goodIn_app (goodIn_of _ (by decide +kernel)) ggL_tale_X11_redundantPairs
set_option maxRecDepth 20000 in
theorem ggL_tale_X11_droppedPairs : GoodIn wsL_tale wsX11_droppedPairs := goodIn_r _ [57, 16, 235, 236, 237, 238, 239, 240, 241, 242, 243, 244, 245, 246, 247, 248, 249, 250, 251, 252, 253, 254, 255] (by decide +kernel) (by decide +kernel)
set_option maxRecDepth 20000 in
theorem gL_tale_X11_droppedPairs : GoodIn wsL_tale (wsV RL 89 RX11 yX11_droppedPairs wsX11_droppedPairs) := goodIn_app (goodIn_of _ (by decide +kernel)) ggL_tale_X11_droppedPairs
set_option maxRecDepth 20000 in
theorem ggL_tale_X11_complexity : GoodIn wsL_tale wsX11_complexity := goodIn_r _ [61, 16, 62, 63, 64, 65, 66, 67, 68, 69, 18, 19, 20, 21, 22, 70, 71, 72, 73, 74, 75, 76, 77, 78, 79, 80, 81, 82, 83, 84, 85, 86, 87, 88, 89, 90, 91, 92, 93, 94, 95, 96, 97, 235, 236, 237, 238, 239, 240, 241, 242, 243, 244, 245, 246, 247, 248, 249, 250, 251, 252, 253, 254, 255, 256, 257, 258, 259, 260, 261, 264, 265, 266, 267, 268, 269, 270] (by decide +kernel) (by decide +kernel)
set_option maxRecDepth 20000 in
theorem gL_tale_X11_complexity : GoodIn wsL_tale (wsV RL 94 RX11 yX11_complexity wsX11_complexity) := goodIn_app (goodIn_of _ (by decide +kernel)) ggL_tale_X11_complexity
set_option maxRecDepth 20000 in
theorem ggL_tale_X11_poolSize : GoodIn wsL_tale wsX11_poolSize := goodIn_r _ [101, 16, 235, 236, 237, 238, 239, 240, 241, 242, 243, 244, 245, 246, 247, 248, 249, 250, 251, 252, 253, 254, 255] (by decide +kernel) (by decide +kernel)
set_option maxRecDepth 20000 in
theorem gL_tale_X11_poolSize : GoodIn wsL_tale (wsV RL 97 RX11 yX11_poolSize wsX11_poolSize) := goodIn_app (goodIn_of _ (by decide +kernel)) ggL_tale_X11_poolSize
set_option maxRecDepth 20000 in
theorem ggL_tale_X11_sequenceLength : GoodIn wsL_tale wsX11_sequenceLength := goodIn_r _ [105, 16, 106, 41, 42, 30, 43, 44, 235, 236, 237, 238, 239, 240, 241, 242, 243, 244, 245, 246, 247, 248, 249, 250, 251, 252, 253, 254, 255, 262, 263] (by decide +kernel) (by decide +kernel)
set_option maxRecDepth 20000 in
theorem gL_tale_X11_sequenceLength : GoodIn wsL_tale (wsV RL 102 RX11 yX11_sequenceLength wsX11_sequenceLength) := goodIn_app (goodIn_of _ (by decide +kernel)) ggL_tale_X11_sequenceLength
set_option maxRecDepth 20000 in
theorem ggL_tale_X11_sequenceCall : GoodIn wsL_tale wsX11_sequenceCall := goodIn_r _ [110, 16, 106, 41, 42, 30, 43, 44, 111, 112, 113, 114, 115, 116, 117, 235, 236, 237, 238, 239, 240, 241, 242, 243, 244, 245, 246, 247, 248, 249, 250, 251, 252, 253, 254, 255, 262, 263] (by decide +kernel) (by decide +kernel)
set_option maxRecDepth 20000 in
theorem gL_tale_X11_sequenceCall : GoodIn wsL_tale (wsV RL 107 RX11 yX11_sequenceCall wsX11_sequenceCall) := goodIn_app (goodIn_of _ (by decide +kernel)) ggL_tale_X11_sequenceCall
set_option maxRecDepth 20000 in
theorem ggL_tale_X11_enabledMethods : GoodIn wsL_tale wsX11_enabledMethods := goodIn_r _ [121, 16, 106, 41, 42, 30, 43, 44, 17, 18, 19, 20, 21, 22, 122, 123, 124, 66, 125, 68, 126, 127, 64, 65, 67, 69, 128, 71, 72, 73, 74, 75, 76, 77, 78, 79, 80, 81, 82, 83, 84, 85, 86, 129, 130, 131, 132, 133, 134, 135, 136, 137, 138, 139, 140, 141, 142, 143, 144, 145, 146, 147, 235, 236, 237, 238, 239, 240, 241, 242, 243, 244, 245, 246, 247, 248, 249, 250, 251, 252, 253, 254, 255, 256, 257, 258, 259, 260, 261, 264, 265, 266, 271, 272, 273, 274, 275, 276, 277, 278] (by decide +kernel) (by decide +kernel)
set_option maxRecDepth 20000 in
theorem gL_tale_X11_enabledMethods : GoodIn wsL_tale (wsV RL 110 RX11 yX11_enabledMethods wsX11_enabledMethods) := goodIn_app (goodIn_of _ (by decide +kernel)) ggL_tale_X11_enabledMethods
set_option maxRecDepth 20000 in
theorem ggL_tale_X11_finalValue : GoodIn wsL_tale wsX11_finalValue := goodIn_r _ [151, 16, 106, 41, 42, 30, 43, 44, 152, 153, 154, 155, 156, 157, 158, 159, 235, 236, 237, 238, 239, 240, 241, 242, 243, 244, 245, 246, 247, 248, 249, 250, 251, 252, 253, 254, 255, 276, 277, 278] (by decide +kernel) (by decide +kernel)
set_option maxRecDepth 20000 in
theorem gL_tale_X11_finalValue : GoodIn wsL_tale (wsV RL 115 RX11 yX11_finalValue wsX11_finalValue) := goodIn_app (goodIn_of _ (by decide +kernel)) ggL_tale_X11_finalValue
set_option maxRecDepth 20000 in
theorem ggL_tale_X11_failureCount : GoodIn wsL_tale wsX11_failureCount := goodIn_r _ [163, 16, 235, 236, 237, 238, 239, 240, 241, 242, 243, 244, 245, 246, 247, 248, 249, 250, 251, 252, 253, 254, 255] (by decide +kernel) (by decide +kernel)
set_option maxRecDepth 20000 in
theorem gL_tale_X11_failureCount : GoodIn wsL_tale (wsV RL 118 RX11 yX11_failureCount wsX11_failureCount) := goodIn_app (goodIn_of _ (by decide +kernel)) ggL_tale_X11_failureCount
set_option maxRecDepth 20000 in
theorem ggL_tale_X11_failureLength : GoodIn wsL_tale wsX11_failureLength := goodIn_r _ [167, 16, 168, 169, 170, 30, 171, 172, 235, 236, 237, 238, 239, 240, 241, 242, 243, 244, 245, 246, 247, 248, 249, 250, 251, 252, 253, 254, 255, 262, 263] (by decide +kernel) (by decide +kernel)
set_option maxRecDepth 20000 in
theorem gL_tale_X11_failureLength : GoodIn wsL_tale (wsV RL 123 RX11 yX11_failureLength wsX11_failureLength) := goodIn_app (goodIn_of _ (by decide +kernel)) ggL_tale_X11_failureLength
set_option maxRecDepth 20000 in
theorem ggL_tale_X11_failureVerdict : GoodIn wsL_tale wsX11_failureVerdict := goodIn_r _ [176, 16, 168, 169, 170, 30, 171, 172, 235, 236, 237, 238, 239, 240, 241, 242, 243, 244, 245, 246, 247, 248, 249, 250, 251, 252, 253, 254, 255] (by decide +kernel) (by decide +kernel)
set_option maxRecDepth 20000 in
theorem gL_tale_X11_failureVerdict : GoodIn wsL_tale (wsV RL 128 RX11 yX11_failureVerdict wsX11_failureVerdict) := goodIn_app (goodIn_of _ (by decide +kernel)) ggL_tale_X11_failureVerdict
set_option maxRecDepth 20000 in
theorem ggL_tale_X11_minimizedLength : GoodIn wsL_tale wsX11_minimizedLength := goodIn_r _ [180, 16, 181, 168, 169, 170, 30, 171, 172, 182, 183, 184, 14, 185, 186, 187, 188, 114, 189, 190, 191, 192, 193, 116, 194, 112, 113, 115, 117, 195, 196, 197, 198, 199, 200, 201, 202, 203, 204, 205, 206, 207, 208, 209, 210, 211, 212, 213, 155, 214, 157, 158, 159, 111, 215, 216, 217, 66, 218, 68, 126, 219, 220, 127, 64, 65, 67, 69, 18, 19, 20, 21, 22, 128, 71, 72, 73, 74, 75, 76, 77, 78, 79, 80, 81, 82, 83, 84, 85, 86, 129, 130, 131, 132, 133, 134, 135, 136, 137, 138, 139, 140, 141, 142, 143, 144, 145, 146, 147, 221, 222, 223, 224, 225, 226, 227, 228, 229, 230, 231, 232, 233, 234, 235, 236, 237, 238, 239, 240, 241, 242, 243, 244, 245, 246, 247, 248, 249, 250, 251, 252, 253, 254, 255, 262, 263, 256, 257, 258, 276, 277, 278, 264, 265, 266, 267, 268, 269, 270, 259, 260, 261, 271, 272, 273, 274, 275] (by decide +kernel) (by decide +kernel)
set_option maxRecDepth 20000 in
theorem gL_tale_X11_minimizedLength : GoodIn wsL_tale (wsV RL 131 RX11 yX11_minimizedLength wsX11_minimizedLength) := goodIn_app (goodIn_of _ (by decide +kernel)) ggL_tale_X11_minimizedLength
theorem dL_tale_0 : decode cL_tale 0 = .ok (.aload_n 0, 1) := by decide +kernel
theorem dL_tale_1 : decode cL_tale 1 = .ok (.invokevirtual 68, 3) := by decide +kernel
theorem dL_tale_4 : decode cL_tale 4 = .ok (.i2l, 1) := by decide +kernel
theorem dL_tale_5 : decode cL_tale 5 = .ok (.ldc2_w 72, 3) := by decide +kernel
theorem dL_tale_8 : decode cL_tale 8 = .ok (.lmul, 1) := by decide +kernel
theorem dL_tale_9 : decode cL_tale 9 = .ok (.aload_n 0, 1) := by decide +kernel
theorem dL_tale_10 : decode cL_tale 10 = .ok (.invokevirtual 74, 3) := by decide +kernel
theorem dL_tale_13 : decode cL_tale 13 = .ok (.i2l, 1) := by decide +kernel
theorem dL_tale_14 : decode cL_tale 14 = .ok (.ldc2_w 77, 3) := by decide +kernel
theorem dL_tale_17 : decode cL_tale 17 = .ok (.lmul, 1) := by decide +kernel
theorem dL_tale_18 : decode cL_tale 18 = .ok (.ladd, 1) := by decide +kernel
theorem dL_tale_19 : decode cL_tale 19 = .ok (.aload_n 0, 1) := by decide +kernel
theorem dL_tale_20 : decode cL_tale 20 = .ok (.invokevirtual 79, 3) := by decide +kernel
theorem dL_tale_23 : decode cL_tale 23 = .ok (.i2l, 1) := by decide +kernel
theorem dL_tale_24 : decode cL_tale 24 = .ok (.ldc2_w 82, 3) := by decide +kernel
theorem dL_tale_27 : decode cL_tale 27 = .ok (.lmul, 1) := by decide +kernel
theorem dL_tale_28 : decode cL_tale 28 = .ok (.ladd, 1) := by decide +kernel
theorem dL_tale_29 : decode cL_tale 29 = .ok (.aload_n 0, 1) := by decide +kernel
theorem dL_tale_30 : decode cL_tale 30 = .ok (.invokevirtual 84, 3) := by decide +kernel
theorem dL_tale_33 : decode cL_tale 33 = .ok (.i2l, 1) := by decide +kernel
theorem dL_tale_34 : decode cL_tale 34 = .ok (.ldc2_w 87, 3) := by decide +kernel
theorem dL_tale_37 : decode cL_tale 37 = .ok (.lmul, 1) := by decide +kernel
theorem dL_tale_38 : decode cL_tale 38 = .ok (.ladd, 1) := by decide +kernel
theorem dL_tale_39 : decode cL_tale 39 = .ok (.aload_n 0, 1) := by decide +kernel
theorem dL_tale_40 : decode cL_tale 40 = .ok (.invokevirtual 89, 3) := by decide +kernel
theorem dL_tale_43 : decode cL_tale 43 = .ok (.i2l, 1) := by decide +kernel
theorem dL_tale_44 : decode cL_tale 44 = .ok (.ladd, 1) := by decide +kernel
theorem dL_tale_45 : decode cL_tale 45 = .ok (.lstore_n 1, 1) := by decide +kernel
theorem dL_tale_46 : decode cL_tale 46 = .ok (.iconst 0, 1) := by decide +kernel
theorem dL_tale_47 : decode cL_tale 47 = .ok (.istore_n 3, 1) := by decide +kernel
theorem dL_tale_48 : decode cL_tale 48 = .ok (.iload_n 3, 1) := by decide +kernel
theorem dL_tale_49 : decode cL_tale 49 = .ok (.bipush 6, 2) := by decide +kernel
theorem dL_tale_51 : decode cL_tale 51 = .ok (.if_icmp .ge 22, 3) := by decide +kernel
theorem dL_tale_54 : decode cL_tale 54 = .ok (.lload_n 1, 1) := by decide +kernel
theorem dL_tale_55 : decode cL_tale 55 = .ok (.ldc2_w 92, 3) := by decide +kernel
theorem dL_tale_58 : decode cL_tale 58 = .ok (.lmul, 1) := by decide +kernel
theorem dL_tale_59 : decode cL_tale 59 = .ok (.aload_n 0, 1) := by decide +kernel
theorem dL_tale_60 : decode cL_tale 60 = .ok (.iload_n 3, 1) := by decide +kernel
theorem dL_tale_61 : decode cL_tale 61 = .ok (.invokevirtual 94, 3) := by decide +kernel
theorem dL_tale_64 : decode cL_tale 64 = .ok (.i2l, 1) := by decide +kernel
theorem dL_tale_65 : decode cL_tale 65 = .ok (.ladd, 1) := by decide +kernel
theorem dL_tale_66 : decode cL_tale 66 = .ok (.lstore_n 1, 1) := by decide +kernel
theorem dL_tale_67 : decode cL_tale 67 = .ok (.iinc 3 1, 3) := by decide +kernel
theorem dL_tale_70 : decode cL_tale 70 = .ok (.goto (-22), 3) := by decide +kernel
theorem dL_tale_73 : decode cL_tale 73 = .ok (.iconst 0, 1) := by decide +kernel
theorem dL_tale_74 : decode cL_tale 74 = .ok (.istore_n 3, 1) := by decide +kernel
theorem dL_tale_75 : decode cL_tale 75 = .ok (.iload_n 3, 1) := by decide +kernel
theorem dL_tale_76 : decode cL_tale 76 = .ok (.aload_n 0, 1) := by decide +kernel
theorem dL_tale_77 : decode cL_tale 77 = .ok (.invokevirtual 97, 3) := by decide +kernel
theorem dL_tale_80 : decode cL_tale 80 = .ok (.if_icmp .ge 83, 3) := by decide +kernel
theorem dL_tale_83 : decode cL_tale 83 = .ok (.lload_n 1, 1) := by decide +kernel
theorem dL_tale_84 : decode cL_tale 84 = .ok (.ldc2_w 100, 3) := by decide +kernel
theorem dL_tale_87 : decode cL_tale 87 = .ok (.lmul, 1) := by decide +kernel
theorem dL_tale_88 : decode cL_tale 88 = .ok (.aload_n 0, 1) := by decide +kernel
theorem dL_tale_89 : decode cL_tale 89 = .ok (.iload_n 3, 1) := by decide +kernel
theorem dL_tale_90 : decode cL_tale 90 = .ok (.invokevirtual 102, 3) := by decide +kernel
theorem dL_tale_93 : decode cL_tale 93 = .ok (.i2l, 1) := by decide +kernel
theorem dL_tale_94 : decode cL_tale 94 = .ok (.ldc2_w 105, 3) := by decide +kernel
theorem dL_tale_97 : decode cL_tale 97 = .ok (.lmul, 1) := by decide +kernel
theorem dL_tale_98 : decode cL_tale 98 = .ok (.ladd, 1) := by decide +kernel
theorem dL_tale_99 : decode cL_tale 99 = .ok (.aload_n 0, 1) := by decide +kernel
theorem dL_tale_100 : decode cL_tale 100 = .ok (.iload_n 3, 1) := by decide +kernel
theorem dL_tale_101 : decode cL_tale 101 = .ok (.aload_n 0, 1) := by decide +kernel
theorem dL_tale_102 : decode cL_tale 102 = .ok (.iload_n 3, 1) := by decide +kernel
theorem dL_tale_103 : decode cL_tale 103 = .ok (.invokevirtual 102, 3) := by decide +kernel
theorem dL_tale_106 : decode cL_tale 106 = .ok (.invokevirtual 107, 3) := by decide +kernel
theorem dL_tale_109 : decode cL_tale 109 = .ok (.i2l, 1) := by decide +kernel
theorem dL_tale_110 : decode cL_tale 110 = .ok (.ladd, 1) := by decide +kernel
theorem dL_tale_111 : decode cL_tale 111 = .ok (.aload_n 0, 1) := by decide +kernel
theorem dL_tale_112 : decode cL_tale 112 = .ok (.iload_n 3, 1) := by decide +kernel
theorem dL_tale_113 : decode cL_tale 113 = .ok (.invokevirtual 110, 3) := by decide +kernel
theorem dL_tale_116 : decode cL_tale 116 = .ok (.i2l, 1) := by decide +kernel
theorem dL_tale_117 : decode cL_tale 117 = .ok (.ladd, 1) := by decide +kernel
theorem dL_tale_118 : decode cL_tale 118 = .ok (.lstore_n 1, 1) := by decide +kernel
theorem dL_tale_119 : decode cL_tale 119 = .ok (.lload_n 1, 1) := by decide +kernel
theorem dL_tale_120 : decode cL_tale 120 = .ok (.ldc2_w 113, 3) := by decide +kernel
theorem dL_tale_123 : decode cL_tale 123 = .ok (.lmul, 1) := by decide +kernel
theorem dL_tale_124 : decode cL_tale 124 = .ok (.aload_n 0, 1) := by decide +kernel
theorem dL_tale_125 : decode cL_tale 125 = .ok (.iload_n 3, 1) := by decide +kernel
theorem dL_tale_126 : decode cL_tale 126 = .ok (.iconst 0, 1) := by decide +kernel
theorem dL_tale_127 : decode cL_tale 127 = .ok (.invokevirtual 115, 3) := by decide +kernel
theorem dL_tale_130 : decode cL_tale 130 = .ok (.i2l, 1) := by decide +kernel
theorem dL_tale_131 : decode cL_tale 131 = .ok (.ldc2_w 77, 3) := by decide +kernel
theorem dL_tale_134 : decode cL_tale 134 = .ok (.lmul, 1) := by decide +kernel
theorem dL_tale_135 : decode cL_tale 135 = .ok (.ladd, 1) := by decide +kernel
theorem dL_tale_136 : decode cL_tale 136 = .ok (.aload_n 0, 1) := by decide +kernel
theorem dL_tale_137 : decode cL_tale 137 = .ok (.iload_n 3, 1) := by decide +kernel
theorem dL_tale_138 : decode cL_tale 138 = .ok (.iconst 1, 1) := by decide +kernel
theorem dL_tale_139 : decode cL_tale 139 = .ok (.invokevirtual 115, 3) := by decide +kernel
theorem dL_tale_142 : decode cL_tale 142 = .ok (.i2l, 1) := by decide +kernel
theorem dL_tale_143 : decode cL_tale 143 = .ok (.ldc2_w 82, 3) := by decide +kernel
theorem dL_tale_146 : decode cL_tale 146 = .ok (.lmul, 1) := by decide +kernel
theorem dL_tale_147 : decode cL_tale 147 = .ok (.ladd, 1) := by decide +kernel
theorem dL_tale_148 : decode cL_tale 148 = .ok (.aload_n 0, 1) := by decide +kernel
theorem dL_tale_149 : decode cL_tale 149 = .ok (.iload_n 3, 1) := by decide +kernel
theorem dL_tale_150 : decode cL_tale 150 = .ok (.iconst 2, 1) := by decide +kernel
theorem dL_tale_151 : decode cL_tale 151 = .ok (.invokevirtual 115, 3) := by decide +kernel
theorem dL_tale_154 : decode cL_tale 154 = .ok (.i2l, 1) := by decide +kernel
theorem dL_tale_155 : decode cL_tale 155 = .ok (.ladd, 1) := by decide +kernel
theorem dL_tale_156 : decode cL_tale 156 = .ok (.lstore_n 1, 1) := by decide +kernel
theorem dL_tale_157 : decode cL_tale 157 = .ok (.iinc 3 1, 3) := by decide +kernel
theorem dL_tale_160 : decode cL_tale 160 = .ok (.goto (-85), 3) := by decide +kernel
theorem dL_tale_163 : decode cL_tale 163 = .ok (.iconst 0, 1) := by decide +kernel
theorem dL_tale_164 : decode cL_tale 164 = .ok (.istore_n 3, 1) := by decide +kernel
theorem dL_tale_165 : decode cL_tale 165 = .ok (.iload_n 3, 1) := by decide +kernel
theorem dL_tale_166 : decode cL_tale 166 = .ok (.aload_n 0, 1) := by decide +kernel
theorem dL_tale_167 : decode cL_tale 167 = .ok (.invokevirtual 118, 3) := by decide +kernel
theorem dL_tale_170 : decode cL_tale 170 = .ok (.if_icmp .ge 44, 3) := by decide +kernel
theorem dL_tale_173 : decode cL_tale 173 = .ok (.lload_n 1, 1) := by decide +kernel
theorem dL_tale_174 : decode cL_tale 174 = .ok (.ldc2_w 121, 3) := by decide +kernel
theorem dL_tale_177 : decode cL_tale 177 = .ok (.lmul, 1) := by decide +kernel
theorem dL_tale_178 : decode cL_tale 178 = .ok (.aload_n 0, 1) := by decide +kernel
theorem dL_tale_179 : decode cL_tale 179 = .ok (.iload_n 3, 1) := by decide +kernel
theorem dL_tale_180 : decode cL_tale 180 = .ok (.invokevirtual 123, 3) := by decide +kernel
theorem dL_tale_183 : decode cL_tale 183 = .ok (.i2l, 1) := by decide +kernel
theorem dL_tale_184 : decode cL_tale 184 = .ok (.ldc2_w 126, 3) := by decide +kernel
theorem dL_tale_187 : decode cL_tale 187 = .ok (.lmul, 1) := by decide +kernel
theorem dL_tale_188 : decode cL_tale 188 = .ok (.ladd, 1) := by decide +kernel
theorem dL_tale_189 : decode cL_tale 189 = .ok (.aload_n 0, 1) := by decide +kernel
theorem dL_tale_190 : decode cL_tale 190 = .ok (.iload_n 3, 1) := by decide +kernel
theorem dL_tale_191 : decode cL_tale 191 = .ok (.invokevirtual 128, 3) := by decide +kernel
theorem dL_tale_194 : decode cL_tale 194 = .ok (.i2l, 1) := by decide +kernel
theorem dL_tale_195 : decode cL_tale 195 = .ok (.ldc2_w 87, 3) := by decide +kernel
theorem dL_tale_198 : decode cL_tale 198 = .ok (.lmul, 1) := by decide +kernel
theorem dL_tale_199 : decode cL_tale 199 = .ok (.ladd, 1) := by decide +kernel
theorem dL_tale_200 : decode cL_tale 200 = .ok (.aload_n 0, 1) := by decide +kernel
theorem dL_tale_201 : decode cL_tale 201 = .ok (.iload_n 3, 1) := by decide +kernel
theorem dL_tale_202 : decode cL_tale 202 = .ok (.invokevirtual 131, 3) := by decide +kernel
theorem dL_tale_205 : decode cL_tale 205 = .ok (.i2l, 1) := by decide +kernel
theorem dL_tale_206 : decode cL_tale 206 = .ok (.ladd, 1) := by decide +kernel
theorem dL_tale_207 : decode cL_tale 207 = .ok (.lstore_n 1, 1) := by decide +kernel
theorem dL_tale_208 : decode cL_tale 208 = .ok (.iinc 3 1, 3) := by decide +kernel
theorem dL_tale_211 : decode cL_tale 211 = .ok (.goto (-46), 3) := by decide +kernel
theorem dL_tale_214 : decode cL_tale 214 = .ok (.lload_n 1, 1) := by decide +kernel
theorem dL_tale_215 : decode cL_tale 215 = .ok (.lreturn, 1) := by decide +kernel
set_option maxRecDepth 20000 in
theorem ggL_does_L_low : GoodIn wsL_does wsL_low := goodIn_r _ [4, 5] (by decide +kernel) (by decide +kernel)
set_option maxRecDepth 20000 in
theorem gL_does_L_low : GoodIn wsL_does (va_wsS RL 31 yL_low wsL_low) := goodIn_app (goodIn_of _ (by decide +kernel)) ggL_does_L_low
set_option maxRecDepth 20000 in
theorem ggL_does_X11_setInitialValue : GoodIn wsL_does wsX11_setInitialValue := goodIn_r _ [10, 11, 12, 13, 14, 15, 16, 17, 18, 19, 20, 21, 22, 23, 24, 25, 26, 27, 28, 29, 30, 31, 32, 33, 34, 35, 36, 37, 38, 39, 40, 41, 42, 43, 44, 45, 46, 47, 48, 49, 50, 51, 52, 53, 54, 55, 56, 57, 58, 59, 60, 61, 62, 63, 64, 65, 66, 67, 68, 69, 70, 71, 72, 73, 74, 75, 76, 77, 78, 79, 80, 81, 82, 83, 84, 85, 86, 87, 88, 89, 90, 91, 92, 93, 94, 95, 96, 97, 98, 99, 100, 101, 102, 103, 104, 105, 106, 107, 108, 109, 110, 111, 112, 113, 114, 115, 116, 117, 118, 119, 120, 121, 122, 123, 124, 125, 126, 127, 128, 129, 130, 131, 132, 133, 134, 135, 136, 137, 138, 139, 140, 141, 142, 143, 144, 145, 146, 147, 148, 9, 149, 150, 151, 152, 153, 154, 155, 156, 157, 158, 159, 160, 161, 162, 163, 164, 165, 166, 167, 168, 169, 170, 171, 172, 173, 174, 175, 176, 177, 178, 179, 180, 181, 182, 183, 184, 185, 186, 187, 188, 189, 190, 191, 192, 193, 194, 195, 196, 197, 198, 199, 295, 296, 297, 298, 299, 300, 301, 302, 303, 304, 305, 306, 307, 308, 309, 310, 311, 312, 313, 314, 315, 316, 317, 318, 319, 320, 321, 322, 323, 324, 325, 326, 327, 328, 329] (by decide +kernel) (by decide +kernel)
set_option maxRecDepth 20000 in
theorem gL_does_X11_setInitialValue : GoodIn wsL_does (wsV RL 134 RX11 yX11_setInitialValue wsX11_setInitialValue) := goodIn_app (goodIn_of _ (by decide +kernel)) ggL_does_X11_setInitialValue
set_option maxRecDepth 20000 in
theorem ggL_does_X11_removeMethod : GoodIn wsL_does wsX11_removeMethod := goodIn_r _ [203, 11, 204, 205, 206, 23, 207, 34, 69, 70, 71, 46, 72, 73, 208, 27, 28, 29, 30, 31, 25, 32, 33, 35, 36, 37, 38, 39, 40, 41, 42, 43, 15, 44, 45, 47, 48, 49, 50, 51, 52, 53, 54, 55, 56, 57, 58, 59, 60, 61, 62, 63, 64, 65, 66, 67, 68, 17, 18, 19, 74, 75, 76, 77, 78, 79, 80, 81, 82, 83, 84, 85, 86, 87, 88, 89, 90, 91, 92, 93, 94, 95, 96, 97, 98, 99, 100, 101, 102, 103, 104, 105, 106, 107, 108, 109, 110, 111, 112, 113, 114, 115, 116, 117, 118, 119, 120, 121, 122, 123, 124, 125, 126, 127, 128, 129, 130, 131, 132, 133, 134, 135, 136, 137, 138, 139, 140, 141, 146, 147, 148, 9, 149, 150, 151, 152, 153, 154, 155, 156, 157, 158, 159, 160, 161, 162, 163, 164, 165, 166, 167, 168, 169, 170, 171, 172, 173, 174, 175, 176, 177, 178, 179, 180, 181, 182, 183, 184, 185, 186, 187, 188, 189, 190, 191, 192, 193, 194, 195, 196, 197, 198, 199, 209, 295, 296, 297, 298, 299, 300, 301, 302, 303, 304, 305, 306, 307, 308, 309, 310, 311, 312, 313, 314, 315, 316, 317, 318, 322, 323, 324, 319, 320, 321, 325, 326, 327, 328, 329] (by decide +kernel) (by decide +kernel)
set_option maxRecDepth 20000 in
theorem gL_does_X11_removeMethod : GoodIn wsL_does (wsV RL 137 RX11 yX11_removeMethod wsX11_removeMethod) := goodIn_app (goodIn_of _ (by decide +kernel)) ggL_does_X11_removeMethod
set_option maxRecDepth 20000 in
theorem ggL_does_X11_setMaximumLength : GoodIn wsL_does wsX11_setMaximumLength := goodIn_r _ [213, 150, 11, 151, 152, 153, 154, 155, 156, 157, 158, 159, 160, 161, 162, 163, 164, 165, 166, 167, 168, 169, 170, 171, 172, 173, 174, 175, 176, 177, 178, 179, 180, 181, 182, 183, 184, 185, 186, 187, 188, 189, 190, 191, 192, 193, 194, 195, 66, 67, 15, 68, 17, 18, 19, 295, 296, 297, 298, 299, 300, 301, 302, 303, 304, 305, 306, 307, 308, 309, 310, 311, 312, 313, 314, 315, 325, 326, 327, 328, 329, 319, 320, 321] (by decide +kernel) (by decide +kernel)
set_option maxRecDepth 20000 in
theorem gL_does_X11_setMaximumLength : GoodIn wsL_does (wsV RL 140 RX11 yX11_setMaximumLength wsX11_setMaximumLength) := goodIn_app (goodIn_of _ (by decide +kernel)) ggL_does_X11_setMaximumLength
set_option maxRecDepth 20000 in
theorem ggL_does_X11_reset : GoodIn wsL_does wsX11_reset := goodIn_r _ [217, 11, 150, 218, 219, 220, 162, 221, 168, 222, 223, 224, 225, 169, 151, 152, 153, 154, 155, 156, 157, 158, 159, 160, 161, 163, 164, 165, 166, 167, 170, 171, 172, 173, 174, 175, 176, 177, 178, 179, 180, 181, 182, 183, 184, 185, 186, 187, 188, 189, 190, 191, 192, 193, 194, 195, 66, 67, 15, 68, 17, 18, 19, 196, 197, 198, 199, 295, 296, 297, 298, 299, 300, 301, 302, 303, 304, 305, 306, 307, 308, 309, 310, 311, 312, 313, 314, 315, 325, 326, 327, 328, 329, 319, 320, 321, 316, 317, 318] (by decide +kernel) (by decide +kernel)
set_option maxRecDepth 20000 in
theorem gL_does_X11_reset : GoodIn wsL_does (wsV RL 143 RX11 yX11_reset wsX11_reset) := goodIn_app (goodIn_of _ (by decide +kernel)) ggL_does_X11_reset
set_option maxRecDepth 20000 in
theorem ggL_does_X11_explore : GoodIn wsL_does wsX11_explore := goodIn_r _ [229, 11, 150, 230, 231, 232, 162, 233, 234, 235, 236, 237, 166, 165, 164, 168, 222, 223, 224, 225, 169, 238, 70, 71, 46, 72, 73, 151, 152, 153, 154, 155, 156, 157, 158, 159, 160, 161, 163, 167, 170, 171, 172, 173, 174, 175, 176, 177, 178, 179, 180, 181, 182, 183, 184, 185, 186, 187, 188, 189, 190, 191, 192, 193, 194, 195, 66, 67, 15, 68, 17, 18, 19, 239, 240, 241, 242, 243, 244, 245, 246, 247, 23, 248, 34, 35, 249, 32, 250, 205, 206, 207, 69, 74, 75, 76, 77, 78, 79, 80, 81, 82, 83, 84, 85, 86, 87, 88, 89, 54, 251, 252, 253, 33, 254, 255, 256, 257, 258, 259, 260, 261, 262, 263, 264, 265, 266, 267, 268, 65, 269, 270, 271, 272, 273, 274, 275, 276, 277, 142, 143, 144, 145, 278, 279, 280, 281, 282, 283, 284, 285, 286, 287, 288, 289, 290, 291, 292, 293, 294, 295, 296, 297, 298, 299, 300, 301, 302, 303, 304, 305, 306, 307, 308, 309, 310, 311, 312, 313, 314, 315, 328, 329, 316, 317, 318, 322, 323, 324, 325, 326, 327, 319, 320, 321, 330, 331, 332, 333, 334, 335, 336, 337, 338, 339, 340, 341] (by decide +kernel) (by decide +kernel)
set_option maxRecDepth 20000 in
theorem gL_does_X11_explore : GoodIn wsL_does (wsV RL 146 RX11 yX11_explore wsX11_explore) := goodIn_app (goodIn_of _ (by decide +kernel)) ggL_does_X11_explore
theorem dL_does_0 : decode cL_does 0 = .ok (.iload_n 1, 1) := by decide +kernel
theorem dL_does_1 : decode cL_does 1 = .ok (.bipush 8, 2) := by decide +kernel
theorem dL_does_3 : decode cL_does 3 = .ok (.invokestatic 31, 3) := by decide +kernel
theorem dL_does_6 : decode cL_does 6 = .ok (.tableswitch 83 0 3 #[30, 53, 65, 78], 30) := by decide +kernel
theorem dL_does_36 : decode cL_does 36 = .ok (.aload_n 0, 1) := by decide +kernel
theorem dL_does_37 : decode cL_does 37 = .ok (.iload_n 1, 1) := by decide +kernel
theorem dL_does_38 : decode cL_does 38 = .ok (.iconst 3, 1) := by decide +kernel
theorem dL_does_39 : decode cL_does 39 = .ok (.ishr, 1) := by decide +kernel
theorem dL_does_40 : decode cL_does 40 = .ok (.iconst 4, 1) := by decide +kernel
theorem dL_does_41 : decode cL_does 41 = .ok (.invokestatic 31, 3) := by decide +kernel
theorem dL_does_44 : decode cL_does 44 = .ok (.iload_n 1, 1) := by decide +kernel
theorem dL_does_45 : decode cL_does 45 = .ok (.iconst 5, 1) := by decide +kernel
theorem dL_does_46 : decode cL_does 46 = .ok (.ishr, 1) := by decide +kernel
theorem dL_does_47 : decode cL_does 47 = .ok (.bipush 30, 2) := by decide +kernel
theorem dL_does_49 : decode cL_does 49 = .ok (.invokestatic 31, 3) := by decide +kernel
theorem dL_does_52 : decode cL_does 52 = .ok (.bipush 15, 2) := by decide +kernel
theorem dL_does_54 : decode cL_does 54 = .ok (.isub, 1) := by decide +kernel
theorem dL_does_55 : decode cL_does 55 = .ok (.invokevirtual 134, 3) := by decide +kernel
theorem dL_does_58 : decode cL_does 58 = .ok (.ireturn, 1) := by decide +kernel
theorem dL_does_59 : decode cL_does 59 = .ok (.aload_n 0, 1) := by decide +kernel
theorem dL_does_60 : decode cL_does 60 = .ok (.iload_n 1, 1) := by decide +kernel
theorem dL_does_61 : decode cL_does 61 = .ok (.iconst 3, 1) := by decide +kernel
theorem dL_does_62 : decode cL_does 62 = .ok (.ishr, 1) := by decide +kernel
theorem dL_does_63 : decode cL_does 63 = .ok (.iconst 5, 1) := by decide +kernel
theorem dL_does_64 : decode cL_does 64 = .ok (.invokestatic 31, 3) := by decide +kernel
theorem dL_does_67 : decode cL_does 67 = .ok (.invokevirtual 137, 3) := by decide +kernel
theorem dL_does_70 : decode cL_does 70 = .ok (.ireturn, 1) := by decide +kernel
theorem dL_does_71 : decode cL_does 71 = .ok (.aload_n 0, 1) := by decide +kernel
theorem dL_does_72 : decode cL_does 72 = .ok (.iload_n 1, 1) := by decide +kernel
theorem dL_does_73 : decode cL_does 73 = .ok (.iconst 3, 1) := by decide +kernel
theorem dL_does_74 : decode cL_does 74 = .ok (.ishr, 1) := by decide +kernel
theorem dL_does_75 : decode cL_does 75 = .ok (.bipush 9, 2) := by decide +kernel
theorem dL_does_77 : decode cL_does 77 = .ok (.invokestatic 31, 3) := by decide +kernel
theorem dL_does_80 : decode cL_does 80 = .ok (.invokevirtual 140, 3) := by decide +kernel
theorem dL_does_83 : decode cL_does 83 = .ok (.ireturn, 1) := by decide +kernel
theorem dL_does_84 : decode cL_does 84 = .ok (.aload_n 0, 1) := by decide +kernel
theorem dL_does_85 : decode cL_does 85 = .ok (.invokevirtual 143, 3) := by decide +kernel
theorem dL_does_88 : decode cL_does 88 = .ok (.ireturn, 1) := by decide +kernel
theorem dL_does_89 : decode cL_does 89 = .ok (.aload_n 0, 1) := by decide +kernel
theorem dL_does_90 : decode cL_does 90 = .ok (.iload_n 1, 1) := by decide +kernel
theorem dL_does_91 : decode cL_does 91 = .ok (.iconst 3, 1) := by decide +kernel
theorem dL_does_92 : decode cL_does 92 = .ok (.ishr, 1) := by decide +kernel
theorem dL_does_93 : decode cL_does 93 = .ok (.bipush 25, 2) := by decide +kernel
theorem dL_does_95 : decode cL_does 95 = .ok (.invokestatic 31, 3) := by decide +kernel
theorem dL_does_98 : decode cL_does 98 = .ok (.invokevirtual 146, 3) := by decide +kernel
theorem dL_does_101 : decode cL_does 101 = .ok (.ireturn, 1) := by decide +kernel
set_option maxRecDepth 20000 in
theorem ggL_isCounted_X11_poolSize : GoodIn wsL_isCounted wsX11_poolSize := goodIn_r _ [5, 6, 86, 87, 88, 89, 90, 91, 92, 93, 94, 95, 96, 97, 98, 99, 100, 101, 102, 103, 104, 105, 106] (by decide +kernel) (by decide +kernel)
set_option maxRecDepth 20000 in
theorem gL_isCounted_X11_poolSize : GoodIn wsL_isCounted (wsV RL 97 RX11 yX11_poolSize wsX11_poolSize) := goodIn_app (goodIn_of _ (by decide +kernel)) ggL_isCounted_X11_poolSize
set_option maxRecDepth 20000 in
theorem ggL_isCounted_X11_methodCount : GoodIn wsL_isCounted wsX11_methodCount := goodIn_r _ [10, 6, 11, 12, 13, 14, 15, 16, 86, 87, 88, 89, 90, 91, 92, 93, 94, 95, 96, 97, 98, 99, 100, 101, 102, 103, 104, 105, 106, 107, 108, 109, 110, 111, 112] (by decide +kernel) (by decide +kernel)
set_option maxRecDepth 20000 in
theorem gL_isCounted_X11_methodCount : GoodIn wsL_isCounted (wsV RL 68 RX11 yX11_methodCount wsX11_methodCount) := goodIn_app (goodIn_of _ (by decide +kernel)) ggL_isCounted_X11_methodCount
set_option maxRecDepth 20000 in
theorem ggL_isCounted_X11_failureCount : GoodIn wsL_isCounted wsX11_failureCount := goodIn_r _ [20, 6, 86, 87, 88, 89, 90, 91, 92, 93, 94, 95, 96, 97, 98, 99, 100, 101, 102, 103, 104, 105, 106] (by decide +kernel) (by decide +kernel)
set_option maxRecDepth 20000 in
theorem gL_isCounted_X11_failureCount : GoodIn wsL_isCounted (wsV RL 118 RX11 yX11_failureCount wsX11_failureCount) := goodIn_app (goodIn_of _ (by decide +kernel)) ggL_isCounted_X11_failureCount
set_option maxRecDepth 20000 in
theorem ggL_isCounted_X11_sequenceLength : GoodIn wsL_isCounted wsX11_sequenceLength := goodIn_r _ [24, 6, 25, 26, 27, 28, 29, 30, 86, 87, 88, 89, 90, 91, 92, 93, 94, 95, 96, 97, 98, 99, 100, 101, 102, 103, 104, 105, 106, 113, 114] (by decide +kernel) (by decide +kernel)
set_option maxRecDepth 20000 in
theorem gL_isCounted_X11_sequenceLength : GoodIn wsL_isCounted (wsV RL 102 RX11 yX11_sequenceLength wsX11_sequenceLength) := goodIn_app (goodIn_of _ (by decide +kernel)) ggL_isCounted_X11_sequenceLength
set_option maxRecDepth 20000 in
theorem ggL_isCounted_X11_finalValue : GoodIn wsL_isCounted wsX11_finalValue := goodIn_r _ [34, 6, 25, 26, 27, 28, 29, 30, 35, 36, 37, 38, 39, 40, 41, 42, 86, 87, 88, 89, 90, 91, 92, 93, 94, 95, 96, 97, 98, 99, 100, 101, 102, 103, 104, 105, 106, 115, 116, 117] (by decide +kernel) (by decide +kernel)
set_option maxRecDepth 20000 in
theorem gL_isCounted_X11_finalValue : GoodIn wsL_isCounted (wsV RL 115 RX11 yX11_finalValue wsX11_finalValue) := goodIn_app (goodIn_of _ (by decide +kernel)) ggL_isCounted_X11_finalValue
set_option maxRecDepth 20000 in
theorem ggL_isCounted_X11_findState : GoodIn wsL_isCounted wsX11_findState := goodIn_r _ [46, 6, 47, 48, 49, 28, 50, 51, 52, 26, 27, 29, 30, 53, 54, 55, 38, 56, 40, 41, 42, 86, 87, 88, 89, 90, 91, 92, 93, 94, 95, 96, 97, 98, 99, 100, 101, 102, 103, 104, 105, 106, 115, 116, 117] (by decide +kernel) (by decide +kernel)
set_option maxRecDepth 20000 in
theorem gL_isCounted_X11_findState : GoodIn wsL_isCounted (wsV RL 149 RX11 yX11_findState wsX11_findState) := goodIn_app (goodIn_of _ (by decide +kernel)) ggL_isCounted_X11_findState
set_option maxRecDepth 20000 in
theorem ggL_isCounted_X11_skippedPairs : GoodIn wsL_isCounted wsX11_skippedPairs := goodIn_r _ [60, 6, 86, 87, 88, 89, 90, 91, 92, 93, 94, 95, 96, 97, 98, 99, 100, 101, 102, 103, 104, 105, 106] (by decide +kernel) (by decide +kernel)
set_option maxRecDepth 20000 in
theorem gL_isCounted_X11_skippedPairs : GoodIn wsL_isCounted (wsV RL 79 RX11 yX11_skippedPairs wsX11_skippedPairs) := goodIn_app (goodIn_of _ (by decide +kernel)) ggL_isCounted_X11_skippedPairs
set_option maxRecDepth 20000 in
theorem ggL_isCounted_X11_redundantPairs : GoodIn wsL_isCounted wsX11_redundantPairs := goodIn_r _ [64, 6, 86, 87, 88, 89, 90, 91, 92, 93, 94, 95, 96, 97, 98, 99, 100, 101, 102, 103, 104, 105, 106] (by decide +kernel) (by decide +kernel)
set_option maxRecDepth 20000 in
theorem gL_isCounted_X11_redundantPairs : GoodIn wsL_isCounted (wsV RL 84 RX11 yX11_redundantPairs wsX11_redundantPairs) := goodIn_app (goodIn_of _ (by decide +kernel)) ggL_isCounted_X11_redundantPairs
set_option maxRecDepth 20000 in
theorem ggL_isCounted_X11_droppedPairs : GoodIn wsL_isCounted wsX11_droppedPairs := goodIn_r _ [68, 6, 86, 87, 88, 89, 90, 91, 92, 93, 94, 95, 96, 97, 98, 99, 100, 101, 102, 103, 104, 105, 106] (by decide +kernel) (by decide +kernel)
set_option maxRecDepth 20000 in
theorem gL_isCounted_X11_droppedPairs : GoodIn wsL_isCounted (wsV RL 89 RX11 yX11_droppedPairs wsX11_droppedPairs) := goodIn_app (goodIn_of _ (by decide +kernel)) ggL_isCounted_X11_droppedPairs
set_option maxRecDepth 20000 in
theorem ggL_isCounted_X11_openPairs : GoodIn wsL_isCounted wsX11_openPairs := goodIn_r _ [72, 6, 73, 74, 75, 28, 76, 77, 78, 79, 80, 81, 82, 83, 84, 52, 26, 27, 29, 30, 85, 12, 13, 14, 15, 16, 86, 87, 88, 89, 90, 91, 92, 93, 94, 95, 96, 97, 98, 99, 100, 101, 102, 103, 104, 105, 106, 113, 114, 107, 108, 109, 110, 111, 112] (by decide +kernel) (by decide +kernel)
set_option maxRecDepth 20000 in
theorem gL_isCounted_X11_openPairs : GoodIn wsL_isCounted (wsV RL 74 RX11 yX11_openPairs wsX11_openPairs) := goodIn_app (goodIn_of _ (by decide +kernel)) ggL_isCounted_X11_openPairs
theorem dL_isCounted_0 : decode cL_isCounted 0 = .ok (.aload_n 0, 1) := by decide +kernel
theorem dL_isCounted_1 : decode cL_isCounted 1 = .ok (.invokevirtual 97, 3) := by decide +kernel
theorem dL_isCounted_4 : decode cL_isCounted 4 = .ok (.istore_n 1, 1) := by decide +kernel
theorem dL_isCounted_5 : decode cL_isCounted 5 = .ok (.iload_n 1, 1) := by decide +kernel
theorem dL_isCounted_6 : decode cL_isCounted 6 = .ok (.aload_n 0, 1) := by decide +kernel
theorem dL_isCounted_7 : decode cL_isCounted 7 = .ok (.invokevirtual 68, 3) := by decide +kernel
theorem dL_isCounted_10 : decode cL_isCounted 10 = .ok (.imul, 1) := by decide +kernel
theorem dL_isCounted_11 : decode cL_isCounted 11 = .ok (.istore_n 2, 1) := by decide +kernel
theorem dL_isCounted_12 : decode cL_isCounted 12 = .ok (.iload_n 1, 1) := by decide +kernel
theorem dL_isCounted_13 : decode cL_isCounted 13 = .ok (.iconst 1, 1) := by decide +kernel
theorem dL_isCounted_14 : decode cL_isCounted 14 = .ok (.if_icmp .lt 26, 3) := by decide +kernel
theorem dL_isCounted_17 : decode cL_isCounted 17 = .ok (.iload_n 1, 1) := by decide +kernel
theorem dL_isCounted_18 : decode cL_isCounted 18 = .ok (.bipush 40, 2) := by decide +kernel
theorem dL_isCounted_20 : decode cL_isCounted 20 = .ok (.if_icmp .gt 20, 3) := by decide +kernel
theorem dL_isCounted_23 : decode cL_isCounted 23 = .ok (.aload_n 0, 1) := by decide +kernel
theorem dL_isCounted_24 : decode cL_isCounted 24 = .ok (.invokevirtual 118, 3) := by decide +kernel
theorem dL_isCounted_27 : decode cL_isCounted 27 = .ok (.bipush 20, 2) := by decide +kernel
theorem dL_isCounted_29 : decode cL_isCounted 29 = .ok (.if_icmp .gt 11, 3) := by decide +kernel
theorem dL_isCounted_32 : decode cL_isCounted 32 = .ok (.aload_n 0, 1) := by decide +kernel
theorem dL_isCounted_33 : decode cL_isCounted 33 = .ok (.iconst 0, 1) := by decide +kernel
theorem dL_isCounted_34 : decode cL_isCounted 34 = .ok (.invokevirtual 102, 3) := by decide +kernel
theorem dL_isCounted_37 : decode cL_isCounted 37 = .ok (.ifCond .eq 5, 3) := by decide +kernel
theorem dL_isCounted_40 : decode cL_isCounted 40 = .ok (.iconst 0, 1) := by decide +kernel
theorem dL_isCounted_41 : decode cL_isCounted 41 = .ok (.ireturn, 1) := by decide +kernel
theorem dL_isCounted_42 : decode cL_isCounted 42 = .ok (.iconst 0, 1) := by decide +kernel
theorem dL_isCounted_43 : decode cL_isCounted 43 = .ok (.istore_n 3, 1) := by decide +kernel
theorem dL_isCounted_44 : decode cL_isCounted 44 = .ok (.iload_n 3, 1) := by decide +kernel
theorem dL_isCounted_45 : decode cL_isCounted 45 = .ok (.iload_n 1, 1) := by decide +kernel
theorem dL_isCounted_46 : decode cL_isCounted 46 = .ok (.if_icmp .ge 47, 3) := by decide +kernel
theorem dL_isCounted_49 : decode cL_isCounted 49 = .ok (.aload_n 0, 1) := by decide +kernel
theorem dL_isCounted_50 : decode cL_isCounted 50 = .ok (.aload_n 0, 1) := by decide +kernel
theorem dL_isCounted_51 : decode cL_isCounted 51 = .ok (.iload_n 3, 1) := by decide +kernel
theorem dL_isCounted_52 : decode cL_isCounted 52 = .ok (.iconst 0, 1) := by decide +kernel
theorem dL_isCounted_53 : decode cL_isCounted 53 = .ok (.invokevirtual 115, 3) := by decide +kernel
theorem dL_isCounted_56 : decode cL_isCounted 56 = .ok (.aload_n 0, 1) := by decide +kernel
theorem dL_isCounted_57 : decode cL_isCounted 57 = .ok (.iload_n 3, 1) := by decide +kernel
theorem dL_isCounted_58 : decode cL_isCounted 58 = .ok (.iconst 1, 1) := by decide +kernel
theorem dL_isCounted_59 : decode cL_isCounted 59 = .ok (.invokevirtual 115, 3) := by decide +kernel
theorem dL_isCounted_62 : decode cL_isCounted 62 = .ok (.aload_n 0, 1) := by decide +kernel
theorem dL_isCounted_63 : decode cL_isCounted 63 = .ok (.iload_n 3, 1) := by decide +kernel
theorem dL_isCounted_64 : decode cL_isCounted 64 = .ok (.iconst 2, 1) := by decide +kernel
theorem dL_isCounted_65 : decode cL_isCounted 65 = .ok (.invokevirtual 115, 3) := by decide +kernel
theorem dL_isCounted_68 : decode cL_isCounted 68 = .ok (.invokevirtual 149, 3) := by decide +kernel
theorem dL_isCounted_71 : decode cL_isCounted 71 = .ok (.iload_n 3, 1) := by decide +kernel
theorem dL_isCounted_72 : decode cL_isCounted 72 = .ok (.if_icmp .ne 13, 3) := by decide +kernel
theorem dL_isCounted_75 : decode cL_isCounted 75 = .ok (.aload_n 0, 1) := by decide +kernel
theorem dL_isCounted_76 : decode cL_isCounted 76 = .ok (.iload_n 3, 1) := by decide +kernel
theorem dL_isCounted_77 : decode cL_isCounted 77 = .ok (.invokevirtual 102, 3) := by decide +kernel
theorem dL_isCounted_80 : decode cL_isCounted 80 = .ok (.bipush 8, 2) := by decide +kernel
theorem dL_isCounted_82 : decode cL_isCounted 82 = .ok (.if_icmp .le 5, 3) := by decide +kernel
theorem dL_isCounted_85 : decode cL_isCounted 85 = .ok (.iconst 0, 1) := by decide +kernel
theorem dL_isCounted_86 : decode cL_isCounted 86 = .ok (.ireturn, 1) := by decide +kernel
theorem dL_isCounted_87 : decode cL_isCounted 87 = .ok (.iinc 3 1, 3) := by decide +kernel
theorem dL_isCounted_90 : decode cL_isCounted 90 = .ok (.goto (-46), 3) := by decide +kernel
theorem dL_isCounted_93 : decode cL_isCounted 93 = .ok (.aload_n 0, 1) := by decide +kernel
theorem dL_isCounted_94 : decode cL_isCounted 94 = .ok (.invokevirtual 79, 3) := by decide +kernel
theorem dL_isCounted_97 : decode cL_isCounted 97 = .ok (.aload_n 0, 1) := by decide +kernel
theorem dL_isCounted_98 : decode cL_isCounted 98 = .ok (.invokevirtual 84, 3) := by decide +kernel
theorem dL_isCounted_101 : decode cL_isCounted 101 = .ok (.iadd, 1) := by decide +kernel
theorem dL_isCounted_102 : decode cL_isCounted 102 = .ok (.aload_n 0, 1) := by decide +kernel
theorem dL_isCounted_103 : decode cL_isCounted 103 = .ok (.invokevirtual 89, 3) := by decide +kernel
theorem dL_isCounted_106 : decode cL_isCounted 106 = .ok (.iadd, 1) := by decide +kernel
theorem dL_isCounted_107 : decode cL_isCounted 107 = .ok (.aload_n 0, 1) := by decide +kernel
theorem dL_isCounted_108 : decode cL_isCounted 108 = .ok (.invokevirtual 118, 3) := by decide +kernel
theorem dL_isCounted_111 : decode cL_isCounted 111 = .ok (.iadd, 1) := by decide +kernel
theorem dL_isCounted_112 : decode cL_isCounted 112 = .ok (.iload_n 1, 1) := by decide +kernel
theorem dL_isCounted_113 : decode cL_isCounted 113 = .ok (.iadd, 1) := by decide +kernel
theorem dL_isCounted_114 : decode cL_isCounted 114 = .ok (.iconst 1, 1) := by decide +kernel
theorem dL_isCounted_115 : decode cL_isCounted 115 = .ok (.isub, 1) := by decide +kernel
theorem dL_isCounted_116 : decode cL_isCounted 116 = .ok (.istore_n 3, 1) := by decide +kernel
theorem dL_isCounted_117 : decode cL_isCounted 117 = .ok (.iload_n 3, 1) := by decide +kernel
theorem dL_isCounted_118 : decode cL_isCounted 118 = .ok (.aload_n 0, 1) := by decide +kernel
theorem dL_isCounted_119 : decode cL_isCounted 119 = .ok (.invokevirtual 74, 3) := by decide +kernel
theorem dL_isCounted_122 : decode cL_isCounted 122 = .ok (.iadd, 1) := by decide +kernel
theorem dL_isCounted_123 : decode cL_isCounted 123 = .ok (.iload_n 2, 1) := by decide +kernel
theorem dL_isCounted_124 : decode cL_isCounted 124 = .ok (.if_icmp .gt 7, 3) := by decide +kernel
theorem dL_isCounted_127 : decode cL_isCounted 127 = .ok (.iconst 1, 1) := by decide +kernel
theorem dL_isCounted_128 : decode cL_isCounted 128 = .ok (.goto 4, 3) := by decide +kernel
theorem dL_isCounted_131 : decode cL_isCounted 131 = .ok (.iconst 0, 1) := by decide +kernel
theorem dL_isCounted_132 : decode cL_isCounted 132 = .ok (.ireturn, 1) := by decide +kernel
set_option maxRecDepth 20000 in
theorem ggL_nothingYet_X11_poolSize : GoodIn wsL_nothingYet wsX11_poolSize := goodIn_r _ [5, 6, 110, 111, 112, 113, 114, 115, 116, 117, 118, 119, 120, 121, 122, 123, 124, 125, 126, 127, 128, 129, 130] (by decide +kernel) (by decide +kernel)
set_option maxRecDepth 20000 in
theorem gL_nothingYet_X11_poolSize : GoodIn wsL_nothingYet (wsV RL 97 RX11 yX11_poolSize wsX11_poolSize) := goodIn_app (goodIn_of _ (by decide +kernel)) ggL_nothingYet_X11_poolSize
set_option maxRecDepth 20000 in
theorem ggL_nothingYet_X11_openPairs : GoodIn wsL_nothingYet wsX11_openPairs := goodIn_r _ [10, 6, 11, 12, 13, 14, 15, 16, 17, 18, 19, 20, 21, 22, 23, 24, 25, 26, 27, 28, 29, 30, 31, 32, 33, 34, 110, 111, 112, 113, 114, 115, 116, 117, 118, 119, 120, 121, 122, 123, 124, 125, 126, 127, 128, 129, 130, 131, 132, 133, 134, 135, 136, 137, 138] (by decide +kernel) (by decide +kernel)
set_option maxRecDepth 20000 in
theorem gL_nothingYet_X11_openPairs : GoodIn wsL_nothingYet (wsV RL 74 RX11 yX11_openPairs wsX11_openPairs) := goodIn_app (goodIn_of _ (by decide +kernel)) ggL_nothingYet_X11_openPairs
set_option maxRecDepth 20000 in
theorem ggL_nothingYet_X11_failureCount : GoodIn wsL_nothingYet wsX11_failureCount := goodIn_r _ [38, 6, 110, 111, 112, 113, 114, 115, 116, 117, 118, 119, 120, 121, 122, 123, 124, 125, 126, 127, 128, 129, 130] (by decide +kernel) (by decide +kernel)
set_option maxRecDepth 20000 in
theorem gL_nothingYet_X11_failureCount : GoodIn wsL_nothingYet (wsV RL 118 RX11 yX11_failureCount wsX11_failureCount) := goodIn_app (goodIn_of _ (by decide +kernel)) ggL_nothingYet_X11_failureCount
set_option maxRecDepth 20000 in
theorem ggL_nothingYet_X11_skippedPairs : GoodIn wsL_nothingYet wsX11_skippedPairs := goodIn_r _ [42, 6, 110, 111, 112, 113, 114, 115, 116, 117, 118, 119, 120, 121, 122, 123, 124, 125, 126, 127, 128, 129, 130] (by decide +kernel) (by decide +kernel)
set_option maxRecDepth 20000 in
theorem gL_nothingYet_X11_skippedPairs : GoodIn wsL_nothingYet (wsV RL 79 RX11 yX11_skippedPairs wsX11_skippedPairs) := goodIn_app (goodIn_of _ (by decide +kernel)) ggL_nothingYet_X11_skippedPairs
set_option maxRecDepth 20000 in
theorem ggL_nothingYet_X11_redundantPairs : GoodIn wsL_nothingYet wsX11_redundantPairs := goodIn_r _ [46, 6, 110, 111, 112, 113, 114, 115, 116, 117, 118, 119, 120, 121, 122, 123, 124, 125, 126, 127, 128, 129, 130] (by decide +kernel) (by decide +kernel)
set_option maxRecDepth 20000 in
theorem gL_nothingYet_X11_redundantPairs : GoodIn wsL_nothingYet (wsV RL 84 RX11 yX11_redundantPairs wsX11_redundantPairs) := goodIn_app (goodIn_of _ (by decide +kernel)) ggL_nothingYet_X11_redundantPairs
set_option maxRecDepth 20000 in
theorem ggL_nothingYet_X11_droppedPairs : GoodIn wsL_nothingYet wsX11_droppedPairs := goodIn_r _ [50, 6, 110, 111, 112, 113, 114, 115, 116, 117, 118, 119, 120, 121, 122, 123, 124, 125, 126, 127, 128, 129, 130] (by decide +kernel) (by decide +kernel)
set_option maxRecDepth 20000 in
theorem gL_nothingYet_X11_droppedPairs : GoodIn wsL_nothingYet (wsV RL 89 RX11 yX11_droppedPairs wsX11_droppedPairs) := goodIn_app (goodIn_of _ (by decide +kernel)) ggL_nothingYet_X11_droppedPairs
set_option maxRecDepth 20000 in
theorem ggL_nothingYet_X11_reset : GoodIn wsL_nothingYet wsX11_reset := goodIn_r _ [54, 6, 55, 56, 57, 58, 14, 59, 23, 24, 25, 26, 27, 28, 60, 61, 62, 63, 64, 65, 66, 67, 68, 69, 70, 71, 22, 21, 20, 72, 73, 74, 75, 76, 77, 78, 79, 80, 81, 82, 83, 84, 85, 86, 87, 88, 89, 90, 91, 92, 93, 94, 95, 96, 97, 98, 99, 100, 101, 102, 103, 104, 105, 106, 107, 108, 109, 110, 111, 112, 113, 114, 115, 116, 117, 118, 119, 120, 121, 122, 123, 124, 125, 126, 127, 128, 129, 130, 139, 140, 141, 131, 132, 142, 143, 144, 133, 134, 135] (by decide +kernel) (by decide +kernel)
set_option maxRecDepth 20000 in
theorem gL_nothingYet_X11_reset : GoodIn wsL_nothingYet (wsV RL 143 RX11 yX11_reset wsX11_reset) := goodIn_app (goodIn_of _ (by decide +kernel)) ggL_nothingYet_X11_reset
theorem dL_nothingYet_0 : decode cL_nothingYet 0 = .ok (.aload_n 0, 1) := by decide +kernel
theorem dL_nothingYet_1 : decode cL_nothingYet 1 = .ok (.invokevirtual 97, 3) := by decide +kernel
theorem dL_nothingYet_4 : decode cL_nothingYet 4 = .ok (.iconst 1, 1) := by decide +kernel
theorem dL_nothingYet_5 : decode cL_nothingYet 5 = .ok (.if_icmp .ne 48, 3) := by decide +kernel
theorem dL_nothingYet_8 : decode cL_nothingYet 8 = .ok (.aload_n 0, 1) := by decide +kernel
theorem dL_nothingYet_9 : decode cL_nothingYet 9 = .ok (.invokevirtual 74, 3) := by decide +kernel
theorem dL_nothingYet_12 : decode cL_nothingYet 12 = .ok (.iload_n 1, 1) := by decide +kernel
theorem dL_nothingYet_13 : decode cL_nothingYet 13 = .ok (.if_icmp .ne 40, 3) := by decide +kernel
theorem dL_nothingYet_16 : decode cL_nothingYet 16 = .ok (.aload_n 0, 1) := by decide +kernel
theorem dL_nothingYet_17 : decode cL_nothingYet 17 = .ok (.invokevirtual 118, 3) := by decide +kernel
theorem dL_nothingYet_20 : decode cL_nothingYet 20 = .ok (.ifCond .ne 33, 3) := by decide +kernel
theorem dL_nothingYet_23 : decode cL_nothingYet 23 = .ok (.aload_n 0, 1) := by decide +kernel
theorem dL_nothingYet_24 : decode cL_nothingYet 24 = .ok (.invokevirtual 79, 3) := by decide +kernel
theorem dL_nothingYet_27 : decode cL_nothingYet 27 = .ok (.aload_n 0, 1) := by decide +kernel
theorem dL_nothingYet_28 : decode cL_nothingYet 28 = .ok (.invokevirtual 84, 3) := by decide +kernel
theorem dL_nothingYet_31 : decode cL_nothingYet 31 = .ok (.iadd, 1) := by decide +kernel
theorem dL_nothingYet_32 : decode cL_nothingYet 32 = .ok (.aload_n 0, 1) := by decide +kernel
theorem dL_nothingYet_33 : decode cL_nothingYet 33 = .ok (.invokevirtual 89, 3) := by decide +kernel
theorem dL_nothingYet_36 : decode cL_nothingYet 36 = .ok (.iadd, 1) := by decide +kernel
theorem dL_nothingYet_37 : decode cL_nothingYet 37 = .ok (.ifCond .ne 16, 3) := by decide +kernel
theorem dL_nothingYet_40 : decode cL_nothingYet 40 = .ok (.aload_n 0, 1) := by decide +kernel
theorem dL_nothingYet_41 : decode cL_nothingYet 41 = .ok (.invokevirtual 143, 3) := by decide +kernel
theorem dL_nothingYet_44 : decode cL_nothingYet 44 = .ok (.bipush (-2), 2) := by decide +kernel
theorem dL_nothingYet_46 : decode cL_nothingYet 46 = .ok (.if_icmp .ne 7, 3) := by decide +kernel
theorem dL_nothingYet_49 : decode cL_nothingYet 49 = .ok (.iconst 1, 1) := by decide +kernel
theorem dL_nothingYet_50 : decode cL_nothingYet 50 = .ok (.goto 4, 3) := by decide +kernel
theorem dL_nothingYet_53 : decode cL_nothingYet 53 = .ok (.iconst 0, 1) := by decide +kernel
theorem dL_nothingYet_54 : decode cL_nothingYet 54 = .ok (.ireturn, 1) := by decide +kernel
