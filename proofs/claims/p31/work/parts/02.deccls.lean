theorem dX0_init_0 : decode cX0_init 0 = .ok (.aload_n 0, 1) := by decide +kernel
theorem dX0_init_1 : decode cX0_init 1 = .ok (.invokespecial 1, 3) := by decide +kernel
theorem dX0_init_4 : decode cX0_init 4 = .ok (.aload_n 0, 1) := by decide +kernel
theorem dX0_init_5 : decode cX0_init 5 = .ok (.iload_n 1, 1) := by decide +kernel
theorem dX0_init_6 : decode cX0_init 6 = .ok (.putfield 7, 3) := by decide +kernel
theorem dX0_init_9 : decode cX0_init 9 = .ok (.aload_n 0, 1) := by decide +kernel
theorem dX0_init_10 : decode cX0_init 10 = .ok (.aload_n 2, 1) := by decide +kernel
theorem dX0_init_11 : decode cX0_init 11 = .ok (.putfield 13, 3) := by decide +kernel
theorem dX0_init_14 : decode cX0_init 14 = .ok (.aload_n 0, 1) := by decide +kernel
theorem dX0_init_15 : decode cX0_init 15 = .ok (.iload_n 3, 1) := by decide +kernel
theorem dX0_init_16 : decode cX0_init 16 = .ok (.putfield 17, 3) := by decide +kernel
theorem dX0_init_19 : decode cX0_init 19 = .ok (.aload_n 0, 1) := by decide +kernel
theorem dX0_init_20 : decode cX0_init 20 = .ok (.aload 4, 2) := by decide +kernel
theorem dX0_init_22 : decode cX0_init 22 = .ok (.putfield 20, 3) := by decide +kernel
theorem dX0_init_25 : decode cX0_init 25 = .ok (.return_, 1) := by decide +kernel
set_option maxRecDepth 20000 in
theorem ggX0_resultIn_X7_valueIn : GoodIn wsX0_resultIn wsX7_valueIn := goodIn_r _ [8, 9, 10, 15, 16, 17, 18, 19] (by decide +kernel) (by decide +kernel)
set_option maxRecDepth 20000 in
theorem gX0_resultIn_X7_valueIn : GoodIn wsX0_resultIn (wsV RX0 23 RX7 yX7_valueIn wsX7_valueIn) := goodIn_app (goodIn_of _ (by decide +kernel)) ggX0_resultIn_X7_valueIn
theorem dX0_resultIn_0 : decode cX0_resultIn 0 = .ok (.aload_n 0, 1) := by decide +kernel
theorem dX0_resultIn_1 : decode cX0_resultIn 1 = .ok (.getfield 13, 3) := by decide +kernel
theorem dX0_resultIn_4 : decode cX0_resultIn 4 = .ok (.aload_n 1, 1) := by decide +kernel
theorem dX0_resultIn_5 : decode cX0_resultIn 5 = .ok (.aload_n 1, 1) := by decide +kernel
theorem dX0_resultIn_6 : decode cX0_resultIn 6 = .ok (.invokevirtual 23, 3) := by decide +kernel
theorem dX0_resultIn_9 : decode cX0_resultIn 9 = .ok (.aload_n 0, 1) := by decide +kernel
theorem dX0_resultIn_10 : decode cX0_resultIn 10 = .ok (.getfield 17, 3) := by decide +kernel
theorem dX0_resultIn_13 : decode cX0_resultIn 13 = .ok (.aload_n 0, 1) := by decide +kernel
theorem dX0_resultIn_14 : decode cX0_resultIn 14 = .ok (.getfield 20, 3) := by decide +kernel
theorem dX0_resultIn_17 : decode cX0_resultIn 17 = .ok (.aload_n 1, 1) := by decide +kernel
theorem dX0_resultIn_18 : decode cX0_resultIn 18 = .ok (.aload_n 1, 1) := by decide +kernel
theorem dX0_resultIn_19 : decode cX0_resultIn 19 = .ok (.invokevirtual 23, 3) := by decide +kernel
theorem dX0_resultIn_22 : decode cX0_resultIn 22 = .ok (.imul, 1) := by decide +kernel
theorem dX0_resultIn_23 : decode cX0_resultIn 23 = .ok (.iadd, 1) := by decide +kernel
theorem dX0_resultIn_24 : decode cX0_resultIn 24 = .ok (.ireturn, 1) := by decide +kernel
set_option maxRecDepth 20000 in
theorem ggX1_init_X10_init : GoodIn wsX1_init wsX10_init := goodIn_r _ [14, 15, 2, 3] (by decide +kernel) (by decide +kernel)
set_option maxRecDepth 20000 in
theorem gX1_init_X10_init_n11 : GoodIn wsX1_init (wsX10_init) := ggX1_init_X10_init
set_option maxRecDepth 20000 in
theorem ggX1_init_Jx4a65c_init_da8c8 : GoodIn wsX1_init wsJx4a65c_init_da8c8 := goodIn_r _ [18, 19, 20, 21, 22, 23, 24, 25, 26, 27, 28, 29, 30, 2, 3, 37, 38, 39] (by decide +kernel) (by decide +kernel)
set_option maxRecDepth 20000 in
theorem gX1_init_Jx4a65c_init_da8c8 : GoodIn wsX1_init (wsJx4a65c_init_da8c8) := ggX1_init_Jx4a65c_init_da8c8
theorem dX1_init_0 : decode cX1_init 0 = .ok (.aload_n 0, 1) := by decide +kernel
theorem dX1_init_1 : decode cX1_init 1 = .ok (.invokespecial 3, 3) := by decide +kernel
theorem dX1_init_4 : decode cX1_init 4 = .ok (.aload_n 0, 1) := by decide +kernel
theorem dX1_init_5 : decode cX1_init 5 = .ok (.new 9, 3) := by decide +kernel
theorem dX1_init_8 : decode cX1_init 8 = .ok (.dup, 1) := by decide +kernel
theorem dX1_init_9 : decode cX1_init 9 = .ok (.invokespecial 11, 3) := by decide +kernel
theorem dX1_init_12 : decode cX1_init 12 = .ok (.putfield 12, 3) := by decide +kernel
theorem dX1_init_15 : decode cX1_init 15 = .ok (.aload_n 0, 1) := by decide +kernel
theorem dX1_init_16 : decode cX1_init 16 = .ok (.new 18, 3) := by decide +kernel
theorem dX1_init_19 : decode cX1_init 19 = .ok (.dup, 1) := by decide +kernel
theorem dX1_init_20 : decode cX1_init 20 = .ok (.invokespecial 20, 3) := by decide +kernel
theorem dX1_init_23 : decode cX1_init 23 = .ok (.putfield 21, 3) := by decide +kernel
theorem dX1_init_26 : decode cX1_init 26 = .ok (.aload_n 0, 1) := by decide +kernel
theorem dX1_init_27 : decode cX1_init 27 = .ok (.new 18, 3) := by decide +kernel
theorem dX1_init_30 : decode cX1_init 30 = .ok (.dup, 1) := by decide +kernel
theorem dX1_init_31 : decode cX1_init 31 = .ok (.invokespecial 20, 3) := by decide +kernel
theorem dX1_init_34 : decode cX1_init 34 = .ok (.putfield 25, 3) := by decide +kernel
theorem dX1_init_37 : decode cX1_init 37 = .ok (.return_, 1) := by decide +kernel
set_option maxRecDepth 20000 in
theorem ggX1_withInitialValue_X1_withoutMethod : GoodIn wsX1_withInitialValue wsX1_withoutMethod := goodIn_r _ [6, 7, 8, 5, 1, 9, 10, 11, 12, 13, 14, 15, 16, 17, 18, 19, 20, 21, 22, 23, 24, 25, 26, 27, 28, 29, 30, 31, 32, 33, 34, 35, 36, 37, 38, 39, 40, 41, 42, 43, 44, 45, 46, 47, 48, 49, 50, 51, 52, 53, 54, 55, 56, 57, 58, 59, 60, 61, 62, 63, 64, 65, 66, 67, 68, 69, 70, 71, 72, 73, 74, 75, 76, 77, 78, 79, 80, 81, 82, 83, 84, 85, 86, 87, 88, 89, 90, 91, 92, 93, 94, 95, 96, 97, 98, 99, 100, 101, 102, 103, 104, 105, 106, 107, 108, 109, 110, 111, 112, 113, 114, 115, 116, 117, 118, 119, 120, 121, 122, 127, 128, 129, 130, 131, 132, 133, 134, 135] (by decide +kernel) (by decide +kernel)
set_option maxRecDepth 20000 in
theorem gX1_withInitialValue_X1_withoutMethod : GoodIn wsX1_withInitialValue (wsV RX1 28 RX1 yX1_withoutMethod wsX1_withoutMethod) := goodIn_app (goodIn_of _ (by decide +kernel)) ggX1_withInitialValue_X1_withoutMethod
set_option maxRecDepth 20000 in
theorem ggX1_withInitialValue_X10_assign : GoodIn wsX1_withInitialValue wsX10_assign := goodIn_r _ [126, 47, 48, 49, 130, 131, 132] (by decide +kernel) (by decide +kernel)
set_option maxRecDepth 20000 in
theorem gX1_withInitialValue_X10_assign : GoodIn wsX1_withInitialValue (wsV RX1 32 RX10 yX10_assign wsX10_assign) := goodIn_app (goodIn_of _ (by decide +kernel)) ggX1_withInitialValue_X10_assign
theorem dX1_withInitialValue_0 : decode cX1_withInitialValue 0 = .ok (.aload_n 0, 1) := by decide +kernel
theorem dX1_withInitialValue_1 : decode cX1_withInitialValue 1 = .ok (.sipush (-1000), 3) := by decide +kernel
theorem dX1_withInitialValue_4 : decode cX1_withInitialValue 4 = .ok (.invokevirtual 28, 3) := by decide +kernel
theorem dX1_withInitialValue_7 : decode cX1_withInitialValue 7 = .ok (.astore_n 3, 1) := by decide +kernel
theorem dX1_withInitialValue_8 : decode cX1_withInitialValue 8 = .ok (.aload_n 3, 1) := by decide +kernel
theorem dX1_withInitialValue_9 : decode cX1_withInitialValue 9 = .ok (.getfield 12, 3) := by decide +kernel
theorem dX1_withInitialValue_12 : decode cX1_withInitialValue 12 = .ok (.iload_n 1, 1) := by decide +kernel
theorem dX1_withInitialValue_13 : decode cX1_withInitialValue 13 = .ok (.iload_n 2, 1) := by decide +kernel
theorem dX1_withInitialValue_14 : decode cX1_withInitialValue 14 = .ok (.invokevirtual 32, 3) := by decide +kernel
theorem dX1_withInitialValue_17 : decode cX1_withInitialValue 17 = .ok (.aload_n 3, 1) := by decide +kernel
theorem dX1_withInitialValue_18 : decode cX1_withInitialValue 18 = .ok (.areturn, 1) := by decide +kernel
set_option maxRecDepth 20000 in
theorem ggX1_withoutMethod_X1_init : GoodIn wsX1_withoutMethod wsX1_init := goodIn_r _ [11, 12, 13, 14, 15, 16, 17, 4, 18, 19, 20, 5, 7, 21, 22, 23, 24, 25, 26, 27, 28, 29, 30, 31, 32, 33, 34, 35, 36, 37, 38, 122, 123, 124, 119, 120, 121, 125, 126, 127] (by decide +kernel) (by decide +kernel)
set_option maxRecDepth 20000 in
theorem gX1_withoutMethod_X1_init : GoodIn wsX1_withoutMethod (wsX1_init) := ggX1_withoutMethod_X1_init
set_option maxRecDepth 20000 in
theorem ggX1_withoutMethod_X10_copyFrom : GoodIn wsX1_withoutMethod wsX10_copyFrom := goodIn_r _ [42, 43, 44, 45, 122, 123, 124] (by decide +kernel) (by decide +kernel)
set_option maxRecDepth 20000 in
theorem gX1_withoutMethod_X10_copyFrom : GoodIn wsX1_withoutMethod (wsV RX1 37 RX10 yX10_copyFrom wsX10_copyFrom) := goodIn_app (goodIn_of _ (by decide +kernel)) ggX1_withoutMethod_X10_copyFrom
set_option maxRecDepth 20000 in
theorem ggX1_withoutMethod_Jx4a65c_size_8abf5 : GoodIn wsX1_withoutMethod wsJx4a65c_size_8abf5 := goodIn_r _ [49, 50, 125, 126, 127] (by decide +kernel) (by decide +kernel)
set_option maxRecDepth 20000 in
theorem gX1_withoutMethod_Jx4a65c_size_8abf5 : GoodIn wsX1_withoutMethod (wsV RX1 41 RJx4a65c yJx4a65c_size_8abf5 wsJx4a65c_size_8abf5) := goodIn_app (goodIn_of _ (by decide +kernel)) ggX1_withoutMethod_Jx4a65c_size_8abf5
set_option maxRecDepth 20000 in
theorem ggX1_withoutMethod_Jx4a65c_get_915e3 : GoodIn wsX1_withoutMethod wsJx4a65c_get_915e3 := goodIn_r _ [54, 50, 55, 56, 57, 58, 59, 60, 61, 62, 63, 64, 65, 20, 66, 28, 125, 126, 127] (by decide +kernel) (by decide +kernel)
set_option maxRecDepth 20000 in
theorem gX1_withoutMethod_Jx4a65c_get_915e3 : GoodIn wsX1_withoutMethod (wsV RX1 45 RJx4a65c yJx4a65c_get_915e3 wsJx4a65c_get_915e3) := goodIn_app (goodIn_of _ (by decide +kernel)) ggX1_withoutMethod_Jx4a65c_get_915e3
set_option maxRecDepth 20000 in
theorem ggX1_withoutMethod_Jx4a65c_add_9ea2d : GoodIn wsX1_withoutMethod wsJx4a65c_add_9ea2d := goodIn_r _ [70, 71, 72, 28, 50, 73, 74, 75, 20, 76, 77, 78, 79, 80, 81, 82, 83, 84, 27, 85, 86, 87, 88, 89, 90, 91, 92, 93, 94, 95, 96, 97, 98, 99, 100, 101, 102, 103, 104, 105, 106, 107, 108, 109, 110, 111, 112, 113, 114, 115, 116, 117, 118, 125, 126, 127] (by decide +kernel) (by decide +kernel)
set_option maxRecDepth 20000 in
theorem gX1_withoutMethod_Jx4a65c_add_9ea2d : GoodIn wsX1_withoutMethod (wsV RX1 51 RJx4a65c yJx4a65c_add_9ea2d wsJx4a65c_add_9ea2d) := goodIn_app (goodIn_of _ (by decide +kernel)) ggX1_withoutMethod_Jx4a65c_add_9ea2d
theorem dX1_withoutMethod_0 : decode cX1_withoutMethod 0 = .ok (.new 13, 3) := by decide +kernel
theorem dX1_withoutMethod_3 : decode cX1_withoutMethod 3 = .ok (.dup, 1) := by decide +kernel
theorem dX1_withoutMethod_4 : decode cX1_withoutMethod 4 = .ok (.invokespecial 36, 3) := by decide +kernel
theorem dX1_withoutMethod_7 : decode cX1_withoutMethod 7 = .ok (.astore_n 2, 1) := by decide +kernel
theorem dX1_withoutMethod_8 : decode cX1_withoutMethod 8 = .ok (.aload_n 2, 1) := by decide +kernel
theorem dX1_withoutMethod_9 : decode cX1_withoutMethod 9 = .ok (.getfield 12, 3) := by decide +kernel
theorem dX1_withoutMethod_12 : decode cX1_withoutMethod 12 = .ok (.aload_n 0, 1) := by decide +kernel
theorem dX1_withoutMethod_13 : decode cX1_withoutMethod 13 = .ok (.getfield 12, 3) := by decide +kernel
theorem dX1_withoutMethod_16 : decode cX1_withoutMethod 16 = .ok (.invokevirtual 37, 3) := by decide +kernel
theorem dX1_withoutMethod_19 : decode cX1_withoutMethod 19 = .ok (.iconst 0, 1) := by decide +kernel
theorem dX1_withoutMethod_20 : decode cX1_withoutMethod 20 = .ok (.istore_n 3, 1) := by decide +kernel
theorem dX1_withoutMethod_21 : decode cX1_withoutMethod 21 = .ok (.iload_n 3, 1) := by decide +kernel
theorem dX1_withoutMethod_22 : decode cX1_withoutMethod 22 = .ok (.aload_n 0, 1) := by decide +kernel
theorem dX1_withoutMethod_23 : decode cX1_withoutMethod 23 = .ok (.getfield 21, 3) := by decide +kernel
theorem dX1_withoutMethod_26 : decode cX1_withoutMethod 26 = .ok (.invokevirtual 41, 3) := by decide +kernel
theorem dX1_withoutMethod_29 : decode cX1_withoutMethod 29 = .ok (.if_icmp .ge 28, 3) := by decide +kernel
theorem dX1_withoutMethod_32 : decode cX1_withoutMethod 32 = .ok (.aload_n 2, 1) := by decide +kernel
theorem dX1_withoutMethod_33 : decode cX1_withoutMethod 33 = .ok (.getfield 21, 3) := by decide +kernel
theorem dX1_withoutMethod_36 : decode cX1_withoutMethod 36 = .ok (.aload_n 0, 1) := by decide +kernel
theorem dX1_withoutMethod_37 : decode cX1_withoutMethod 37 = .ok (.getfield 21, 3) := by decide +kernel
theorem dX1_withoutMethod_40 : decode cX1_withoutMethod 40 = .ok (.iload_n 3, 1) := by decide +kernel
theorem dX1_withoutMethod_41 : decode cX1_withoutMethod 41 = .ok (.invokevirtual 45, 3) := by decide +kernel
theorem dX1_withoutMethod_44 : decode cX1_withoutMethod 44 = .ok (.checkcast 49, 3) := by decide +kernel
theorem dX1_withoutMethod_47 : decode cX1_withoutMethod 47 = .ok (.invokevirtual 51, 3) := by decide +kernel
theorem dX1_withoutMethod_50 : decode cX1_withoutMethod 50 = .ok (.pop, 1) := by decide +kernel
theorem dX1_withoutMethod_51 : decode cX1_withoutMethod 51 = .ok (.iinc 3 1, 3) := by decide +kernel
theorem dX1_withoutMethod_54 : decode cX1_withoutMethod 54 = .ok (.goto (-33), 3) := by decide +kernel
theorem dX1_withoutMethod_57 : decode cX1_withoutMethod 57 = .ok (.iconst 0, 1) := by decide +kernel
theorem dX1_withoutMethod_58 : decode cX1_withoutMethod 58 = .ok (.istore_n 3, 1) := by decide +kernel
theorem dX1_withoutMethod_59 : decode cX1_withoutMethod 59 = .ok (.iload_n 3, 1) := by decide +kernel
theorem dX1_withoutMethod_60 : decode cX1_withoutMethod 60 = .ok (.aload_n 0, 1) := by decide +kernel
theorem dX1_withoutMethod_61 : decode cX1_withoutMethod 61 = .ok (.getfield 25, 3) := by decide +kernel
theorem dX1_withoutMethod_64 : decode cX1_withoutMethod 64 = .ok (.invokevirtual 41, 3) := by decide +kernel
theorem dX1_withoutMethod_67 : decode cX1_withoutMethod 67 = .ok (.if_icmp .ge 33, 3) := by decide +kernel
theorem dX1_withoutMethod_70 : decode cX1_withoutMethod 70 = .ok (.iload_n 3, 1) := by decide +kernel
theorem dX1_withoutMethod_71 : decode cX1_withoutMethod 71 = .ok (.iload_n 1, 1) := by decide +kernel
theorem dX1_withoutMethod_72 : decode cX1_withoutMethod 72 = .ok (.if_icmp .eq 22, 3) := by decide +kernel
theorem dX1_withoutMethod_75 : decode cX1_withoutMethod 75 = .ok (.aload_n 2, 1) := by decide +kernel
theorem dX1_withoutMethod_76 : decode cX1_withoutMethod 76 = .ok (.getfield 25, 3) := by decide +kernel
theorem dX1_withoutMethod_79 : decode cX1_withoutMethod 79 = .ok (.aload_n 0, 1) := by decide +kernel
theorem dX1_withoutMethod_80 : decode cX1_withoutMethod 80 = .ok (.getfield 25, 3) := by decide +kernel
theorem dX1_withoutMethod_83 : decode cX1_withoutMethod 83 = .ok (.iload_n 3, 1) := by decide +kernel
theorem dX1_withoutMethod_84 : decode cX1_withoutMethod 84 = .ok (.invokevirtual 45, 3) := by decide +kernel
theorem dX1_withoutMethod_87 : decode cX1_withoutMethod 87 = .ok (.checkcast 55, 3) := by decide +kernel
theorem dX1_withoutMethod_90 : decode cX1_withoutMethod 90 = .ok (.invokevirtual 51, 3) := by decide +kernel
theorem dX1_withoutMethod_93 : decode cX1_withoutMethod 93 = .ok (.pop, 1) := by decide +kernel
theorem dX1_withoutMethod_94 : decode cX1_withoutMethod 94 = .ok (.iinc 3 1, 3) := by decide +kernel
theorem dX1_withoutMethod_97 : decode cX1_withoutMethod 97 = .ok (.goto (-38), 3) := by decide +kernel
theorem dX1_withoutMethod_100 : decode cX1_withoutMethod 100 = .ok (.aload_n 2, 1) := by decide +kernel
theorem dX1_withoutMethod_101 : decode cX1_withoutMethod 101 = .ok (.areturn, 1) := by decide +kernel
set_option maxRecDepth 20000 in
theorem ggX1_hasMethod_Jx4a65c_size_8abf5 : GoodIn wsX1_hasMethod wsJx4a65c_size_8abf5 := goodIn_r _ [6, 7, 11, 12, 13] (by decide +kernel) (by decide +kernel)
set_option maxRecDepth 20000 in
theorem gX1_hasMethod_Jx4a65c_size_8abf5 : GoodIn wsX1_hasMethod (wsV RX1 41 RJx4a65c yJx4a65c_size_8abf5 wsJx4a65c_size_8abf5) := goodIn_app (goodIn_of _ (by decide +kernel)) ggX1_hasMethod_Jx4a65c_size_8abf5
theorem dX1_hasMethod_0 : decode cX1_hasMethod 0 = .ok (.iload_n 1, 1) := by decide +kernel
theorem dX1_hasMethod_1 : decode cX1_hasMethod 1 = .ok (.ifCond .lt 18, 3) := by decide +kernel
theorem dX1_hasMethod_4 : decode cX1_hasMethod 4 = .ok (.iload_n 1, 1) := by decide +kernel
theorem dX1_hasMethod_5 : decode cX1_hasMethod 5 = .ok (.aload_n 0, 1) := by decide +kernel
theorem dX1_hasMethod_6 : decode cX1_hasMethod 6 = .ok (.getfield 25, 3) := by decide +kernel
theorem dX1_hasMethod_9 : decode cX1_hasMethod 9 = .ok (.invokevirtual 41, 3) := by decide +kernel
theorem dX1_hasMethod_12 : decode cX1_hasMethod 12 = .ok (.if_icmp .ge 7, 3) := by decide +kernel
theorem dX1_hasMethod_15 : decode cX1_hasMethod 15 = .ok (.iconst 1, 1) := by decide +kernel
theorem dX1_hasMethod_16 : decode cX1_hasMethod 16 = .ok (.goto 4, 3) := by decide +kernel
theorem dX1_hasMethod_19 : decode cX1_hasMethod 19 = .ok (.iconst 0, 1) := by decide +kernel
theorem dX1_hasMethod_20 : decode cX1_hasMethod 20 = .ok (.ireturn, 1) := by decide +kernel
set_option maxRecDepth 20000 in
theorem ggX1_isEnabled_X1_hasMethod : GoodIn wsX1_isEnabled wsX1_hasMethod := goodIn_r _ [7, 1, 8, 9, 10, 11, 12, 13, 50, 51, 52, 56, 57, 58] (by decide +kernel) (by decide +kernel)
set_option maxRecDepth 20000 in
theorem gX1_isEnabled_X1_hasMethod : GoodIn wsX1_isEnabled (wsV RX1 57 RX1 yX1_hasMethod wsX1_hasMethod) := goodIn_app (goodIn_of _ (by decide +kernel)) ggX1_isEnabled_X1_hasMethod
set_option maxRecDepth 20000 in
theorem ggX1_isEnabled_Jx4a65c_get_915e3 : GoodIn wsX1_isEnabled wsJx4a65c_get_915e3 := goodIn_r _ [17, 13, 18, 19, 20, 21, 22, 23, 24, 25, 26, 27, 28, 11, 29, 30, 56, 57, 58] (by decide +kernel) (by decide +kernel)
set_option maxRecDepth 20000 in
theorem gX1_isEnabled_Jx4a65c_get_915e3 : GoodIn wsX1_isEnabled (wsV RX1 45 RJx4a65c yJx4a65c_get_915e3 wsJx4a65c_get_915e3) := goodIn_app (goodIn_of _ (by decide +kernel)) ggX1_isEnabled_Jx4a65c_get_915e3
set_option maxRecDepth 20000 in
theorem ggX1_isEnabled_X1_allHold : GoodIn wsX1_isEnabled wsX1_allHold := goodIn_r _ [33, 34, 8, 9, 10, 11, 12, 13, 14, 15, 16, 17, 18, 19, 20, 21, 22, 23, 24, 25, 26, 27, 28, 29, 30, 35, 36, 37, 38, 39, 40, 41, 42, 43, 44, 45, 46, 47, 48, 49, 56, 57, 58, 59, 60, 61, 62, 63, 64, 65, 66] (by decide +kernel) (by decide +kernel)
set_option maxRecDepth 20000 in
theorem gX1_isEnabled_X1_allHold : GoodIn wsX1_isEnabled (va_wsS RX1 64 yX1_allHold wsX1_allHold) := goodIn_app (goodIn_of _ (by decide +kernel)) ggX1_isEnabled_X1_allHold
theorem dX1_isEnabled_0 : decode cX1_isEnabled 0 = .ok (.aload_n 0, 1) := by decide +kernel
theorem dX1_isEnabled_1 : decode cX1_isEnabled 1 = .ok (.iload_n 1, 1) := by decide +kernel
theorem dX1_isEnabled_2 : decode cX1_isEnabled 2 = .ok (.invokevirtual 57, 3) := by decide +kernel
theorem dX1_isEnabled_5 : decode cX1_isEnabled 5 = .ok (.ifCond .eq 29, 3) := by decide +kernel
theorem dX1_isEnabled_8 : decode cX1_isEnabled 8 = .ok (.aload_n 0, 1) := by decide +kernel
theorem dX1_isEnabled_9 : decode cX1_isEnabled 9 = .ok (.getfield 25, 3) := by decide +kernel
theorem dX1_isEnabled_12 : decode cX1_isEnabled 12 = .ok (.iload_n 1, 1) := by decide +kernel
theorem dX1_isEnabled_13 : decode cX1_isEnabled 13 = .ok (.invokevirtual 45, 3) := by decide +kernel
theorem dX1_isEnabled_16 : decode cX1_isEnabled 16 = .ok (.checkcast 55, 3) := by decide +kernel
theorem dX1_isEnabled_19 : decode cX1_isEnabled 19 = .ok (.getfield 61, 3) := by decide +kernel
theorem dX1_isEnabled_22 : decode cX1_isEnabled 22 = .ok (.aload_n 2, 1) := by decide +kernel
theorem dX1_isEnabled_23 : decode cX1_isEnabled 23 = .ok (.aload_n 2, 1) := by decide +kernel
theorem dX1_isEnabled_24 : decode cX1_isEnabled 24 = .ok (.invokestatic 64, 3) := by decide +kernel
theorem dX1_isEnabled_27 : decode cX1_isEnabled 27 = .ok (.ifCond .eq 7, 3) := by decide +kernel
theorem dX1_isEnabled_30 : decode cX1_isEnabled 30 = .ok (.iconst 1, 1) := by decide +kernel
theorem dX1_isEnabled_31 : decode cX1_isEnabled 31 = .ok (.goto 4, 3) := by decide +kernel
theorem dX1_isEnabled_34 : decode cX1_isEnabled 34 = .ok (.iconst 0, 1) := by decide +kernel
theorem dX1_isEnabled_35 : decode cX1_isEnabled 35 = .ok (.ireturn, 1) := by decide +kernel
set_option maxRecDepth 20000 in
theorem ggX1_verdictOfCall_X1_hasMethod : GoodIn wsX1_verdictOfCall wsX1_hasMethod := goodIn_r _ [9, 1, 10, 11, 12, 13, 14, 15, 73, 74, 75, 83, 84, 85] (by decide +kernel) (by decide +kernel)
set_option maxRecDepth 20000 in
theorem gX1_verdictOfCall_X1_hasMethod : GoodIn wsX1_verdictOfCall (wsV RX1 57 RX1 yX1_hasMethod wsX1_hasMethod) := goodIn_app (goodIn_of _ (by decide +kernel)) ggX1_verdictOfCall_X1_hasMethod
set_option maxRecDepth 20000 in
theorem ggX1_verdictOfCall_Jx4a65c_get_915e3 : GoodIn wsX1_verdictOfCall wsJx4a65c_get_915e3 := goodIn_r _ [19, 15, 20, 21, 22, 23, 24, 25, 26, 27, 28, 29, 30, 13, 31, 32, 83, 84, 85] (by decide +kernel) (by decide +kernel)
set_option maxRecDepth 20000 in
theorem gX1_verdictOfCall_Jx4a65c_get_915e3 : GoodIn wsX1_verdictOfCall (wsV RX1 45 RJx4a65c yJx4a65c_get_915e3 wsJx4a65c_get_915e3) := goodIn_app (goodIn_of _ (by decide +kernel)) ggX1_verdictOfCall_Jx4a65c_get_915e3
set_option maxRecDepth 20000 in
theorem ggX1_verdictOfCall_X1_allHold : GoodIn wsX1_verdictOfCall wsX1_allHold := goodIn_r _ [35, 36, 10, 11, 12, 13, 14, 15, 16, 17, 18, 19, 20, 21, 22, 23, 24, 25, 26, 27, 28, 29, 30, 31, 32, 37, 38, 39, 40, 41, 42, 43, 44, 45, 46, 47, 48, 49, 50, 51, 83, 84, 85, 86, 87, 88, 89, 90, 91, 92, 93] (by decide +kernel) (by decide +kernel)
set_option maxRecDepth 20000 in
theorem gX1_verdictOfCall_X1_allHold : GoodIn wsX1_verdictOfCall (va_wsS RX1 64 yX1_allHold wsX1_allHold) := goodIn_app (goodIn_of _ (by decide +kernel)) ggX1_verdictOfCall_X1_allHold
set_option maxRecDepth 20000 in
theorem ggX1_verdictOfCall_X10_copyFrom : GoodIn wsX1_verdictOfCall wsX10_copyFrom := goodIn_r _ [56, 57, 58, 59, 91, 92, 93] (by decide +kernel) (by decide +kernel)
set_option maxRecDepth 20000 in
theorem gX1_verdictOfCall_X10_copyFrom : GoodIn wsX1_verdictOfCall (wsV RX1 37 RX10 yX10_copyFrom wsX10_copyFrom) := goodIn_app (goodIn_of _ (by decide +kernel)) ggX1_verdictOfCall_X10_copyFrom
set_option maxRecDepth 20000 in
theorem ggX1_verdictOfCall_Jx4a65c_size_8abf5 : GoodIn wsX1_verdictOfCall wsJx4a65c_size_8abf5 := goodIn_r _ [14, 15, 83, 84, 85] (by decide +kernel) (by decide +kernel)
set_option maxRecDepth 20000 in
theorem gX1_verdictOfCall_Jx4a65c_size_8abf5 : GoodIn wsX1_verdictOfCall (wsV RX1 41 RJx4a65c yJx4a65c_size_8abf5 wsJx4a65c_size_8abf5) := goodIn_app (goodIn_of _ (by decide +kernel)) ggX1_verdictOfCall_Jx4a65c_size_8abf5
set_option maxRecDepth 20000 in
theorem ggX1_verdictOfCall_X0_resultIn : GoodIn wsX1_verdictOfCall wsX0_resultIn := goodIn_r _ [64, 65, 66, 67, 68, 46, 47, 48, 49, 50, 51, 79, 80, 81, 82, 89, 90, 91, 92, 93] (by decide +kernel) (by decide +kernel)
set_option maxRecDepth 20000 in
theorem gX1_verdictOfCall_X0_resultIn : GoodIn wsX1_verdictOfCall (wsV RX1 73 RX0 yX0_resultIn wsX0_resultIn) := goodIn_app (goodIn_of _ (by decide +kernel)) ggX1_verdictOfCall_X0_resultIn
set_option maxRecDepth 20000 in
theorem ggX1_verdictOfCall_X10_assign : GoodIn wsX1_verdictOfCall wsX10_assign := goodIn_r _ [72, 57, 58, 59, 91, 92, 93] (by decide +kernel) (by decide +kernel)
set_option maxRecDepth 20000 in
theorem gX1_verdictOfCall_X10_assign : GoodIn wsX1_verdictOfCall (wsV RX1 32 RX10 yX10_assign wsX10_assign) := goodIn_app (goodIn_of _ (by decide +kernel)) ggX1_verdictOfCall_X10_assign
theorem dX1_verdictOfCall_0 : decode cX1_verdictOfCall 0 = .ok (.aload_n 0, 1) := by decide +kernel
theorem dX1_verdictOfCall_1 : decode cX1_verdictOfCall 1 = .ok (.iload_n 1, 1) := by decide +kernel
theorem dX1_verdictOfCall_2 : decode cX1_verdictOfCall 2 = .ok (.invokevirtual 57, 3) := by decide +kernel
theorem dX1_verdictOfCall_5 : decode cX1_verdictOfCall 5 = .ok (.ifCond .ne 5, 3) := by decide +kernel
theorem dX1_verdictOfCall_8 : decode cX1_verdictOfCall 8 = .ok (.iconst 1, 1) := by decide +kernel
theorem dX1_verdictOfCall_9 : decode cX1_verdictOfCall 9 = .ok (.ireturn, 1) := by decide +kernel
theorem dX1_verdictOfCall_10 : decode cX1_verdictOfCall 10 = .ok (.aload_n 0, 1) := by decide +kernel
theorem dX1_verdictOfCall_11 : decode cX1_verdictOfCall 11 = .ok (.getfield 25, 3) := by decide +kernel
theorem dX1_verdictOfCall_14 : decode cX1_verdictOfCall 14 = .ok (.iload_n 1, 1) := by decide +kernel
theorem dX1_verdictOfCall_15 : decode cX1_verdictOfCall 15 = .ok (.invokevirtual 45, 3) := by decide +kernel
theorem dX1_verdictOfCall_18 : decode cX1_verdictOfCall 18 = .ok (.checkcast 55, 3) := by decide +kernel
theorem dX1_verdictOfCall_21 : decode cX1_verdictOfCall 21 = .ok (.astore 4, 2) := by decide +kernel
theorem dX1_verdictOfCall_23 : decode cX1_verdictOfCall 23 = .ok (.aload 4, 2) := by decide +kernel
theorem dX1_verdictOfCall_25 : decode cX1_verdictOfCall 25 = .ok (.getfield 61, 3) := by decide +kernel
theorem dX1_verdictOfCall_28 : decode cX1_verdictOfCall 28 = .ok (.aload_n 2, 1) := by decide +kernel
theorem dX1_verdictOfCall_29 : decode cX1_verdictOfCall 29 = .ok (.aload_n 2, 1) := by decide +kernel
theorem dX1_verdictOfCall_30 : decode cX1_verdictOfCall 30 = .ok (.invokestatic 64, 3) := by decide +kernel
theorem dX1_verdictOfCall_33 : decode cX1_verdictOfCall 33 = .ok (.ifCond .ne 5, 3) := by decide +kernel
theorem dX1_verdictOfCall_36 : decode cX1_verdictOfCall 36 = .ok (.iconst 1, 1) := by decide +kernel
theorem dX1_verdictOfCall_37 : decode cX1_verdictOfCall 37 = .ok (.ireturn, 1) := by decide +kernel
theorem dX1_verdictOfCall_38 : decode cX1_verdictOfCall 38 = .ok (.aload_n 3, 1) := by decide +kernel
theorem dX1_verdictOfCall_39 : decode cX1_verdictOfCall 39 = .ok (.aload_n 2, 1) := by decide +kernel
theorem dX1_verdictOfCall_40 : decode cX1_verdictOfCall 40 = .ok (.invokevirtual 37, 3) := by decide +kernel
theorem dX1_verdictOfCall_43 : decode cX1_verdictOfCall 43 = .ok (.iconst 0, 1) := by decide +kernel
theorem dX1_verdictOfCall_44 : decode cX1_verdictOfCall 44 = .ok (.istore 5, 2) := by decide +kernel
theorem dX1_verdictOfCall_46 : decode cX1_verdictOfCall 46 = .ok (.iload 5, 2) := by decide +kernel
theorem dX1_verdictOfCall_48 : decode cX1_verdictOfCall 48 = .ok (.aload 4, 2) := by decide +kernel
theorem dX1_verdictOfCall_50 : decode cX1_verdictOfCall 50 = .ok (.getfield 68, 3) := by decide +kernel
theorem dX1_verdictOfCall_53 : decode cX1_verdictOfCall 53 = .ok (.invokevirtual 41, 3) := by decide +kernel
theorem dX1_verdictOfCall_56 : decode cX1_verdictOfCall 56 = .ok (.if_icmp .ge 59, 3) := by decide +kernel
theorem dX1_verdictOfCall_59 : decode cX1_verdictOfCall 59 = .ok (.aload 4, 2) := by decide +kernel
theorem dX1_verdictOfCall_61 : decode cX1_verdictOfCall 61 = .ok (.getfield 68, 3) := by decide +kernel
theorem dX1_verdictOfCall_64 : decode cX1_verdictOfCall 64 = .ok (.iload 5, 2) := by decide +kernel
theorem dX1_verdictOfCall_66 : decode cX1_verdictOfCall 66 = .ok (.invokevirtual 45, 3) := by decide +kernel
theorem dX1_verdictOfCall_69 : decode cX1_verdictOfCall 69 = .ok (.checkcast 71, 3) := by decide +kernel
theorem dX1_verdictOfCall_72 : decode cX1_verdictOfCall 72 = .ok (.astore 6, 2) := by decide +kernel
theorem dX1_verdictOfCall_74 : decode cX1_verdictOfCall 74 = .ok (.aload 6, 2) := by decide +kernel
theorem dX1_verdictOfCall_76 : decode cX1_verdictOfCall 76 = .ok (.aload_n 3, 1) := by decide +kernel
theorem dX1_verdictOfCall_77 : decode cX1_verdictOfCall 77 = .ok (.invokevirtual 73, 3) := by decide +kernel
theorem dX1_verdictOfCall_80 : decode cX1_verdictOfCall 80 = .ok (.istore 7, 2) := by decide +kernel
theorem dX1_verdictOfCall_82 : decode cX1_verdictOfCall 82 = .ok (.iload 7, 2) := by decide +kernel
theorem dX1_verdictOfCall_84 : decode cX1_verdictOfCall 84 = .ok (.bipush (-99), 2) := by decide +kernel
theorem dX1_verdictOfCall_86 : decode cX1_verdictOfCall 86 = .ok (.if_icmp .lt 10, 3) := by decide +kernel
theorem dX1_verdictOfCall_89 : decode cX1_verdictOfCall 89 = .ok (.iload 7, 2) := by decide +kernel
theorem dX1_verdictOfCall_91 : decode cX1_verdictOfCall 91 = .ok (.bipush 99, 2) := by decide +kernel
theorem dX1_verdictOfCall_93 : decode cX1_verdictOfCall 93 = .ok (.if_icmp .le 5, 3) := by decide +kernel
theorem dX1_verdictOfCall_96 : decode cX1_verdictOfCall 96 = .ok (.iconst 2, 1) := by decide +kernel
theorem dX1_verdictOfCall_97 : decode cX1_verdictOfCall 97 = .ok (.ireturn, 1) := by decide +kernel
theorem dX1_verdictOfCall_98 : decode cX1_verdictOfCall 98 = .ok (.aload_n 3, 1) := by decide +kernel
theorem dX1_verdictOfCall_99 : decode cX1_verdictOfCall 99 = .ok (.aload 6, 2) := by decide +kernel
theorem dX1_verdictOfCall_101 : decode cX1_verdictOfCall 101 = .ok (.getfield 77, 3) := by decide +kernel
theorem dX1_verdictOfCall_104 : decode cX1_verdictOfCall 104 = .ok (.iload 7, 2) := by decide +kernel
theorem dX1_verdictOfCall_106 : decode cX1_verdictOfCall 106 = .ok (.invokevirtual 32, 3) := by decide +kernel
theorem dX1_verdictOfCall_109 : decode cX1_verdictOfCall 109 = .ok (.iinc 5 1, 3) := by decide +kernel
theorem dX1_verdictOfCall_112 : decode cX1_verdictOfCall 112 = .ok (.goto (-66), 3) := by decide +kernel
theorem dX1_verdictOfCall_115 : decode cX1_verdictOfCall 115 = .ok (.aload 4, 2) := by decide +kernel
theorem dX1_verdictOfCall_117 : decode cX1_verdictOfCall 117 = .ok (.getfield 81, 3) := by decide +kernel
theorem dX1_verdictOfCall_120 : decode cX1_verdictOfCall 120 = .ok (.aload_n 2, 1) := by decide +kernel
theorem dX1_verdictOfCall_121 : decode cX1_verdictOfCall 121 = .ok (.aload_n 3, 1) := by decide +kernel
theorem dX1_verdictOfCall_122 : decode cX1_verdictOfCall 122 = .ok (.invokestatic 64, 3) := by decide +kernel
theorem dX1_verdictOfCall_125 : decode cX1_verdictOfCall 125 = .ok (.ifCond .ne 5, 3) := by decide +kernel
theorem dX1_verdictOfCall_128 : decode cX1_verdictOfCall 128 = .ok (.iconst 3, 1) := by decide +kernel
theorem dX1_verdictOfCall_129 : decode cX1_verdictOfCall 129 = .ok (.ireturn, 1) := by decide +kernel
theorem dX1_verdictOfCall_130 : decode cX1_verdictOfCall 130 = .ok (.aload_n 0, 1) := by decide +kernel
theorem dX1_verdictOfCall_131 : decode cX1_verdictOfCall 131 = .ok (.getfield 21, 3) := by decide +kernel
theorem dX1_verdictOfCall_134 : decode cX1_verdictOfCall 134 = .ok (.aload_n 2, 1) := by decide +kernel
theorem dX1_verdictOfCall_135 : decode cX1_verdictOfCall 135 = .ok (.aload_n 3, 1) := by decide +kernel
theorem dX1_verdictOfCall_136 : decode cX1_verdictOfCall 136 = .ok (.invokestatic 64, 3) := by decide +kernel
theorem dX1_verdictOfCall_139 : decode cX1_verdictOfCall 139 = .ok (.ifCond .eq 7, 3) := by decide +kernel
theorem dX1_verdictOfCall_142 : decode cX1_verdictOfCall 142 = .ok (.iconst 0, 1) := by decide +kernel
theorem dX1_verdictOfCall_143 : decode cX1_verdictOfCall 143 = .ok (.goto 4, 3) := by decide +kernel
theorem dX1_verdictOfCall_146 : decode cX1_verdictOfCall 146 = .ok (.iconst 4, 1) := by decide +kernel
theorem dX1_verdictOfCall_147 : decode cX1_verdictOfCall 147 = .ok (.ireturn, 1) := by decide +kernel
set_option maxRecDepth 20000 in
theorem ggX1_allHold_Jx4a65c_size_8abf5 : GoodIn wsX1_allHold wsJx4a65c_size_8abf5 := goodIn_r _ [6, 7, 40, 41, 42] (by decide +kernel) (by decide +kernel)
set_option maxRecDepth 20000 in
theorem gX1_allHold_Jx4a65c_size_8abf5 : GoodIn wsX1_allHold (wsV RX1 41 RJx4a65c yJx4a65c_size_8abf5 wsJx4a65c_size_8abf5) := goodIn_app (goodIn_of _ (by decide +kernel)) ggX1_allHold_Jx4a65c_size_8abf5
set_option maxRecDepth 20000 in
theorem ggX1_allHold_Jx4a65c_get_915e3 : GoodIn wsX1_allHold wsJx4a65c_get_915e3 := goodIn_r _ [11, 7, 12, 13, 14, 15, 16, 17, 18, 19, 20, 21, 22, 5, 23, 24, 40, 41, 42] (by decide +kernel) (by decide +kernel)
set_option maxRecDepth 20000 in
theorem gX1_allHold_Jx4a65c_get_915e3 : GoodIn wsX1_allHold (wsV RX1 45 RJx4a65c yJx4a65c_get_915e3 wsJx4a65c_get_915e3) := goodIn_app (goodIn_of _ (by decide +kernel)) ggX1_allHold_Jx4a65c_get_915e3
set_option maxRecDepth 20000 in
theorem ggX1_allHold_X2_holds : GoodIn wsX1_allHold wsX2_holds := goodIn_r _ [29, 30, 31, 32, 33, 34, 35, 36, 37, 38, 39, 43, 44, 45, 46, 47, 48, 49, 50] (by decide +kernel) (by decide +kernel)
set_option maxRecDepth 20000 in
theorem gX1_allHold_X2_holds : GoodIn wsX1_allHold (wsV RX1 84 RX2 yX2_holds wsX2_holds) := goodIn_app (goodIn_of _ (by decide +kernel)) ggX1_allHold_X2_holds
theorem dX1_allHold_0 : decode cX1_allHold 0 = .ok (.iconst 0, 1) := by decide +kernel
theorem dX1_allHold_1 : decode cX1_allHold 1 = .ok (.istore_n 3, 1) := by decide +kernel
theorem dX1_allHold_2 : decode cX1_allHold 2 = .ok (.iload_n 3, 1) := by decide +kernel
theorem dX1_allHold_3 : decode cX1_allHold 3 = .ok (.aload_n 0, 1) := by decide +kernel
theorem dX1_allHold_4 : decode cX1_allHold 4 = .ok (.invokevirtual 41, 3) := by decide +kernel
theorem dX1_allHold_7 : decode cX1_allHold 7 = .ok (.if_icmp .ge 27, 3) := by decide +kernel
theorem dX1_allHold_10 : decode cX1_allHold 10 = .ok (.aload_n 0, 1) := by decide +kernel
theorem dX1_allHold_11 : decode cX1_allHold 11 = .ok (.iload_n 3, 1) := by decide +kernel
theorem dX1_allHold_12 : decode cX1_allHold 12 = .ok (.invokevirtual 45, 3) := by decide +kernel
theorem dX1_allHold_15 : decode cX1_allHold 15 = .ok (.checkcast 49, 3) := by decide +kernel
theorem dX1_allHold_18 : decode cX1_allHold 18 = .ok (.aload_n 1, 1) := by decide +kernel
theorem dX1_allHold_19 : decode cX1_allHold 19 = .ok (.aload_n 2, 1) := by decide +kernel
theorem dX1_allHold_20 : decode cX1_allHold 20 = .ok (.invokevirtual 84, 3) := by decide +kernel
theorem dX1_allHold_23 : decode cX1_allHold 23 = .ok (.ifCond .ne 5, 3) := by decide +kernel
theorem dX1_allHold_26 : decode cX1_allHold 26 = .ok (.iconst 0, 1) := by decide +kernel
theorem dX1_allHold_27 : decode cX1_allHold 27 = .ok (.ireturn, 1) := by decide +kernel
theorem dX1_allHold_28 : decode cX1_allHold 28 = .ok (.iinc 3 1, 3) := by decide +kernel
theorem dX1_allHold_31 : decode cX1_allHold 31 = .ok (.goto (-29), 3) := by decide +kernel
theorem dX1_allHold_34 : decode cX1_allHold 34 = .ok (.iconst 1, 1) := by decide +kernel
theorem dX1_allHold_35 : decode cX1_allHold 35 = .ok (.ireturn, 1) := by decide +kernel
theorem dX2_init_0 : decode cX2_init 0 = .ok (.aload_n 0, 1) := by decide +kernel
theorem dX2_init_1 : decode cX2_init 1 = .ok (.invokespecial 1, 3) := by decide +kernel
theorem dX2_init_4 : decode cX2_init 4 = .ok (.aload_n 0, 1) := by decide +kernel
theorem dX2_init_5 : decode cX2_init 5 = .ok (.aload_n 1, 1) := by decide +kernel
theorem dX2_init_6 : decode cX2_init 6 = .ok (.putfield 7, 3) := by decide +kernel
theorem dX2_init_9 : decode cX2_init 9 = .ok (.aload_n 0, 1) := by decide +kernel
theorem dX2_init_10 : decode cX2_init 10 = .ok (.iload_n 2, 1) := by decide +kernel
theorem dX2_init_11 : decode cX2_init 11 = .ok (.putfield 13, 3) := by decide +kernel
theorem dX2_init_14 : decode cX2_init 14 = .ok (.aload_n 0, 1) := by decide +kernel
theorem dX2_init_15 : decode cX2_init 15 = .ok (.aload_n 3, 1) := by decide +kernel
theorem dX2_init_16 : decode cX2_init 16 = .ok (.putfield 17, 3) := by decide +kernel
theorem dX2_init_19 : decode cX2_init 19 = .ok (.return_, 1) := by decide +kernel
set_option maxRecDepth 20000 in
theorem ggX2_holds_X7_valueIn : GoodIn wsX2_holds wsX7_valueIn := goodIn_r _ [8, 9, 10, 14, 15, 16, 17, 18] (by decide +kernel) (by decide +kernel)
set_option maxRecDepth 20000 in
theorem gX2_holds_X7_valueIn : GoodIn wsX2_holds (wsV RX2 20 RX7 yX7_valueIn wsX7_valueIn) := goodIn_app (goodIn_of _ (by decide +kernel)) ggX2_holds_X7_valueIn
theorem dX2_holds_0 : decode cX2_holds 0 = .ok (.aload_n 0, 1) := by decide +kernel
theorem dX2_holds_1 : decode cX2_holds 1 = .ok (.getfield 7, 3) := by decide +kernel
theorem dX2_holds_4 : decode cX2_holds 4 = .ok (.aload_n 1, 1) := by decide +kernel
theorem dX2_holds_5 : decode cX2_holds 5 = .ok (.aload_n 2, 1) := by decide +kernel
theorem dX2_holds_6 : decode cX2_holds 6 = .ok (.invokevirtual 20, 3) := by decide +kernel
theorem dX2_holds_9 : decode cX2_holds 9 = .ok (.istore_n 3, 1) := by decide +kernel
theorem dX2_holds_10 : decode cX2_holds 10 = .ok (.aload_n 0, 1) := by decide +kernel
theorem dX2_holds_11 : decode cX2_holds 11 = .ok (.getfield 17, 3) := by decide +kernel
theorem dX2_holds_14 : decode cX2_holds 14 = .ok (.aload_n 1, 1) := by decide +kernel
theorem dX2_holds_15 : decode cX2_holds 15 = .ok (.aload_n 2, 1) := by decide +kernel
theorem dX2_holds_16 : decode cX2_holds 16 = .ok (.invokevirtual 20, 3) := by decide +kernel
theorem dX2_holds_19 : decode cX2_holds 19 = .ok (.istore 4, 2) := by decide +kernel
theorem dX2_holds_21 : decode cX2_holds 21 = .ok (.aload_n 0, 1) := by decide +kernel
theorem dX2_holds_22 : decode cX2_holds 22 = .ok (.getfield 13, 3) := by decide +kernel
theorem dX2_holds_25 : decode cX2_holds 25 = .ok (.lookupswitch 51 #[(60, 27), (61, 39)], 27) := by decide +kernel
theorem dX2_holds_52 : decode cX2_holds 52 = .ok (.iload_n 3, 1) := by decide +kernel
theorem dX2_holds_53 : decode cX2_holds 53 = .ok (.iload 4, 2) := by decide +kernel
theorem dX2_holds_55 : decode cX2_holds 55 = .ok (.if_icmp .ge 7, 3) := by decide +kernel
theorem dX2_holds_58 : decode cX2_holds 58 = .ok (.iconst 1, 1) := by decide +kernel
theorem dX2_holds_59 : decode cX2_holds 59 = .ok (.goto 4, 3) := by decide +kernel
theorem dX2_holds_62 : decode cX2_holds 62 = .ok (.iconst 0, 1) := by decide +kernel
theorem dX2_holds_63 : decode cX2_holds 63 = .ok (.ireturn, 1) := by decide +kernel
theorem dX2_holds_64 : decode cX2_holds 64 = .ok (.iload_n 3, 1) := by decide +kernel
theorem dX2_holds_65 : decode cX2_holds 65 = .ok (.iload 4, 2) := by decide +kernel
theorem dX2_holds_67 : decode cX2_holds 67 = .ok (.if_icmp .ne 7, 3) := by decide +kernel
theorem dX2_holds_70 : decode cX2_holds 70 = .ok (.iconst 1, 1) := by decide +kernel
theorem dX2_holds_71 : decode cX2_holds 71 = .ok (.goto 4, 3) := by decide +kernel
theorem dX2_holds_74 : decode cX2_holds 74 = .ok (.iconst 0, 1) := by decide +kernel
theorem dX2_holds_75 : decode cX2_holds 75 = .ok (.ireturn, 1) := by decide +kernel
theorem dX2_holds_76 : decode cX2_holds 76 = .ok (.iload_n 3, 1) := by decide +kernel
theorem dX2_holds_77 : decode cX2_holds 77 = .ok (.iload 4, 2) := by decide +kernel
theorem dX2_holds_79 : decode cX2_holds 79 = .ok (.if_icmp .le 7, 3) := by decide +kernel
theorem dX2_holds_82 : decode cX2_holds 82 = .ok (.iconst 1, 1) := by decide +kernel
theorem dX2_holds_83 : decode cX2_holds 83 = .ok (.goto 4, 3) := by decide +kernel
theorem dX2_holds_86 : decode cX2_holds 86 = .ok (.iconst 0, 1) := by decide +kernel
theorem dX2_holds_87 : decode cX2_holds 87 = .ok (.ireturn, 1) := by decide +kernel
set_option maxRecDepth 20000 in
theorem ggX3_init_X1_init : GoodIn wsX3_init wsX1_init := goodIn_r _ [24, 25, 2, 3, 26, 17, 18, 27, 28, 29, 30, 31, 32, 33, 34, 35, 36, 37, 38, 39, 40, 41, 42, 43, 44, 45, 46, 47, 48, 49, 50, 71, 72, 73, 55, 56, 57, 76, 77, 78] (by decide +kernel) (by decide +kernel)
set_option maxRecDepth 20000 in
theorem gX3_init_X1_init_n11 : GoodIn wsX3_init (wsX1_init) := ggX3_init_X1_init
set_option maxRecDepth 20000 in
theorem ggX3_init_X10_init : GoodIn wsX3_init wsX10_init := goodIn_r _ [34, 35, 2, 3] (by decide +kernel) (by decide +kernel)
set_option maxRecDepth 20000 in
theorem gX3_init_X10_init_n44 : GoodIn wsX3_init (wsX10_init) := ggX3_init_X10_init
set_option maxRecDepth 20000 in
theorem ggX3_init_X9_init : GoodIn wsX3_init wsX9_init := goodIn_r _ [52, 53, 2, 3, 13, 54, 74, 75] (by decide +kernel) (by decide +kernel)
set_option maxRecDepth 20000 in
theorem gX3_init_X9_init_n49 : GoodIn wsX3_init (wsX9_init) := ggX3_init_X9_init
theorem dX3_init_0 : decode cX3_init 0 = .ok (.aload_n 0, 1) := by decide +kernel
theorem dX3_init_1 : decode cX3_init 1 = .ok (.invokespecial 3, 3) := by decide +kernel
theorem dX3_init_4 : decode cX3_init 4 = .ok (.aload_n 0, 1) := by decide +kernel
theorem dX3_init_5 : decode cX3_init 5 = .ok (.new 9, 3) := by decide +kernel
theorem dX3_init_8 : decode cX3_init 8 = .ok (.dup, 1) := by decide +kernel
theorem dX3_init_9 : decode cX3_init 9 = .ok (.invokespecial 11, 3) := by decide +kernel
theorem dX3_init_12 : decode cX3_init 12 = .ok (.putfield 12, 3) := by decide +kernel
theorem dX3_init_15 : decode cX3_init 15 = .ok (.aload_n 0, 1) := by decide +kernel
theorem dX3_init_16 : decode cX3_init 16 = .ok (.iconst 5, 1) := by decide +kernel
theorem dX3_init_17 : decode cX3_init 17 = .ok (.putfield 18, 3) := by decide +kernel
theorem dX3_init_20 : decode cX3_init 20 = .ok (.aload_n 0, 1) := by decide +kernel
theorem dX3_init_21 : decode cX3_init 21 = .ok (.bipush 40, 2) := by decide +kernel
theorem dX3_init_23 : decode cX3_init 23 = .ok (.anewarray 22, 3) := by decide +kernel
theorem dX3_init_26 : decode cX3_init 26 = .ok (.putfield 24, 3) := by decide +kernel
theorem dX3_init_29 : decode cX3_init 29 = .ok (.aload_n 0, 1) := by decide +kernel
theorem dX3_init_30 : decode cX3_init 30 = .ok (.bipush 40, 2) := by decide +kernel
theorem dX3_init_32 : decode cX3_init 32 = .ok (.anewarray 28, 3) := by decide +kernel
theorem dX3_init_35 : decode cX3_init 35 = .ok (.putfield 30, 3) := by decide +kernel
theorem dX3_init_38 : decode cX3_init 38 = .ok (.aload_n 0, 1) := by decide +kernel
theorem dX3_init_39 : decode cX3_init 39 = .ok (.bipush 40, 2) := by decide +kernel
theorem dX3_init_41 : decode cX3_init 41 = .ok (.newarray .int, 2) := by decide +kernel
theorem dX3_init_43 : decode cX3_init 43 = .ok (.putfield 34, 3) := by decide +kernel
theorem dX3_init_46 : decode cX3_init 46 = .ok (.aload_n 0, 1) := by decide +kernel
theorem dX3_init_47 : decode cX3_init 47 = .ok (.bipush 20, 2) := by decide +kernel
theorem dX3_init_49 : decode cX3_init 49 = .ok (.anewarray 22, 3) := by decide +kernel
theorem dX3_init_52 : decode cX3_init 52 = .ok (.putfield 38, 3) := by decide +kernel
theorem dX3_init_55 : decode cX3_init 55 = .ok (.aload_n 0, 1) := by decide +kernel
theorem dX3_init_56 : decode cX3_init 56 = .ok (.bipush 20, 2) := by decide +kernel
theorem dX3_init_58 : decode cX3_init 58 = .ok (.newarray .int, 2) := by decide +kernel
theorem dX3_init_60 : decode cX3_init 60 = .ok (.putfield 41, 3) := by decide +kernel
theorem dX3_init_63 : decode cX3_init 63 = .ok (.aload_n 0, 1) := by decide +kernel
theorem dX3_init_64 : decode cX3_init 64 = .ok (.new 28, 3) := by decide +kernel
theorem dX3_init_67 : decode cX3_init 67 = .ok (.dup, 1) := by decide +kernel
theorem dX3_init_68 : decode cX3_init 68 = .ok (.invokespecial 44, 3) := by decide +kernel
theorem dX3_init_71 : decode cX3_init 71 = .ok (.putfield 45, 3) := by decide +kernel
theorem dX3_init_74 : decode cX3_init 74 = .ok (.iconst 0, 1) := by decide +kernel
theorem dX3_init_75 : decode cX3_init 75 = .ok (.istore_n 1, 1) := by decide +kernel
theorem dX3_init_76 : decode cX3_init 76 = .ok (.iload_n 1, 1) := by decide +kernel
theorem dX3_init_77 : decode cX3_init 77 = .ok (.bipush 40, 2) := by decide +kernel
theorem dX3_init_79 : decode cX3_init 79 = .ok (.if_icmp .ge 35, 3) := by decide +kernel
theorem dX3_init_82 : decode cX3_init 82 = .ok (.aload_n 0, 1) := by decide +kernel
theorem dX3_init_83 : decode cX3_init 83 = .ok (.getfield 24, 3) := by decide +kernel
theorem dX3_init_86 : decode cX3_init 86 = .ok (.iload_n 1, 1) := by decide +kernel
theorem dX3_init_87 : decode cX3_init 87 = .ok (.new 22, 3) := by decide +kernel
theorem dX3_init_90 : decode cX3_init 90 = .ok (.dup, 1) := by decide +kernel
theorem dX3_init_91 : decode cX3_init 91 = .ok (.invokespecial 49, 3) := by decide +kernel
theorem dX3_init_94 : decode cX3_init 94 = .ok (.aastore, 1) := by decide +kernel
theorem dX3_init_95 : decode cX3_init 95 = .ok (.aload_n 0, 1) := by decide +kernel
theorem dX3_init_96 : decode cX3_init 96 = .ok (.getfield 30, 3) := by decide +kernel
theorem dX3_init_99 : decode cX3_init 99 = .ok (.iload_n 1, 1) := by decide +kernel
theorem dX3_init_100 : decode cX3_init 100 = .ok (.new 28, 3) := by decide +kernel
theorem dX3_init_103 : decode cX3_init 103 = .ok (.dup, 1) := by decide +kernel
theorem dX3_init_104 : decode cX3_init 104 = .ok (.invokespecial 44, 3) := by decide +kernel
theorem dX3_init_107 : decode cX3_init 107 = .ok (.aastore, 1) := by decide +kernel
theorem dX3_init_108 : decode cX3_init 108 = .ok (.iinc 1 1, 3) := by decide +kernel
theorem dX3_init_111 : decode cX3_init 111 = .ok (.goto (-35), 3) := by decide +kernel
theorem dX3_init_114 : decode cX3_init 114 = .ok (.iconst 0, 1) := by decide +kernel
theorem dX3_init_115 : decode cX3_init 115 = .ok (.istore_n 1, 1) := by decide +kernel
theorem dX3_init_116 : decode cX3_init 116 = .ok (.iload_n 1, 1) := by decide +kernel
theorem dX3_init_117 : decode cX3_init 117 = .ok (.bipush 20, 2) := by decide +kernel
theorem dX3_init_119 : decode cX3_init 119 = .ok (.if_icmp .ge 22, 3) := by decide +kernel
theorem dX3_init_122 : decode cX3_init 122 = .ok (.aload_n 0, 1) := by decide +kernel
theorem dX3_init_123 : decode cX3_init 123 = .ok (.getfield 38, 3) := by decide +kernel
theorem dX3_init_126 : decode cX3_init 126 = .ok (.iload_n 1, 1) := by decide +kernel
theorem dX3_init_127 : decode cX3_init 127 = .ok (.new 22, 3) := by decide +kernel
theorem dX3_init_130 : decode cX3_init 130 = .ok (.dup, 1) := by decide +kernel
theorem dX3_init_131 : decode cX3_init 131 = .ok (.invokespecial 49, 3) := by decide +kernel
theorem dX3_init_134 : decode cX3_init 134 = .ok (.aastore, 1) := by decide +kernel
theorem dX3_init_135 : decode cX3_init 135 = .ok (.iinc 1 1, 3) := by decide +kernel
theorem dX3_init_138 : decode cX3_init 138 = .ok (.goto (-22), 3) := by decide +kernel
theorem dX3_init_141 : decode cX3_init 141 = .ok (.aload_n 0, 1) := by decide +kernel
theorem dX3_init_142 : decode cX3_init 142 = .ok (.iconst 1, 1) := by decide +kernel
theorem dX3_init_143 : decode cX3_init 143 = .ok (.putfield 50, 3) := by decide +kernel
theorem dX3_init_146 : decode cX3_init 146 = .ok (.return_, 1) := by decide +kernel
set_option maxRecDepth 20000 in
theorem ggX3_restart_X10_copyFrom : GoodIn wsX3_restart wsX10_copyFrom := goodIn_r _ [13, 14, 15, 16, 33, 34, 35] (by decide +kernel) (by decide +kernel)
set_option maxRecDepth 20000 in
theorem gX3_restart_X10_copyFrom : GoodIn wsX3_restart (wsV RX3 56 RX10 yX10_copyFrom wsX10_copyFrom) := goodIn_app (goodIn_of _ (by decide +kernel)) ggX3_restart_X10_copyFrom
theorem dX3_restart_0 : decode cX3_restart 0 = .ok (.aload_n 0, 1) := by decide +kernel
theorem dX3_restart_1 : decode cX3_restart 1 = .ok (.getfield 30, 3) := by decide +kernel
theorem dX3_restart_4 : decode cX3_restart 4 = .ok (.iconst 0, 1) := by decide +kernel
theorem dX3_restart_5 : decode cX3_restart 5 = .ok (.aaload, 1) := by decide +kernel
theorem dX3_restart_6 : decode cX3_restart 6 = .ok (.aload_n 0, 1) := by decide +kernel
theorem dX3_restart_7 : decode cX3_restart 7 = .ok (.getfield 12, 3) := by decide +kernel
theorem dX3_restart_10 : decode cX3_restart 10 = .ok (.getfield 53, 3) := by decide +kernel
theorem dX3_restart_13 : decode cX3_restart 13 = .ok (.invokevirtual 56, 3) := by decide +kernel
theorem dX3_restart_16 : decode cX3_restart 16 = .ok (.aload_n 0, 1) := by decide +kernel
theorem dX3_restart_17 : decode cX3_restart 17 = .ok (.getfield 34, 3) := by decide +kernel
theorem dX3_restart_20 : decode cX3_restart 20 = .ok (.iconst 0, 1) := by decide +kernel
theorem dX3_restart_21 : decode cX3_restart 21 = .ok (.iconst 0, 1) := by decide +kernel
theorem dX3_restart_22 : decode cX3_restart 22 = .ok (.iastore, 1) := by decide +kernel
theorem dX3_restart_23 : decode cX3_restart 23 = .ok (.aload_n 0, 1) := by decide +kernel
theorem dX3_restart_24 : decode cX3_restart 24 = .ok (.iconst 1, 1) := by decide +kernel
theorem dX3_restart_25 : decode cX3_restart 25 = .ok (.putfield 50, 3) := by decide +kernel
theorem dX3_restart_28 : decode cX3_restart 28 = .ok (.aload_n 0, 1) := by decide +kernel
theorem dX3_restart_29 : decode cX3_restart 29 = .ok (.iconst 0, 1) := by decide +kernel
theorem dX3_restart_30 : decode cX3_restart 30 = .ok (.putfield 60, 3) := by decide +kernel
theorem dX3_restart_33 : decode cX3_restart 33 = .ok (.aload_n 0, 1) := by decide +kernel
theorem dX3_restart_34 : decode cX3_restart 34 = .ok (.iconst 0, 1) := by decide +kernel
theorem dX3_restart_35 : decode cX3_restart 35 = .ok (.putfield 63, 3) := by decide +kernel
theorem dX3_restart_38 : decode cX3_restart 38 = .ok (.aload_n 0, 1) := by decide +kernel
theorem dX3_restart_39 : decode cX3_restart 39 = .ok (.iconst 0, 1) := by decide +kernel
theorem dX3_restart_40 : decode cX3_restart 40 = .ok (.putfield 66, 3) := by decide +kernel
theorem dX3_restart_43 : decode cX3_restart 43 = .ok (.aload_n 0, 1) := by decide +kernel
theorem dX3_restart_44 : decode cX3_restart 44 = .ok (.iconst 0, 1) := by decide +kernel
theorem dX3_restart_45 : decode cX3_restart 45 = .ok (.putfield 69, 3) := by decide +kernel
theorem dX3_restart_48 : decode cX3_restart 48 = .ok (.return_, 1) := by decide +kernel
set_option maxRecDepth 20000 in
theorem ggX3_copyFrom_X9_copyFrom : GoodIn wsX3_copyFrom wsX9_copyFrom := goodIn_r _ [17, 18, 19, 20, 16, 21, 22, 23, 24, 25, 26, 27, 28, 29, 30, 31, 53, 54] (by decide +kernel) (by decide +kernel)
set_option maxRecDepth 20000 in
theorem gX3_copyFrom_X9_copyFrom : GoodIn wsX3_copyFrom (wsV RX3 72 RX9 yX9_copyFrom wsX9_copyFrom) := goodIn_app (goodIn_of _ (by decide +kernel)) ggX3_copyFrom_X9_copyFrom
set_option maxRecDepth 20000 in
theorem ggX3_copyFrom_X10_copyFrom : GoodIn wsX3_copyFrom wsX10_copyFrom := goodIn_r _ [36, 37, 38, 39, 55, 56, 57] (by decide +kernel) (by decide +kernel)
set_option maxRecDepth 20000 in
theorem gX3_copyFrom_X10_copyFrom : GoodIn wsX3_copyFrom (wsV RX3 56 RX10 yX10_copyFrom wsX10_copyFrom) := goodIn_app (goodIn_of _ (by decide +kernel)) ggX3_copyFrom_X10_copyFrom
theorem dX3_copyFrom_0 : decode cX3_copyFrom 0 = .ok (.aload_n 0, 1) := by decide +kernel
theorem dX3_copyFrom_1 : decode cX3_copyFrom 1 = .ok (.aload_n 1, 1) := by decide +kernel
theorem dX3_copyFrom_2 : decode cX3_copyFrom 2 = .ok (.getfield 12, 3) := by decide +kernel
theorem dX3_copyFrom_5 : decode cX3_copyFrom 5 = .ok (.putfield 12, 3) := by decide +kernel
theorem dX3_copyFrom_8 : decode cX3_copyFrom 8 = .ok (.aload_n 0, 1) := by decide +kernel
theorem dX3_copyFrom_9 : decode cX3_copyFrom 9 = .ok (.aload_n 1, 1) := by decide +kernel
theorem dX3_copyFrom_10 : decode cX3_copyFrom 10 = .ok (.getfield 18, 3) := by decide +kernel
theorem dX3_copyFrom_13 : decode cX3_copyFrom 13 = .ok (.putfield 18, 3) := by decide +kernel
theorem dX3_copyFrom_16 : decode cX3_copyFrom 16 = .ok (.iconst 0, 1) := by decide +kernel
theorem dX3_copyFrom_17 : decode cX3_copyFrom 17 = .ok (.istore_n 2, 1) := by decide +kernel
theorem dX3_copyFrom_18 : decode cX3_copyFrom 18 = .ok (.iload_n 2, 1) := by decide +kernel
theorem dX3_copyFrom_19 : decode cX3_copyFrom 19 = .ok (.bipush 40, 2) := by decide +kernel
theorem dX3_copyFrom_21 : decode cX3_copyFrom 21 = .ok (.if_icmp .ge 51, 3) := by decide +kernel
theorem dX3_copyFrom_24 : decode cX3_copyFrom 24 = .ok (.aload_n 0, 1) := by decide +kernel
theorem dX3_copyFrom_25 : decode cX3_copyFrom 25 = .ok (.getfield 24, 3) := by decide +kernel
theorem dX3_copyFrom_28 : decode cX3_copyFrom 28 = .ok (.iload_n 2, 1) := by decide +kernel
theorem dX3_copyFrom_29 : decode cX3_copyFrom 29 = .ok (.aaload, 1) := by decide +kernel
theorem dX3_copyFrom_30 : decode cX3_copyFrom 30 = .ok (.aload_n 1, 1) := by decide +kernel
theorem dX3_copyFrom_31 : decode cX3_copyFrom 31 = .ok (.getfield 24, 3) := by decide +kernel
theorem dX3_copyFrom_34 : decode cX3_copyFrom 34 = .ok (.iload_n 2, 1) := by decide +kernel
theorem dX3_copyFrom_35 : decode cX3_copyFrom 35 = .ok (.aaload, 1) := by decide +kernel
theorem dX3_copyFrom_36 : decode cX3_copyFrom 36 = .ok (.invokevirtual 72, 3) := by decide +kernel
theorem dX3_copyFrom_39 : decode cX3_copyFrom 39 = .ok (.aload_n 0, 1) := by decide +kernel
theorem dX3_copyFrom_40 : decode cX3_copyFrom 40 = .ok (.getfield 30, 3) := by decide +kernel
theorem dX3_copyFrom_43 : decode cX3_copyFrom 43 = .ok (.iload_n 2, 1) := by decide +kernel
theorem dX3_copyFrom_44 : decode cX3_copyFrom 44 = .ok (.aaload, 1) := by decide +kernel
theorem dX3_copyFrom_45 : decode cX3_copyFrom 45 = .ok (.aload_n 1, 1) := by decide +kernel
theorem dX3_copyFrom_46 : decode cX3_copyFrom 46 = .ok (.getfield 30, 3) := by decide +kernel
theorem dX3_copyFrom_49 : decode cX3_copyFrom 49 = .ok (.iload_n 2, 1) := by decide +kernel
theorem dX3_copyFrom_50 : decode cX3_copyFrom 50 = .ok (.aaload, 1) := by decide +kernel
theorem dX3_copyFrom_51 : decode cX3_copyFrom 51 = .ok (.invokevirtual 56, 3) := by decide +kernel
theorem dX3_copyFrom_54 : decode cX3_copyFrom 54 = .ok (.aload_n 0, 1) := by decide +kernel
theorem dX3_copyFrom_55 : decode cX3_copyFrom 55 = .ok (.getfield 34, 3) := by decide +kernel
theorem dX3_copyFrom_58 : decode cX3_copyFrom 58 = .ok (.iload_n 2, 1) := by decide +kernel
theorem dX3_copyFrom_59 : decode cX3_copyFrom 59 = .ok (.aload_n 1, 1) := by decide +kernel
theorem dX3_copyFrom_60 : decode cX3_copyFrom 60 = .ok (.getfield 34, 3) := by decide +kernel
theorem dX3_copyFrom_63 : decode cX3_copyFrom 63 = .ok (.iload_n 2, 1) := by decide +kernel
theorem dX3_copyFrom_64 : decode cX3_copyFrom 64 = .ok (.iaload, 1) := by decide +kernel
theorem dX3_copyFrom_65 : decode cX3_copyFrom 65 = .ok (.iastore, 1) := by decide +kernel
theorem dX3_copyFrom_66 : decode cX3_copyFrom 66 = .ok (.iinc 2 1, 3) := by decide +kernel
theorem dX3_copyFrom_69 : decode cX3_copyFrom 69 = .ok (.goto (-51), 3) := by decide +kernel
theorem dX3_copyFrom_72 : decode cX3_copyFrom 72 = .ok (.aload_n 0, 1) := by decide +kernel
theorem dX3_copyFrom_73 : decode cX3_copyFrom 73 = .ok (.aload_n 1, 1) := by decide +kernel
theorem dX3_copyFrom_74 : decode cX3_copyFrom 74 = .ok (.getfield 50, 3) := by decide +kernel
theorem dX3_copyFrom_77 : decode cX3_copyFrom 77 = .ok (.putfield 50, 3) := by decide +kernel
theorem dX3_copyFrom_80 : decode cX3_copyFrom 80 = .ok (.iconst 0, 1) := by decide +kernel
theorem dX3_copyFrom_81 : decode cX3_copyFrom 81 = .ok (.istore_n 2, 1) := by decide +kernel
theorem dX3_copyFrom_82 : decode cX3_copyFrom 82 = .ok (.iload_n 2, 1) := by decide +kernel
theorem dX3_copyFrom_83 : decode cX3_copyFrom 83 = .ok (.bipush 20, 2) := by decide +kernel
theorem dX3_copyFrom_85 : decode cX3_copyFrom 85 = .ok (.if_icmp .ge 36, 3) := by decide +kernel
theorem dX3_copyFrom_88 : decode cX3_copyFrom 88 = .ok (.aload_n 0, 1) := by decide +kernel
theorem dX3_copyFrom_89 : decode cX3_copyFrom 89 = .ok (.getfield 38, 3) := by decide +kernel
theorem dX3_copyFrom_92 : decode cX3_copyFrom 92 = .ok (.iload_n 2, 1) := by decide +kernel
theorem dX3_copyFrom_93 : decode cX3_copyFrom 93 = .ok (.aaload, 1) := by decide +kernel
theorem dX3_copyFrom_94 : decode cX3_copyFrom 94 = .ok (.aload_n 1, 1) := by decide +kernel
theorem dX3_copyFrom_95 : decode cX3_copyFrom 95 = .ok (.getfield 38, 3) := by decide +kernel
theorem dX3_copyFrom_98 : decode cX3_copyFrom 98 = .ok (.iload_n 2, 1) := by decide +kernel
theorem dX3_copyFrom_99 : decode cX3_copyFrom 99 = .ok (.aaload, 1) := by decide +kernel
theorem dX3_copyFrom_100 : decode cX3_copyFrom 100 = .ok (.invokevirtual 72, 3) := by decide +kernel
theorem dX3_copyFrom_103 : decode cX3_copyFrom 103 = .ok (.aload_n 0, 1) := by decide +kernel
theorem dX3_copyFrom_104 : decode cX3_copyFrom 104 = .ok (.getfield 41, 3) := by decide +kernel
theorem dX3_copyFrom_107 : decode cX3_copyFrom 107 = .ok (.iload_n 2, 1) := by decide +kernel
theorem dX3_copyFrom_108 : decode cX3_copyFrom 108 = .ok (.aload_n 1, 1) := by decide +kernel
theorem dX3_copyFrom_109 : decode cX3_copyFrom 109 = .ok (.getfield 41, 3) := by decide +kernel
theorem dX3_copyFrom_112 : decode cX3_copyFrom 112 = .ok (.iload_n 2, 1) := by decide +kernel
theorem dX3_copyFrom_113 : decode cX3_copyFrom 113 = .ok (.iaload, 1) := by decide +kernel
theorem dX3_copyFrom_114 : decode cX3_copyFrom 114 = .ok (.iastore, 1) := by decide +kernel
theorem dX3_copyFrom_115 : decode cX3_copyFrom 115 = .ok (.iinc 2 1, 3) := by decide +kernel
theorem dX3_copyFrom_118 : decode cX3_copyFrom 118 = .ok (.goto (-36), 3) := by decide +kernel
theorem dX3_copyFrom_121 : decode cX3_copyFrom 121 = .ok (.aload_n 0, 1) := by decide +kernel
theorem dX3_copyFrom_122 : decode cX3_copyFrom 122 = .ok (.aload_n 1, 1) := by decide +kernel
theorem dX3_copyFrom_123 : decode cX3_copyFrom 123 = .ok (.getfield 60, 3) := by decide +kernel
theorem dX3_copyFrom_126 : decode cX3_copyFrom 126 = .ok (.putfield 60, 3) := by decide +kernel
theorem dX3_copyFrom_129 : decode cX3_copyFrom 129 = .ok (.aload_n 0, 1) := by decide +kernel
theorem dX3_copyFrom_130 : decode cX3_copyFrom 130 = .ok (.aload_n 1, 1) := by decide +kernel
theorem dX3_copyFrom_131 : decode cX3_copyFrom 131 = .ok (.getfield 63, 3) := by decide +kernel
theorem dX3_copyFrom_134 : decode cX3_copyFrom 134 = .ok (.putfield 63, 3) := by decide +kernel
theorem dX3_copyFrom_137 : decode cX3_copyFrom 137 = .ok (.aload_n 0, 1) := by decide +kernel
theorem dX3_copyFrom_138 : decode cX3_copyFrom 138 = .ok (.aload_n 1, 1) := by decide +kernel
theorem dX3_copyFrom_139 : decode cX3_copyFrom 139 = .ok (.getfield 66, 3) := by decide +kernel
theorem dX3_copyFrom_142 : decode cX3_copyFrom 142 = .ok (.putfield 66, 3) := by decide +kernel
theorem dX3_copyFrom_145 : decode cX3_copyFrom 145 = .ok (.aload_n 0, 1) := by decide +kernel
theorem dX3_copyFrom_146 : decode cX3_copyFrom 146 = .ok (.aload_n 1, 1) := by decide +kernel
theorem dX3_copyFrom_147 : decode cX3_copyFrom 147 = .ok (.getfield 69, 3) := by decide +kernel
theorem dX3_copyFrom_150 : decode cX3_copyFrom 150 = .ok (.putfield 69, 3) := by decide +kernel
theorem dX3_copyFrom_153 : decode cX3_copyFrom 153 = .ok (.return_, 1) := by decide +kernel
theorem dX3_hasSequence_0 : decode cX3_hasSequence 0 = .ok (.iload_n 1, 1) := by decide +kernel
theorem dX3_hasSequence_1 : decode cX3_hasSequence 1 = .ok (.ifCond .lt 21, 3) := by decide +kernel
theorem dX3_hasSequence_4 : decode cX3_hasSequence 4 = .ok (.iload_n 1, 1) := by decide +kernel
theorem dX3_hasSequence_5 : decode cX3_hasSequence 5 = .ok (.aload_n 0, 1) := by decide +kernel
theorem dX3_hasSequence_6 : decode cX3_hasSequence 6 = .ok (.getfield 50, 3) := by decide +kernel
theorem dX3_hasSequence_9 : decode cX3_hasSequence 9 = .ok (.if_icmp .ge 13, 3) := by decide +kernel
theorem dX3_hasSequence_12 : decode cX3_hasSequence 12 = .ok (.iload_n 1, 1) := by decide +kernel
theorem dX3_hasSequence_13 : decode cX3_hasSequence 13 = .ok (.bipush 40, 2) := by decide +kernel
theorem dX3_hasSequence_15 : decode cX3_hasSequence 15 = .ok (.if_icmp .ge 7, 3) := by decide +kernel
theorem dX3_hasSequence_18 : decode cX3_hasSequence 18 = .ok (.iconst 1, 1) := by decide +kernel
theorem dX3_hasSequence_19 : decode cX3_hasSequence 19 = .ok (.goto 4, 3) := by decide +kernel
theorem dX3_hasSequence_22 : decode cX3_hasSequence 22 = .ok (.iconst 0, 1) := by decide +kernel
theorem dX3_hasSequence_23 : decode cX3_hasSequence 23 = .ok (.ireturn, 1) := by decide +kernel
theorem dX3_hasFailure_0 : decode cX3_hasFailure 0 = .ok (.iload_n 1, 1) := by decide +kernel
theorem dX3_hasFailure_1 : decode cX3_hasFailure 1 = .ok (.ifCond .lt 21, 3) := by decide +kernel
theorem dX3_hasFailure_4 : decode cX3_hasFailure 4 = .ok (.iload_n 1, 1) := by decide +kernel
theorem dX3_hasFailure_5 : decode cX3_hasFailure 5 = .ok (.aload_n 0, 1) := by decide +kernel
theorem dX3_hasFailure_6 : decode cX3_hasFailure 6 = .ok (.getfield 60, 3) := by decide +kernel
theorem dX3_hasFailure_9 : decode cX3_hasFailure 9 = .ok (.if_icmp .ge 13, 3) := by decide +kernel
theorem dX3_hasFailure_12 : decode cX3_hasFailure 12 = .ok (.iload_n 1, 1) := by decide +kernel
theorem dX3_hasFailure_13 : decode cX3_hasFailure 13 = .ok (.bipush 20, 2) := by decide +kernel
theorem dX3_hasFailure_15 : decode cX3_hasFailure 15 = .ok (.if_icmp .ge 7, 3) := by decide +kernel
theorem dX3_hasFailure_18 : decode cX3_hasFailure 18 = .ok (.iconst 1, 1) := by decide +kernel
theorem dX3_hasFailure_19 : decode cX3_hasFailure 19 = .ok (.goto 4, 3) := by decide +kernel
theorem dX3_hasFailure_22 : decode cX3_hasFailure 22 = .ok (.iconst 0, 1) := by decide +kernel
theorem dX3_hasFailure_23 : decode cX3_hasFailure 23 = .ok (.ireturn, 1) := by decide +kernel
set_option maxRecDepth 20000 in
theorem ggX3_hasProcessedPair_X3_hasSequence : GoodIn wsX3_hasProcessedPair wsX3_hasSequence := goodIn_r _ [6, 7, 8, 9, 10, 11, 12, 13, 14, 15, 16, 17, 18, 19, 20] (by decide +kernel) (by decide +kernel)
set_option maxRecDepth 20000 in
theorem gX3_hasProcessedPair_X3_hasSequence : GoodIn wsX3_hasProcessedPair (wsV RX3 75 RX3 yX3_hasSequence wsX3_hasSequence) := goodIn_app (goodIn_of _ (by decide +kernel)) ggX3_hasProcessedPair_X3_hasSequence
theorem dX3_hasProcessedPair_0 : decode cX3_hasProcessedPair 0 = .ok (.iconst 0, 1) := by decide +kernel
theorem dX3_hasProcessedPair_1 : decode cX3_hasProcessedPair 1 = .ok (.istore_n 1, 1) := by decide +kernel
theorem dX3_hasProcessedPair_2 : decode cX3_hasProcessedPair 2 = .ok (.iload_n 1, 1) := by decide +kernel
theorem dX3_hasProcessedPair_3 : decode cX3_hasProcessedPair 3 = .ok (.bipush 40, 2) := by decide +kernel
theorem dX3_hasProcessedPair_5 : decode cX3_hasProcessedPair 5 = .ok (.if_icmp .ge 28, 3) := by decide +kernel
theorem dX3_hasProcessedPair_8 : decode cX3_hasProcessedPair 8 = .ok (.aload_n 0, 1) := by decide +kernel
theorem dX3_hasProcessedPair_9 : decode cX3_hasProcessedPair 9 = .ok (.iload_n 1, 1) := by decide +kernel
theorem dX3_hasProcessedPair_10 : decode cX3_hasProcessedPair 10 = .ok (.invokevirtual 75, 3) := by decide +kernel
theorem dX3_hasProcessedPair_13 : decode cX3_hasProcessedPair 13 = .ok (.ifCond .eq 14, 3) := by decide +kernel
theorem dX3_hasProcessedPair_16 : decode cX3_hasProcessedPair 16 = .ok (.aload_n 0, 1) := by decide +kernel
theorem dX3_hasProcessedPair_17 : decode cX3_hasProcessedPair 17 = .ok (.getfield 34, 3) := by decide +kernel
theorem dX3_hasProcessedPair_20 : decode cX3_hasProcessedPair 20 = .ok (.iload_n 1, 1) := by decide +kernel
theorem dX3_hasProcessedPair_21 : decode cX3_hasProcessedPair 21 = .ok (.iaload, 1) := by decide +kernel
theorem dX3_hasProcessedPair_22 : decode cX3_hasProcessedPair 22 = .ok (.ifCond .le 5, 3) := by decide +kernel
theorem dX3_hasProcessedPair_25 : decode cX3_hasProcessedPair 25 = .ok (.iconst 1, 1) := by decide +kernel
theorem dX3_hasProcessedPair_26 : decode cX3_hasProcessedPair 26 = .ok (.ireturn, 1) := by decide +kernel
theorem dX3_hasProcessedPair_27 : decode cX3_hasProcessedPair 27 = .ok (.iinc 1 1, 3) := by decide +kernel
theorem dX3_hasProcessedPair_30 : decode cX3_hasProcessedPair 30 = .ok (.goto (-28), 3) := by decide +kernel
theorem dX3_hasProcessedPair_33 : decode cX3_hasProcessedPair 33 = .ok (.iconst 0, 1) := by decide +kernel
theorem dX3_hasProcessedPair_34 : decode cX3_hasProcessedPair 34 = .ok (.ireturn, 1) := by decide +kernel
set_option maxRecDepth 20000 in
theorem ggX3_countOpenPairs_X3_openPairsOf : GoodIn wsX3_countOpenPairs wsX3_openPairsOf := goodIn_r _ [5, 6, 7, 8, 9, 10, 11, 12, 4, 13, 14, 15, 16, 17, 18, 19, 20, 21, 22, 23, 24, 25, 26, 27, 28, 29, 30, 31, 32, 33, 34, 35, 36, 37, 38, 39, 40, 41] (by decide +kernel) (by decide +kernel)
set_option maxRecDepth 20000 in
theorem gX3_countOpenPairs_X3_openPairsOf : GoodIn wsX3_countOpenPairs (wsV RX3 79 RX3 yX3_openPairsOf wsX3_openPairsOf) := goodIn_app (goodIn_of _ (by decide +kernel)) ggX3_countOpenPairs_X3_openPairsOf
theorem dX3_countOpenPairs_0 : decode cX3_countOpenPairs 0 = .ok (.iconst 0, 1) := by decide +kernel
theorem dX3_countOpenPairs_1 : decode cX3_countOpenPairs 1 = .ok (.istore_n 1, 1) := by decide +kernel
theorem dX3_countOpenPairs_2 : decode cX3_countOpenPairs 2 = .ok (.iconst 0, 1) := by decide +kernel
theorem dX3_countOpenPairs_3 : decode cX3_countOpenPairs 3 = .ok (.istore_n 2, 1) := by decide +kernel
theorem dX3_countOpenPairs_4 : decode cX3_countOpenPairs 4 = .ok (.iload_n 2, 1) := by decide +kernel
theorem dX3_countOpenPairs_5 : decode cX3_countOpenPairs 5 = .ok (.bipush 40, 2) := by decide +kernel
theorem dX3_countOpenPairs_7 : decode cX3_countOpenPairs 7 = .ok (.if_icmp .ge 17, 3) := by decide +kernel
theorem dX3_countOpenPairs_10 : decode cX3_countOpenPairs 10 = .ok (.iload_n 1, 1) := by decide +kernel
theorem dX3_countOpenPairs_11 : decode cX3_countOpenPairs 11 = .ok (.aload_n 0, 1) := by decide +kernel
theorem dX3_countOpenPairs_12 : decode cX3_countOpenPairs 12 = .ok (.iload_n 2, 1) := by decide +kernel
theorem dX3_countOpenPairs_13 : decode cX3_countOpenPairs 13 = .ok (.invokevirtual 79, 3) := by decide +kernel
theorem dX3_countOpenPairs_16 : decode cX3_countOpenPairs 16 = .ok (.iadd, 1) := by decide +kernel
theorem dX3_countOpenPairs_17 : decode cX3_countOpenPairs 17 = .ok (.istore_n 1, 1) := by decide +kernel
theorem dX3_countOpenPairs_18 : decode cX3_countOpenPairs 18 = .ok (.iinc 2 1, 3) := by decide +kernel
theorem dX3_countOpenPairs_21 : decode cX3_countOpenPairs 21 = .ok (.goto (-17), 3) := by decide +kernel
theorem dX3_countOpenPairs_24 : decode cX3_countOpenPairs 24 = .ok (.iload_n 1, 1) := by decide +kernel
theorem dX3_countOpenPairs_25 : decode cX3_countOpenPairs 25 = .ok (.ireturn, 1) := by decide +kernel
set_option maxRecDepth 20000 in
theorem ggX3_firstOpenSequence_X3_openPairsOf : GoodIn wsX3_firstOpenSequence wsX3_openPairsOf := goodIn_r _ [5, 6, 7, 8, 9, 10, 11, 12, 4, 13, 14, 15, 16, 17, 18, 19, 20, 21, 22, 23, 24, 25, 26, 27, 28, 29, 30, 31, 32, 33, 34, 35, 36, 37, 38, 39, 40, 41] (by decide +kernel) (by decide +kernel)
set_option maxRecDepth 20000 in
theorem gX3_firstOpenSequence_X3_openPairsOf : GoodIn wsX3_firstOpenSequence (wsV RX3 79 RX3 yX3_openPairsOf wsX3_openPairsOf) := goodIn_app (goodIn_of _ (by decide +kernel)) ggX3_firstOpenSequence_X3_openPairsOf
theorem dX3_firstOpenSequence_0 : decode cX3_firstOpenSequence 0 = .ok (.iconst 0, 1) := by decide +kernel
theorem dX3_firstOpenSequence_1 : decode cX3_firstOpenSequence 1 = .ok (.istore_n 1, 1) := by decide +kernel
theorem dX3_firstOpenSequence_2 : decode cX3_firstOpenSequence 2 = .ok (.iload_n 1, 1) := by decide +kernel
theorem dX3_firstOpenSequence_3 : decode cX3_firstOpenSequence 3 = .ok (.bipush 40, 2) := by decide +kernel
theorem dX3_firstOpenSequence_5 : decode cX3_firstOpenSequence 5 = .ok (.if_icmp .ge 19, 3) := by decide +kernel
theorem dX3_firstOpenSequence_8 : decode cX3_firstOpenSequence 8 = .ok (.aload_n 0, 1) := by decide +kernel
theorem dX3_firstOpenSequence_9 : decode cX3_firstOpenSequence 9 = .ok (.iload_n 1, 1) := by decide +kernel
theorem dX3_firstOpenSequence_10 : decode cX3_firstOpenSequence 10 = .ok (.invokevirtual 79, 3) := by decide +kernel
theorem dX3_firstOpenSequence_13 : decode cX3_firstOpenSequence 13 = .ok (.ifCond .le 5, 3) := by decide +kernel
theorem dX3_firstOpenSequence_16 : decode cX3_firstOpenSequence 16 = .ok (.iload_n 1, 1) := by decide +kernel
theorem dX3_firstOpenSequence_17 : decode cX3_firstOpenSequence 17 = .ok (.ireturn, 1) := by decide +kernel
theorem dX3_firstOpenSequence_18 : decode cX3_firstOpenSequence 18 = .ok (.iinc 1 1, 3) := by decide +kernel
theorem dX3_firstOpenSequence_21 : decode cX3_firstOpenSequence 21 = .ok (.goto (-19), 3) := by decide +kernel
theorem dX3_firstOpenSequence_24 : decode cX3_firstOpenSequence 24 = .ok (.sipush (-1000), 3) := by decide +kernel
theorem dX3_firstOpenSequence_27 : decode cX3_firstOpenSequence 27 = .ok (.ireturn, 1) := by decide +kernel
set_option maxRecDepth 20000 in
theorem ggX3_openPairsOf_X3_hasSequence : GoodIn wsX3_openPairsOf wsX3_hasSequence := goodIn_r _ [9, 10, 17, 18, 19, 20, 21, 22, 23, 24, 25, 26, 27, 28, 29] (by decide +kernel) (by decide +kernel)
set_option maxRecDepth 20000 in
theorem gX3_openPairsOf_X3_hasSequence : GoodIn wsX3_openPairsOf (wsV RX3 75 RX3 yX3_hasSequence wsX3_hasSequence) := goodIn_app (goodIn_of _ (by decide +kernel)) ggX3_openPairsOf_X3_hasSequence
set_option maxRecDepth 20000 in
theorem ggX3_openPairsOf_Jx4a65c_size_8abf5 : GoodIn wsX3_openPairsOf wsJx4a65c_size_8abf5 := goodIn_r _ [15, 16, 35, 36, 37] (by decide +kernel) (by decide +kernel)
set_option maxRecDepth 20000 in
theorem gX3_openPairsOf_Jx4a65c_size_8abf5 : GoodIn wsX3_openPairsOf (wsV RX3 90 RJx4a65c yJx4a65c_size_8abf5 wsJx4a65c_size_8abf5) := goodIn_app (goodIn_of _ (by decide +kernel)) ggX3_openPairsOf_Jx4a65c_size_8abf5
theorem dX3_openPairsOf_0 : decode cX3_openPairsOf 0 = .ok (.aload_n 0, 1) := by decide +kernel
theorem dX3_openPairsOf_1 : decode cX3_openPairsOf 1 = .ok (.iload_n 1, 1) := by decide +kernel
theorem dX3_openPairsOf_2 : decode cX3_openPairsOf 2 = .ok (.invokevirtual 75, 3) := by decide +kernel
theorem dX3_openPairsOf_5 : decode cX3_openPairsOf 5 = .ok (.ifCond .eq 19, 3) := by decide +kernel
theorem dX3_openPairsOf_8 : decode cX3_openPairsOf 8 = .ok (.aload_n 0, 1) := by decide +kernel
theorem dX3_openPairsOf_9 : decode cX3_openPairsOf 9 = .ok (.getfield 24, 3) := by decide +kernel
theorem dX3_openPairsOf_12 : decode cX3_openPairsOf 12 = .ok (.iload_n 1, 1) := by decide +kernel
theorem dX3_openPairsOf_13 : decode cX3_openPairsOf 13 = .ok (.aaload, 1) := by decide +kernel
theorem dX3_openPairsOf_14 : decode cX3_openPairsOf 14 = .ok (.getfield 83, 3) := by decide +kernel
theorem dX3_openPairsOf_17 : decode cX3_openPairsOf 17 = .ok (.aload_n 0, 1) := by decide +kernel
theorem dX3_openPairsOf_18 : decode cX3_openPairsOf 18 = .ok (.getfield 18, 3) := by decide +kernel
theorem dX3_openPairsOf_21 : decode cX3_openPairsOf 21 = .ok (.if_icmp .lt 5, 3) := by decide +kernel
theorem dX3_openPairsOf_24 : decode cX3_openPairsOf 24 = .ok (.iconst 0, 1) := by decide +kernel
theorem dX3_openPairsOf_25 : decode cX3_openPairsOf 25 = .ok (.ireturn, 1) := by decide +kernel
theorem dX3_openPairsOf_26 : decode cX3_openPairsOf 26 = .ok (.aload_n 0, 1) := by decide +kernel
theorem dX3_openPairsOf_27 : decode cX3_openPairsOf 27 = .ok (.getfield 12, 3) := by decide +kernel
theorem dX3_openPairsOf_30 : decode cX3_openPairsOf 30 = .ok (.getfield 86, 3) := by decide +kernel
theorem dX3_openPairsOf_33 : decode cX3_openPairsOf 33 = .ok (.invokevirtual 90, 3) := by decide +kernel
theorem dX3_openPairsOf_36 : decode cX3_openPairsOf 36 = .ok (.aload_n 0, 1) := by decide +kernel
theorem dX3_openPairsOf_37 : decode cX3_openPairsOf 37 = .ok (.getfield 34, 3) := by decide +kernel
theorem dX3_openPairsOf_40 : decode cX3_openPairsOf 40 = .ok (.iload_n 1, 1) := by decide +kernel
theorem dX3_openPairsOf_41 : decode cX3_openPairsOf 41 = .ok (.iaload, 1) := by decide +kernel
theorem dX3_openPairsOf_42 : decode cX3_openPairsOf 42 = .ok (.isub, 1) := by decide +kernel
theorem dX3_openPairsOf_43 : decode cX3_openPairsOf 43 = .ok (.ireturn, 1) := by decide +kernel
set_option maxRecDepth 20000 in
theorem ggX3_sequenceWithState_X3_hasSequence : GoodIn wsX3_sequenceWithState wsX3_hasSequence := goodIn_r _ [6, 7, 16, 17, 18, 19, 20, 21, 22, 23, 24, 25, 26, 27, 28] (by decide +kernel) (by decide +kernel)
set_option maxRecDepth 20000 in
theorem gX3_sequenceWithState_X3_hasSequence : GoodIn wsX3_sequenceWithState (wsV RX3 75 RX3 yX3_hasSequence wsX3_hasSequence) := goodIn_app (goodIn_of _ (by decide +kernel)) ggX3_sequenceWithState_X3_hasSequence
set_option maxRecDepth 20000 in
theorem ggX3_sequenceWithState_X10_hasValues : GoodIn wsX3_sequenceWithState wsX10_hasValues := goodIn_r _ [12, 13, 14, 15, 29, 30, 31] (by decide +kernel) (by decide +kernel)
set_option maxRecDepth 20000 in
theorem gX3_sequenceWithState_X10_hasValues : GoodIn wsX3_sequenceWithState (wsV RX3 96 RX10 yX10_hasValues wsX10_hasValues) := goodIn_app (goodIn_of _ (by decide +kernel)) ggX3_sequenceWithState_X10_hasValues
theorem dX3_sequenceWithState_0 : decode cX3_sequenceWithState 0 = .ok (.iconst 0, 1) := by decide +kernel
theorem dX3_sequenceWithState_1 : decode cX3_sequenceWithState 1 = .ok (.istore 4, 2) := by decide +kernel
theorem dX3_sequenceWithState_3 : decode cX3_sequenceWithState 3 = .ok (.iload 4, 2) := by decide +kernel
theorem dX3_sequenceWithState_5 : decode cX3_sequenceWithState 5 = .ok (.bipush 40, 2) := by decide +kernel
theorem dX3_sequenceWithState_7 : decode cX3_sequenceWithState 7 = .ok (.if_icmp .ge 37, 3) := by decide +kernel
theorem dX3_sequenceWithState_10 : decode cX3_sequenceWithState 10 = .ok (.aload_n 0, 1) := by decide +kernel
theorem dX3_sequenceWithState_11 : decode cX3_sequenceWithState 11 = .ok (.iload 4, 2) := by decide +kernel
theorem dX3_sequenceWithState_13 : decode cX3_sequenceWithState 13 = .ok (.invokevirtual 75, 3) := by decide +kernel
theorem dX3_sequenceWithState_16 : decode cX3_sequenceWithState 16 = .ok (.ifCond .eq 22, 3) := by decide +kernel
theorem dX3_sequenceWithState_19 : decode cX3_sequenceWithState 19 = .ok (.aload_n 0, 1) := by decide +kernel
theorem dX3_sequenceWithState_20 : decode cX3_sequenceWithState 20 = .ok (.getfield 30, 3) := by decide +kernel
theorem dX3_sequenceWithState_23 : decode cX3_sequenceWithState 23 = .ok (.iload 4, 2) := by decide +kernel
theorem dX3_sequenceWithState_25 : decode cX3_sequenceWithState 25 = .ok (.aaload, 1) := by decide +kernel
theorem dX3_sequenceWithState_26 : decode cX3_sequenceWithState 26 = .ok (.iload_n 1, 1) := by decide +kernel
theorem dX3_sequenceWithState_27 : decode cX3_sequenceWithState 27 = .ok (.iload_n 2, 1) := by decide +kernel
theorem dX3_sequenceWithState_28 : decode cX3_sequenceWithState 28 = .ok (.iload_n 3, 1) := by decide +kernel
theorem dX3_sequenceWithState_29 : decode cX3_sequenceWithState 29 = .ok (.invokevirtual 96, 3) := by decide +kernel
theorem dX3_sequenceWithState_32 : decode cX3_sequenceWithState 32 = .ok (.ifCond .eq 6, 3) := by decide +kernel
theorem dX3_sequenceWithState_35 : decode cX3_sequenceWithState 35 = .ok (.iload 4, 2) := by decide +kernel
theorem dX3_sequenceWithState_37 : decode cX3_sequenceWithState 37 = .ok (.ireturn, 1) := by decide +kernel
theorem dX3_sequenceWithState_38 : decode cX3_sequenceWithState 38 = .ok (.iinc 4 1, 3) := by decide +kernel
theorem dX3_sequenceWithState_41 : decode cX3_sequenceWithState 41 = .ok (.goto (-38), 3) := by decide +kernel
theorem dX3_sequenceWithState_44 : decode cX3_sequenceWithState 44 = .ok (.sipush (-1000), 3) := by decide +kernel
theorem dX3_sequenceWithState_47 : decode cX3_sequenceWithState 47 = .ok (.ireturn, 1) := by decide +kernel
set_option maxRecDepth 20000 in
theorem ggX3_processFirstOpenPair_X3_firstOpenSequence : GoodIn wsX3_processFirstOpenPair wsX3_firstOpenSequence := goodIn_r _ [11, 12, 13, 14, 10, 15, 6, 16, 2, 1, 17, 18, 19, 20, 21, 22, 23, 24, 25, 26, 27, 141, 142, 143, 144, 145, 146, 147, 148, 149, 150, 151, 152, 153, 154, 155, 156, 157, 158, 159, 160, 161] (by decide +kernel) (by decide +kernel)
set_option maxRecDepth 20000 in
theorem gX3_processFirstOpenPair_X3_firstOpenSequence : GoodIn wsX3_processFirstOpenPair (wsV RX3 100 RX3 yX3_firstOpenSequence wsX3_firstOpenSequence) := goodIn_app (goodIn_of _ (by decide +kernel)) ggX3_processFirstOpenPair_X3_firstOpenSequence
set_option maxRecDepth 20000 in
theorem ggX3_processFirstOpenPair_X3_hasSequence : GoodIn wsX3_processFirstOpenPair wsX3_hasSequence := goodIn_r _ [20, 21, 141, 142, 143, 144, 145, 146, 147, 148, 149, 150, 151, 152, 153] (by decide +kernel) (by decide +kernel)
set_option maxRecDepth 20000 in
theorem gX3_processFirstOpenPair_X3_hasSequence : GoodIn wsX3_processFirstOpenPair (wsV RX3 75 RX3 yX3_hasSequence wsX3_hasSequence) := goodIn_app (goodIn_of _ (by decide +kernel)) ggX3_processFirstOpenPair_X3_hasSequence
set_option maxRecDepth 20000 in
theorem ggX3_processFirstOpenPair_X1_verdictOfCall : GoodIn wsX3_processFirstOpenPair wsX1_verdictOfCall := goodIn_r _ [32, 33, 34, 35, 36, 37, 38, 39, 31, 40, 41, 23, 24, 25, 26, 27, 42, 43, 44, 45, 46, 47, 48, 49, 50, 51, 52, 53, 54, 55, 56, 57, 58, 59, 60, 61, 62, 63, 64, 65, 66, 67, 68, 69, 70, 71, 72, 73, 74, 75, 76, 77, 78, 79, 80, 81, 82, 83, 84, 85, 86, 87, 88, 89, 90, 91, 92, 93, 94, 95, 96, 97, 98, 156, 157, 158, 162, 163, 164, 165, 166, 167, 168, 159, 160, 161, 169, 170, 171, 172, 173, 174, 175, 176] (by decide +kernel) (by decide +kernel)
set_option maxRecDepth 20000 in
theorem gX3_processFirstOpenPair_X1_verdictOfCall : GoodIn wsX3_processFirstOpenPair (wsV RX3 103 RX1 yX1_verdictOfCall wsX1_verdictOfCall) := goodIn_app (goodIn_of _ (by decide +kernel)) ggX3_processFirstOpenPair_X1_verdictOfCall
set_option maxRecDepth 20000 in
theorem ggX3_processFirstOpenPair_X3_addReached : GoodIn wsX3_processFirstOpenPair wsX3_addReached := goodIn_r _ [102, 4, 103, 21, 104, 6, 3, 1, 105, 106, 107, 10, 108, 17, 18, 19, 20, 109, 110, 111, 81, 112, 83, 84, 85, 113, 114, 115, 116, 117, 118, 119, 120, 121, 122, 123, 124, 125, 126, 127, 128, 129, 130, 131, 132, 133, 79, 80, 82, 141, 142, 143, 144, 145, 146, 147, 148, 149, 150, 151, 152, 153, 174, 175, 176, 154, 155] (by decide +kernel) (by decide +kernel)
set_option maxRecDepth 20000 in
theorem gX3_processFirstOpenPair_X3_addReached : GoodIn wsX3_processFirstOpenPair (wsV RX3 107 RX3 yX3_addReached wsX3_addReached) := goodIn_app (goodIn_of _ (by decide +kernel)) ggX3_processFirstOpenPair_X3_addReached
set_option maxRecDepth 20000 in
theorem ggX3_processFirstOpenPair_X3_addFailure : GoodIn wsX3_processFirstOpenPair wsX3_addFailure := goodIn_r _ [137, 138, 104, 139, 140, 113, 114, 115, 116, 117, 118, 119, 120, 121, 122, 123, 124, 125, 126, 127, 128, 129, 130, 131, 132, 141, 142, 143, 144, 145, 146, 147, 148, 149, 150, 151, 152, 153, 154, 155] (by decide +kernel) (by decide +kernel)
set_option maxRecDepth 20000 in
theorem gX3_processFirstOpenPair_X3_addFailure : GoodIn wsX3_processFirstOpenPair (wsV RX3 111 RX3 yX3_addFailure wsX3_addFailure) := goodIn_app (goodIn_of _ (by decide +kernel)) ggX3_processFirstOpenPair_X3_addFailure
theorem dX3_processFirstOpenPair_0 : decode cX3_processFirstOpenPair 0 = .ok (.aload_n 0, 1) := by decide +kernel
theorem dX3_processFirstOpenPair_1 : decode cX3_processFirstOpenPair 1 = .ok (.invokevirtual 100, 3) := by decide +kernel
theorem dX3_processFirstOpenPair_4 : decode cX3_processFirstOpenPair 4 = .ok (.istore_n 1, 1) := by decide +kernel
theorem dX3_processFirstOpenPair_5 : decode cX3_processFirstOpenPair 5 = .ok (.aload_n 0, 1) := by decide +kernel
theorem dX3_processFirstOpenPair_6 : decode cX3_processFirstOpenPair 6 = .ok (.iload_n 1, 1) := by decide +kernel
theorem dX3_processFirstOpenPair_7 : decode cX3_processFirstOpenPair 7 = .ok (.invokevirtual 75, 3) := by decide +kernel
theorem dX3_processFirstOpenPair_10 : decode cX3_processFirstOpenPair 10 = .ok (.ifCond .ne 5, 3) := by decide +kernel
theorem dX3_processFirstOpenPair_13 : decode cX3_processFirstOpenPair 13 = .ok (.iconst 0, 1) := by decide +kernel
theorem dX3_processFirstOpenPair_14 : decode cX3_processFirstOpenPair 14 = .ok (.ireturn, 1) := by decide +kernel
theorem dX3_processFirstOpenPair_15 : decode cX3_processFirstOpenPair 15 = .ok (.aload_n 0, 1) := by decide +kernel
theorem dX3_processFirstOpenPair_16 : decode cX3_processFirstOpenPair 16 = .ok (.getfield 34, 3) := by decide +kernel
theorem dX3_processFirstOpenPair_19 : decode cX3_processFirstOpenPair 19 = .ok (.iload_n 1, 1) := by decide +kernel
theorem dX3_processFirstOpenPair_20 : decode cX3_processFirstOpenPair 20 = .ok (.iaload, 1) := by decide +kernel
theorem dX3_processFirstOpenPair_21 : decode cX3_processFirstOpenPair 21 = .ok (.istore_n 2, 1) := by decide +kernel
theorem dX3_processFirstOpenPair_22 : decode cX3_processFirstOpenPair 22 = .ok (.aload_n 0, 1) := by decide +kernel
theorem dX3_processFirstOpenPair_23 : decode cX3_processFirstOpenPair 23 = .ok (.getfield 34, 3) := by decide +kernel
theorem dX3_processFirstOpenPair_26 : decode cX3_processFirstOpenPair 26 = .ok (.iload_n 1, 1) := by decide +kernel
theorem dX3_processFirstOpenPair_27 : decode cX3_processFirstOpenPair 27 = .ok (.dup2, 1) := by decide +kernel
theorem dX3_processFirstOpenPair_28 : decode cX3_processFirstOpenPair 28 = .ok (.iaload, 1) := by decide +kernel
theorem dX3_processFirstOpenPair_29 : decode cX3_processFirstOpenPair 29 = .ok (.iconst 1, 1) := by decide +kernel
theorem dX3_processFirstOpenPair_30 : decode cX3_processFirstOpenPair 30 = .ok (.iadd, 1) := by decide +kernel
theorem dX3_processFirstOpenPair_31 : decode cX3_processFirstOpenPair 31 = .ok (.iastore, 1) := by decide +kernel
theorem dX3_processFirstOpenPair_32 : decode cX3_processFirstOpenPair 32 = .ok (.aload_n 0, 1) := by decide +kernel
theorem dX3_processFirstOpenPair_33 : decode cX3_processFirstOpenPair 33 = .ok (.getfield 12, 3) := by decide +kernel
theorem dX3_processFirstOpenPair_36 : decode cX3_processFirstOpenPair 36 = .ok (.iload_n 2, 1) := by decide +kernel
theorem dX3_processFirstOpenPair_37 : decode cX3_processFirstOpenPair 37 = .ok (.aload_n 0, 1) := by decide +kernel
theorem dX3_processFirstOpenPair_38 : decode cX3_processFirstOpenPair 38 = .ok (.getfield 30, 3) := by decide +kernel
theorem dX3_processFirstOpenPair_41 : decode cX3_processFirstOpenPair 41 = .ok (.iload_n 1, 1) := by decide +kernel
theorem dX3_processFirstOpenPair_42 : decode cX3_processFirstOpenPair 42 = .ok (.aaload, 1) := by decide +kernel
theorem dX3_processFirstOpenPair_43 : decode cX3_processFirstOpenPair 43 = .ok (.aload_n 0, 1) := by decide +kernel
theorem dX3_processFirstOpenPair_44 : decode cX3_processFirstOpenPair 44 = .ok (.getfield 45, 3) := by decide +kernel
theorem dX3_processFirstOpenPair_47 : decode cX3_processFirstOpenPair 47 = .ok (.invokevirtual 103, 3) := by decide +kernel
theorem dX3_processFirstOpenPair_50 : decode cX3_processFirstOpenPair 50 = .ok (.istore_n 3, 1) := by decide +kernel
theorem dX3_processFirstOpenPair_51 : decode cX3_processFirstOpenPair 51 = .ok (.iload_n 3, 1) := by decide +kernel
theorem dX3_processFirstOpenPair_52 : decode cX3_processFirstOpenPair 52 = .ok (.iconst 1, 1) := by decide +kernel
theorem dX3_processFirstOpenPair_53 : decode cX3_processFirstOpenPair 53 = .ok (.if_icmp .ne 16, 3) := by decide +kernel
theorem dX3_processFirstOpenPair_56 : decode cX3_processFirstOpenPair 56 = .ok (.aload_n 0, 1) := by decide +kernel
theorem dX3_processFirstOpenPair_57 : decode cX3_processFirstOpenPair 57 = .ok (.dup, 1) := by decide +kernel
theorem dX3_processFirstOpenPair_58 : decode cX3_processFirstOpenPair 58 = .ok (.getfield 63, 3) := by decide +kernel
theorem dX3_processFirstOpenPair_61 : decode cX3_processFirstOpenPair 61 = .ok (.iconst 1, 1) := by decide +kernel
theorem dX3_processFirstOpenPair_62 : decode cX3_processFirstOpenPair 62 = .ok (.iadd, 1) := by decide +kernel
theorem dX3_processFirstOpenPair_63 : decode cX3_processFirstOpenPair 63 = .ok (.putfield 63, 3) := by decide +kernel
theorem dX3_processFirstOpenPair_66 : decode cX3_processFirstOpenPair 66 = .ok (.goto 33, 3) := by decide +kernel
theorem dX3_processFirstOpenPair_69 : decode cX3_processFirstOpenPair 69 = .ok (.iload_n 3, 1) := by decide +kernel
theorem dX3_processFirstOpenPair_70 : decode cX3_processFirstOpenPair 70 = .ok (.ifCond .ne 17, 3) := by decide +kernel
theorem dX3_processFirstOpenPair_73 : decode cX3_processFirstOpenPair 73 = .ok (.aload_n 0, 1) := by decide +kernel
theorem dX3_processFirstOpenPair_74 : decode cX3_processFirstOpenPair 74 = .ok (.aload_n 0, 1) := by decide +kernel
theorem dX3_processFirstOpenPair_75 : decode cX3_processFirstOpenPair 75 = .ok (.getfield 24, 3) := by decide +kernel
theorem dX3_processFirstOpenPair_78 : decode cX3_processFirstOpenPair 78 = .ok (.iload_n 1, 1) := by decide +kernel
theorem dX3_processFirstOpenPair_79 : decode cX3_processFirstOpenPair 79 = .ok (.aaload, 1) := by decide +kernel
theorem dX3_processFirstOpenPair_80 : decode cX3_processFirstOpenPair 80 = .ok (.iload_n 2, 1) := by decide +kernel
theorem dX3_processFirstOpenPair_81 : decode cX3_processFirstOpenPair 81 = .ok (.invokevirtual 107, 3) := by decide +kernel
theorem dX3_processFirstOpenPair_84 : decode cX3_processFirstOpenPair 84 = .ok (.goto 15, 3) := by decide +kernel
theorem dX3_processFirstOpenPair_87 : decode cX3_processFirstOpenPair 87 = .ok (.aload_n 0, 1) := by decide +kernel
theorem dX3_processFirstOpenPair_88 : decode cX3_processFirstOpenPair 88 = .ok (.aload_n 0, 1) := by decide +kernel
theorem dX3_processFirstOpenPair_89 : decode cX3_processFirstOpenPair 89 = .ok (.getfield 24, 3) := by decide +kernel
theorem dX3_processFirstOpenPair_92 : decode cX3_processFirstOpenPair 92 = .ok (.iload_n 1, 1) := by decide +kernel
theorem dX3_processFirstOpenPair_93 : decode cX3_processFirstOpenPair 93 = .ok (.aaload, 1) := by decide +kernel
theorem dX3_processFirstOpenPair_94 : decode cX3_processFirstOpenPair 94 = .ok (.iload_n 2, 1) := by decide +kernel
theorem dX3_processFirstOpenPair_95 : decode cX3_processFirstOpenPair 95 = .ok (.iload_n 3, 1) := by decide +kernel
theorem dX3_processFirstOpenPair_96 : decode cX3_processFirstOpenPair 96 = .ok (.invokevirtual 111, 3) := by decide +kernel
theorem dX3_processFirstOpenPair_99 : decode cX3_processFirstOpenPair 99 = .ok (.iconst 1, 1) := by decide +kernel
theorem dX3_processFirstOpenPair_100 : decode cX3_processFirstOpenPair 100 = .ok (.ireturn, 1) := by decide +kernel
set_option maxRecDepth 20000 in
theorem ggX3_addReached_X3_sequenceWithState : GoodIn wsX3_addReached wsX3_sequenceWithState := goodIn_r _ [12, 6, 13, 14, 15, 11, 16, 3, 17, 18, 19, 20, 21, 22, 23, 24, 49, 50, 51, 52, 53, 54, 55, 56, 57, 58, 59, 60, 61, 62, 63, 64] (by decide +kernel) (by decide +kernel)
set_option maxRecDepth 20000 in
theorem gX3_addReached_X3_sequenceWithState : GoodIn wsX3_addReached (wsV RX3 124 RX3 yX3_sequenceWithState wsX3_sequenceWithState) := goodIn_app (goodIn_of _ (by decide +kernel)) ggX3_addReached_X3_sequenceWithState
set_option maxRecDepth 20000 in
theorem ggX3_addReached_X9_copyFrom : GoodIn wsX3_addReached wsX9_copyFrom := goodIn_r _ [29, 30, 31, 32, 28, 33, 34, 35, 36, 37, 38, 39, 40, 41, 42, 43, 65, 66] (by decide +kernel) (by decide +kernel)
set_option maxRecDepth 20000 in
theorem gX3_addReached_X9_copyFrom : GoodIn wsX3_addReached (wsV RX3 72 RX9 yX9_copyFrom wsX9_copyFrom) := goodIn_app (goodIn_of _ (by decide +kernel)) ggX3_addReached_X9_copyFrom
set_option maxRecDepth 20000 in
theorem ggX3_addReached_X9_append : GoodIn wsX3_addReached wsX9_append := goodIn_r _ [43, 34, 39, 65, 66] (by decide +kernel) (by decide +kernel)
set_option maxRecDepth 20000 in
theorem gX3_addReached_X9_append : GoodIn wsX3_addReached (wsV RX3 128 RX9 yX9_append wsX9_append) := goodIn_app (goodIn_of _ (by decide +kernel)) ggX3_addReached_X9_append
set_option maxRecDepth 20000 in
theorem ggX3_addReached_X10_copyFrom : GoodIn wsX3_addReached wsX10_copyFrom := goodIn_r _ [48, 22, 23, 24, 62, 63, 64] (by decide +kernel) (by decide +kernel)
set_option maxRecDepth 20000 in
theorem gX3_addReached_X10_copyFrom : GoodIn wsX3_addReached (wsV RX3 56 RX10 yX10_copyFrom wsX10_copyFrom) := goodIn_app (goodIn_of _ (by decide +kernel)) ggX3_addReached_X10_copyFrom
theorem dX3_addReached_0 : decode cX3_addReached 0 = .ok (.aload_n 0, 1) := by decide +kernel
theorem dX3_addReached_1 : decode cX3_addReached 1 = .ok (.aload_n 0, 1) := by decide +kernel
theorem dX3_addReached_2 : decode cX3_addReached 2 = .ok (.getfield 45, 3) := by decide +kernel
theorem dX3_addReached_5 : decode cX3_addReached 5 = .ok (.getfield 115, 3) := by decide +kernel
theorem dX3_addReached_8 : decode cX3_addReached 8 = .ok (.aload_n 0, 1) := by decide +kernel
theorem dX3_addReached_9 : decode cX3_addReached 9 = .ok (.getfield 45, 3) := by decide +kernel
theorem dX3_addReached_12 : decode cX3_addReached 12 = .ok (.getfield 118, 3) := by decide +kernel
theorem dX3_addReached_15 : decode cX3_addReached 15 = .ok (.aload_n 0, 1) := by decide +kernel
theorem dX3_addReached_16 : decode cX3_addReached 16 = .ok (.getfield 45, 3) := by decide +kernel
theorem dX3_addReached_19 : decode cX3_addReached 19 = .ok (.getfield 121, 3) := by decide +kernel
theorem dX3_addReached_22 : decode cX3_addReached 22 = .ok (.invokevirtual 124, 3) := by decide +kernel
theorem dX3_addReached_25 : decode cX3_addReached 25 = .ok (.sipush (-1000), 3) := by decide +kernel
theorem dX3_addReached_28 : decode cX3_addReached 28 = .ok (.if_icmp .eq 16, 3) := by decide +kernel
theorem dX3_addReached_31 : decode cX3_addReached 31 = .ok (.aload_n 0, 1) := by decide +kernel
theorem dX3_addReached_32 : decode cX3_addReached 32 = .ok (.dup, 1) := by decide +kernel
theorem dX3_addReached_33 : decode cX3_addReached 33 = .ok (.getfield 66, 3) := by decide +kernel
theorem dX3_addReached_36 : decode cX3_addReached 36 = .ok (.iconst 1, 1) := by decide +kernel
theorem dX3_addReached_37 : decode cX3_addReached 37 = .ok (.iadd, 1) := by decide +kernel
theorem dX3_addReached_38 : decode cX3_addReached 38 = .ok (.putfield 66, 3) := by decide +kernel
theorem dX3_addReached_41 : decode cX3_addReached 41 = .ok (.goto 87, 3) := by decide +kernel
theorem dX3_addReached_44 : decode cX3_addReached 44 = .ok (.aload_n 0, 1) := by decide +kernel
theorem dX3_addReached_45 : decode cX3_addReached 45 = .ok (.getfield 50, 3) := by decide +kernel
theorem dX3_addReached_48 : decode cX3_addReached 48 = .ok (.bipush 40, 2) := by decide +kernel
theorem dX3_addReached_50 : decode cX3_addReached 50 = .ok (.if_icmp .lt 16, 3) := by decide +kernel
theorem dX3_addReached_53 : decode cX3_addReached 53 = .ok (.aload_n 0, 1) := by decide +kernel
theorem dX3_addReached_54 : decode cX3_addReached 54 = .ok (.dup, 1) := by decide +kernel
theorem dX3_addReached_55 : decode cX3_addReached 55 = .ok (.getfield 69, 3) := by decide +kernel
theorem dX3_addReached_58 : decode cX3_addReached 58 = .ok (.iconst 1, 1) := by decide +kernel
theorem dX3_addReached_59 : decode cX3_addReached 59 = .ok (.iadd, 1) := by decide +kernel
theorem dX3_addReached_60 : decode cX3_addReached 60 = .ok (.putfield 69, 3) := by decide +kernel
theorem dX3_addReached_63 : decode cX3_addReached 63 = .ok (.goto 65, 3) := by decide +kernel
theorem dX3_addReached_66 : decode cX3_addReached 66 = .ok (.aload_n 0, 1) := by decide +kernel
theorem dX3_addReached_67 : decode cX3_addReached 67 = .ok (.getfield 24, 3) := by decide +kernel
theorem dX3_addReached_70 : decode cX3_addReached 70 = .ok (.aload_n 0, 1) := by decide +kernel
theorem dX3_addReached_71 : decode cX3_addReached 71 = .ok (.getfield 50, 3) := by decide +kernel
theorem dX3_addReached_74 : decode cX3_addReached 74 = .ok (.aaload, 1) := by decide +kernel
theorem dX3_addReached_75 : decode cX3_addReached 75 = .ok (.aload_n 1, 1) := by decide +kernel
theorem dX3_addReached_76 : decode cX3_addReached 76 = .ok (.invokevirtual 72, 3) := by decide +kernel
theorem dX3_addReached_79 : decode cX3_addReached 79 = .ok (.aload_n 0, 1) := by decide +kernel
theorem dX3_addReached_80 : decode cX3_addReached 80 = .ok (.getfield 24, 3) := by decide +kernel
theorem dX3_addReached_83 : decode cX3_addReached 83 = .ok (.aload_n 0, 1) := by decide +kernel
theorem dX3_addReached_84 : decode cX3_addReached 84 = .ok (.getfield 50, 3) := by decide +kernel
theorem dX3_addReached_87 : decode cX3_addReached 87 = .ok (.aaload, 1) := by decide +kernel
theorem dX3_addReached_88 : decode cX3_addReached 88 = .ok (.iload_n 2, 1) := by decide +kernel
theorem dX3_addReached_89 : decode cX3_addReached 89 = .ok (.invokevirtual 128, 3) := by decide +kernel
theorem dX3_addReached_92 : decode cX3_addReached 92 = .ok (.aload_n 0, 1) := by decide +kernel
theorem dX3_addReached_93 : decode cX3_addReached 93 = .ok (.getfield 30, 3) := by decide +kernel
theorem dX3_addReached_96 : decode cX3_addReached 96 = .ok (.aload_n 0, 1) := by decide +kernel
theorem dX3_addReached_97 : decode cX3_addReached 97 = .ok (.getfield 50, 3) := by decide +kernel
theorem dX3_addReached_100 : decode cX3_addReached 100 = .ok (.aaload, 1) := by decide +kernel
theorem dX3_addReached_101 : decode cX3_addReached 101 = .ok (.aload_n 0, 1) := by decide +kernel
theorem dX3_addReached_102 : decode cX3_addReached 102 = .ok (.getfield 45, 3) := by decide +kernel
theorem dX3_addReached_105 : decode cX3_addReached 105 = .ok (.invokevirtual 56, 3) := by decide +kernel
theorem dX3_addReached_108 : decode cX3_addReached 108 = .ok (.aload_n 0, 1) := by decide +kernel
theorem dX3_addReached_109 : decode cX3_addReached 109 = .ok (.getfield 34, 3) := by decide +kernel
theorem dX3_addReached_112 : decode cX3_addReached 112 = .ok (.aload_n 0, 1) := by decide +kernel
theorem dX3_addReached_113 : decode cX3_addReached 113 = .ok (.getfield 50, 3) := by decide +kernel
theorem dX3_addReached_116 : decode cX3_addReached 116 = .ok (.iconst 0, 1) := by decide +kernel
theorem dX3_addReached_117 : decode cX3_addReached 117 = .ok (.iastore, 1) := by decide +kernel
theorem dX3_addReached_118 : decode cX3_addReached 118 = .ok (.aload_n 0, 1) := by decide +kernel
theorem dX3_addReached_119 : decode cX3_addReached 119 = .ok (.dup, 1) := by decide +kernel
theorem dX3_addReached_120 : decode cX3_addReached 120 = .ok (.getfield 50, 3) := by decide +kernel
theorem dX3_addReached_123 : decode cX3_addReached 123 = .ok (.iconst 1, 1) := by decide +kernel
theorem dX3_addReached_124 : decode cX3_addReached 124 = .ok (.iadd, 1) := by decide +kernel
theorem dX3_addReached_125 : decode cX3_addReached 125 = .ok (.putfield 50, 3) := by decide +kernel
theorem dX3_addReached_128 : decode cX3_addReached 128 = .ok (.return_, 1) := by decide +kernel
set_option maxRecDepth 20000 in
theorem ggX3_addFailure_X9_copyFrom : GoodIn wsX3_addFailure wsX9_copyFrom := goodIn_r _ [9, 10, 11, 12, 8, 13, 14, 15, 16, 17, 18, 19, 20, 21, 22, 23, 38, 39] (by decide +kernel) (by decide +kernel)
set_option maxRecDepth 20000 in
theorem gX3_addFailure_X9_copyFrom : GoodIn wsX3_addFailure (wsV RX3 72 RX9 yX9_copyFrom wsX9_copyFrom) := goodIn_app (goodIn_of _ (by decide +kernel)) ggX3_addFailure_X9_copyFrom
set_option maxRecDepth 20000 in
theorem ggX3_addFailure_X9_append : GoodIn wsX3_addFailure wsX9_append := goodIn_r _ [23, 14, 19, 38, 39] (by decide +kernel) (by decide +kernel)
set_option maxRecDepth 20000 in
theorem gX3_addFailure_X9_append : GoodIn wsX3_addFailure (wsV RX3 128 RX9 yX9_append wsX9_append) := goodIn_app (goodIn_of _ (by decide +kernel)) ggX3_addFailure_X9_append
theorem dX3_addFailure_0 : decode cX3_addFailure 0 = .ok (.aload_n 0, 1) := by decide +kernel
theorem dX3_addFailure_1 : decode cX3_addFailure 1 = .ok (.getfield 60, 3) := by decide +kernel
theorem dX3_addFailure_4 : decode cX3_addFailure 4 = .ok (.bipush 20, 2) := by decide +kernel
theorem dX3_addFailure_6 : decode cX3_addFailure 6 = .ok (.if_icmp .lt 16, 3) := by decide +kernel
theorem dX3_addFailure_9 : decode cX3_addFailure 9 = .ok (.aload_n 0, 1) := by decide +kernel
theorem dX3_addFailure_10 : decode cX3_addFailure 10 = .ok (.dup, 1) := by decide +kernel
theorem dX3_addFailure_11 : decode cX3_addFailure 11 = .ok (.getfield 69, 3) := by decide +kernel
theorem dX3_addFailure_14 : decode cX3_addFailure 14 = .ok (.iconst 1, 1) := by decide +kernel
theorem dX3_addFailure_15 : decode cX3_addFailure 15 = .ok (.iadd, 1) := by decide +kernel
theorem dX3_addFailure_16 : decode cX3_addFailure 16 = .ok (.putfield 69, 3) := by decide +kernel
theorem dX3_addFailure_19 : decode cX3_addFailure 19 = .ok (.goto 49, 3) := by decide +kernel
theorem dX3_addFailure_22 : decode cX3_addFailure 22 = .ok (.aload_n 0, 1) := by decide +kernel
theorem dX3_addFailure_23 : decode cX3_addFailure 23 = .ok (.getfield 38, 3) := by decide +kernel
theorem dX3_addFailure_26 : decode cX3_addFailure 26 = .ok (.aload_n 0, 1) := by decide +kernel
theorem dX3_addFailure_27 : decode cX3_addFailure 27 = .ok (.getfield 60, 3) := by decide +kernel
theorem dX3_addFailure_30 : decode cX3_addFailure 30 = .ok (.aaload, 1) := by decide +kernel
theorem dX3_addFailure_31 : decode cX3_addFailure 31 = .ok (.aload_n 1, 1) := by decide +kernel
theorem dX3_addFailure_32 : decode cX3_addFailure 32 = .ok (.invokevirtual 72, 3) := by decide +kernel
theorem dX3_addFailure_35 : decode cX3_addFailure 35 = .ok (.aload_n 0, 1) := by decide +kernel
theorem dX3_addFailure_36 : decode cX3_addFailure 36 = .ok (.getfield 38, 3) := by decide +kernel
theorem dX3_addFailure_39 : decode cX3_addFailure 39 = .ok (.aload_n 0, 1) := by decide +kernel
theorem dX3_addFailure_40 : decode cX3_addFailure 40 = .ok (.getfield 60, 3) := by decide +kernel
theorem dX3_addFailure_43 : decode cX3_addFailure 43 = .ok (.aaload, 1) := by decide +kernel
theorem dX3_addFailure_44 : decode cX3_addFailure 44 = .ok (.iload_n 2, 1) := by decide +kernel
theorem dX3_addFailure_45 : decode cX3_addFailure 45 = .ok (.invokevirtual 128, 3) := by decide +kernel
theorem dX3_addFailure_48 : decode cX3_addFailure 48 = .ok (.aload_n 0, 1) := by decide +kernel
theorem dX3_addFailure_49 : decode cX3_addFailure 49 = .ok (.getfield 41, 3) := by decide +kernel
theorem dX3_addFailure_52 : decode cX3_addFailure 52 = .ok (.aload_n 0, 1) := by decide +kernel
theorem dX3_addFailure_53 : decode cX3_addFailure 53 = .ok (.getfield 60, 3) := by decide +kernel
theorem dX3_addFailure_56 : decode cX3_addFailure 56 = .ok (.iload_n 3, 1) := by decide +kernel
theorem dX3_addFailure_57 : decode cX3_addFailure 57 = .ok (.iastore, 1) := by decide +kernel
theorem dX3_addFailure_58 : decode cX3_addFailure 58 = .ok (.aload_n 0, 1) := by decide +kernel
theorem dX3_addFailure_59 : decode cX3_addFailure 59 = .ok (.dup, 1) := by decide +kernel
theorem dX3_addFailure_60 : decode cX3_addFailure 60 = .ok (.getfield 60, 3) := by decide +kernel
theorem dX3_addFailure_63 : decode cX3_addFailure 63 = .ok (.iconst 1, 1) := by decide +kernel
theorem dX3_addFailure_64 : decode cX3_addFailure 64 = .ok (.iadd, 1) := by decide +kernel
theorem dX3_addFailure_65 : decode cX3_addFailure 65 = .ok (.putfield 60, 3) := by decide +kernel
theorem dX3_addFailure_68 : decode cX3_addFailure 68 = .ok (.return_, 1) := by decide +kernel
set_option maxRecDepth 20000 in
theorem ggX4_init_X3_init : GoodIn wsX4_init wsX3_init := goodIn_r _ [10, 11, 2, 3, 12, 13, 14, 15, 16, 17, 18, 19, 20, 21, 22, 23, 24, 25, 26, 27, 28, 29, 30, 31, 32, 33, 34, 35, 36, 37, 38, 39, 40, 41, 42, 43, 44, 45, 46, 47, 48, 49, 50, 51, 52, 53, 54, 55, 56, 57, 58, 59, 60, 61, 62, 79, 80, 81, 66, 67, 68, 69, 70, 71, 72, 73, 74, 75, 76, 77, 78, 82, 83, 84, 85, 86, 87, 88, 89] (by decide +kernel) (by decide +kernel)
set_option maxRecDepth 20000 in
theorem gX4_init_X3_init : GoodIn wsX4_init (wsX3_init) := ggX4_init_X3_init
theorem dX4_init_0 : decode cX4_init 0 = .ok (.aload_n 0, 1) := by decide +kernel
theorem dX4_init_1 : decode cX4_init 1 = .ok (.invokespecial 3, 3) := by decide +kernel
theorem dX4_init_4 : decode cX4_init 4 = .ok (.aload_n 0, 1) := by decide +kernel
theorem dX4_init_5 : decode cX4_init 5 = .ok (.bipush 6, 2) := by decide +kernel
theorem dX4_init_7 : decode cX4_init 7 = .ok (.anewarray 9, 3) := by decide +kernel
theorem dX4_init_10 : decode cX4_init 10 = .ok (.putfield 11, 3) := by decide +kernel
theorem dX4_init_13 : decode cX4_init 13 = .ok (.iconst 0, 1) := by decide +kernel
theorem dX4_init_14 : decode cX4_init 14 = .ok (.istore_n 1, 1) := by decide +kernel
theorem dX4_init_15 : decode cX4_init 15 = .ok (.iload_n 1, 1) := by decide +kernel
theorem dX4_init_16 : decode cX4_init 16 = .ok (.bipush 6, 2) := by decide +kernel
theorem dX4_init_18 : decode cX4_init 18 = .ok (.if_icmp .ge 22, 3) := by decide +kernel
theorem dX4_init_21 : decode cX4_init 21 = .ok (.aload_n 0, 1) := by decide +kernel
theorem dX4_init_22 : decode cX4_init 22 = .ok (.getfield 11, 3) := by decide +kernel
theorem dX4_init_25 : decode cX4_init 25 = .ok (.iload_n 1, 1) := by decide +kernel
theorem dX4_init_26 : decode cX4_init 26 = .ok (.new 9, 3) := by decide +kernel
theorem dX4_init_29 : decode cX4_init 29 = .ok (.dup, 1) := by decide +kernel
theorem dX4_init_30 : decode cX4_init 30 = .ok (.invokespecial 17, 3) := by decide +kernel
theorem dX4_init_33 : decode cX4_init 33 = .ok (.aastore, 1) := by decide +kernel
theorem dX4_init_34 : decode cX4_init 34 = .ok (.iinc 1 1, 3) := by decide +kernel
theorem dX4_init_37 : decode cX4_init 37 = .ok (.goto (-22), 3) := by decide +kernel
theorem dX4_init_40 : decode cX4_init 40 = .ok (.return_, 1) := by decide +kernel
theorem dX4_isEmpty_0 : decode cX4_isEmpty 0 = .ok (.aload_n 0, 1) := by decide +kernel
theorem dX4_isEmpty_1 : decode cX4_isEmpty 1 = .ok (.getfield 18, 3) := by decide +kernel
theorem dX4_isEmpty_4 : decode cX4_isEmpty 4 = .ok (.ifCond .ne 7, 3) := by decide +kernel
theorem dX4_isEmpty_7 : decode cX4_isEmpty 7 = .ok (.iconst 1, 1) := by decide +kernel
theorem dX4_isEmpty_8 : decode cX4_isEmpty 8 = .ok (.goto 4, 3) := by decide +kernel
theorem dX4_isEmpty_11 : decode cX4_isEmpty 11 = .ok (.iconst 0, 1) := by decide +kernel
theorem dX4_isEmpty_12 : decode cX4_isEmpty 12 = .ok (.ireturn, 1) := by decide +kernel
set_option maxRecDepth 20000 in
theorem ggX4_remember_X3_copyFrom : GoodIn wsX4_remember wsX3_copyFrom := goodIn_r _ [8, 9, 10, 11, 12, 13, 14, 15, 16, 17, 18, 19, 20, 21, 22, 23, 24, 25, 26, 27, 28, 29, 30, 31, 32, 33, 34, 35, 36, 37, 38, 39, 40, 41, 42, 43, 44, 45, 46, 47, 51, 52, 53, 54, 55, 56, 57, 58, 59, 60, 61, 62, 63, 64, 65, 66, 67, 68] (by decide +kernel) (by decide +kernel)
set_option maxRecDepth 20000 in
theorem gX4_remember_X3_copyFrom : GoodIn wsX4_remember (wsV RX4 25 RX3 yX3_copyFrom wsX3_copyFrom) := goodIn_app (goodIn_of _ (by decide +kernel)) ggX4_remember_X3_copyFrom
theorem dX4_remember_0 : decode cX4_remember 0 = .ok (.aload_n 0, 1) := by decide +kernel
theorem dX4_remember_1 : decode cX4_remember 1 = .ok (.aload_n 0, 1) := by decide +kernel
theorem dX4_remember_2 : decode cX4_remember 2 = .ok (.getfield 22, 3) := by decide +kernel
theorem dX4_remember_5 : decode cX4_remember 5 = .ok (.iconst 5, 1) := by decide +kernel
theorem dX4_remember_6 : decode cX4_remember 6 = .ok (.if_icmp .ge 12, 3) := by decide +kernel
theorem dX4_remember_9 : decode cX4_remember 9 = .ok (.aload_n 0, 1) := by decide +kernel
theorem dX4_remember_10 : decode cX4_remember 10 = .ok (.getfield 22, 3) := by decide +kernel
theorem dX4_remember_13 : decode cX4_remember 13 = .ok (.iconst 1, 1) := by decide +kernel
theorem dX4_remember_14 : decode cX4_remember 14 = .ok (.iadd, 1) := by decide +kernel
theorem dX4_remember_15 : decode cX4_remember 15 = .ok (.goto 4, 3) := by decide +kernel
theorem dX4_remember_18 : decode cX4_remember 18 = .ok (.iconst 0, 1) := by decide +kernel
theorem dX4_remember_19 : decode cX4_remember 19 = .ok (.putfield 22, 3) := by decide +kernel
theorem dX4_remember_22 : decode cX4_remember 22 = .ok (.aload_n 0, 1) := by decide +kernel
theorem dX4_remember_23 : decode cX4_remember 23 = .ok (.getfield 11, 3) := by decide +kernel
theorem dX4_remember_26 : decode cX4_remember 26 = .ok (.aload_n 0, 1) := by decide +kernel
theorem dX4_remember_27 : decode cX4_remember 27 = .ok (.getfield 22, 3) := by decide +kernel
theorem dX4_remember_30 : decode cX4_remember 30 = .ok (.aaload, 1) := by decide +kernel
theorem dX4_remember_31 : decode cX4_remember 31 = .ok (.aload_n 1, 1) := by decide +kernel
theorem dX4_remember_32 : decode cX4_remember 32 = .ok (.invokevirtual 25, 3) := by decide +kernel
theorem dX4_remember_35 : decode cX4_remember 35 = .ok (.aload_n 0, 1) := by decide +kernel
theorem dX4_remember_36 : decode cX4_remember 36 = .ok (.getfield 18, 3) := by decide +kernel
theorem dX4_remember_39 : decode cX4_remember 39 = .ok (.bipush 6, 2) := by decide +kernel
theorem dX4_remember_41 : decode cX4_remember 41 = .ok (.if_icmp .ge 13, 3) := by decide +kernel
theorem dX4_remember_44 : decode cX4_remember 44 = .ok (.aload_n 0, 1) := by decide +kernel
theorem dX4_remember_45 : decode cX4_remember 45 = .ok (.dup, 1) := by decide +kernel
theorem dX4_remember_46 : decode cX4_remember 46 = .ok (.getfield 18, 3) := by decide +kernel
theorem dX4_remember_49 : decode cX4_remember 49 = .ok (.iconst 1, 1) := by decide +kernel
theorem dX4_remember_50 : decode cX4_remember 50 = .ok (.iadd, 1) := by decide +kernel
theorem dX4_remember_51 : decode cX4_remember 51 = .ok (.putfield 18, 3) := by decide +kernel
theorem dX4_remember_54 : decode cX4_remember 54 = .ok (.return_, 1) := by decide +kernel
set_option maxRecDepth 20000 in
theorem ggX4_restoreLatest_X3_copyFrom : GoodIn wsX4_restoreLatest wsX3_copyFrom := goodIn_r _ [8, 9, 10, 11, 12, 13, 14, 15, 16, 17, 18, 19, 20, 21, 22, 23, 24, 25, 26, 27, 28, 29, 30, 31, 32, 33, 34, 35, 36, 37, 38, 39, 40, 41, 42, 43, 44, 45, 46, 47, 51, 52, 53, 54, 55, 56, 57, 58, 59, 60, 61, 62, 63, 64, 65, 66, 67, 68] (by decide +kernel) (by decide +kernel)
set_option maxRecDepth 20000 in
theorem gX4_restoreLatest_X3_copyFrom : GoodIn wsX4_restoreLatest (wsV RX4 25 RX3 yX3_copyFrom wsX3_copyFrom) := goodIn_app (goodIn_of _ (by decide +kernel)) ggX4_restoreLatest_X3_copyFrom
theorem dX4_restoreLatest_0 : decode cX4_restoreLatest 0 = .ok (.aload_n 1, 1) := by decide +kernel
theorem dX4_restoreLatest_1 : decode cX4_restoreLatest 1 = .ok (.aload_n 0, 1) := by decide +kernel
theorem dX4_restoreLatest_2 : decode cX4_restoreLatest 2 = .ok (.getfield 11, 3) := by decide +kernel
theorem dX4_restoreLatest_5 : decode cX4_restoreLatest 5 = .ok (.aload_n 0, 1) := by decide +kernel
theorem dX4_restoreLatest_6 : decode cX4_restoreLatest 6 = .ok (.getfield 22, 3) := by decide +kernel
theorem dX4_restoreLatest_9 : decode cX4_restoreLatest 9 = .ok (.aaload, 1) := by decide +kernel
theorem dX4_restoreLatest_10 : decode cX4_restoreLatest 10 = .ok (.invokevirtual 25, 3) := by decide +kernel
theorem dX4_restoreLatest_13 : decode cX4_restoreLatest 13 = .ok (.aload_n 0, 1) := by decide +kernel
theorem dX4_restoreLatest_14 : decode cX4_restoreLatest 14 = .ok (.aload_n 0, 1) := by decide +kernel
theorem dX4_restoreLatest_15 : decode cX4_restoreLatest 15 = .ok (.getfield 22, 3) := by decide +kernel
theorem dX4_restoreLatest_18 : decode cX4_restoreLatest 18 = .ok (.ifCond .le 12, 3) := by decide +kernel
theorem dX4_restoreLatest_21 : decode cX4_restoreLatest 21 = .ok (.aload_n 0, 1) := by decide +kernel
theorem dX4_restoreLatest_22 : decode cX4_restoreLatest 22 = .ok (.getfield 22, 3) := by decide +kernel
theorem dX4_restoreLatest_25 : decode cX4_restoreLatest 25 = .ok (.iconst 1, 1) := by decide +kernel
theorem dX4_restoreLatest_26 : decode cX4_restoreLatest 26 = .ok (.isub, 1) := by decide +kernel
theorem dX4_restoreLatest_27 : decode cX4_restoreLatest 27 = .ok (.goto 4, 3) := by decide +kernel
theorem dX4_restoreLatest_30 : decode cX4_restoreLatest 30 = .ok (.iconst 5, 1) := by decide +kernel
theorem dX4_restoreLatest_31 : decode cX4_restoreLatest 31 = .ok (.putfield 22, 3) := by decide +kernel
theorem dX4_restoreLatest_34 : decode cX4_restoreLatest 34 = .ok (.aload_n 0, 1) := by decide +kernel
theorem dX4_restoreLatest_35 : decode cX4_restoreLatest 35 = .ok (.dup, 1) := by decide +kernel
theorem dX4_restoreLatest_36 : decode cX4_restoreLatest 36 = .ok (.getfield 18, 3) := by decide +kernel
theorem dX4_restoreLatest_39 : decode cX4_restoreLatest 39 = .ok (.iconst 1, 1) := by decide +kernel
theorem dX4_restoreLatest_40 : decode cX4_restoreLatest 40 = .ok (.isub, 1) := by decide +kernel
theorem dX4_restoreLatest_41 : decode cX4_restoreLatest 41 = .ok (.putfield 18, 3) := by decide +kernel
theorem dX4_restoreLatest_44 : decode cX4_restoreLatest 44 = .ok (.aload_n 0, 1) := by decide +kernel
theorem dX4_restoreLatest_45 : decode cX4_restoreLatest 45 = .ok (.getfield 18, 3) := by decide +kernel
theorem dX4_restoreLatest_48 : decode cX4_restoreLatest 48 = .ok (.ireturn, 1) := by decide +kernel
theorem dX5_init_0 : decode cX5_init 0 = .ok (.aload_n 0, 1) := by decide +kernel
theorem dX5_init_1 : decode cX5_init 1 = .ok (.invokespecial 3, 3) := by decide +kernel
theorem dX5_init_4 : decode cX5_init 4 = .ok (.aload_n 0, 1) := by decide +kernel
theorem dX5_init_5 : decode cX5_init 5 = .ok (.sipush 200, 3) := by decide +kernel
theorem dX5_init_8 : decode cX5_init 8 = .ok (.newarray .int, 2) := by decide +kernel
theorem dX5_init_10 : decode cX5_init 10 = .ok (.putfield 9, 3) := by decide +kernel
theorem dX5_init_13 : decode cX5_init 13 = .ok (.aload_n 0, 1) := by decide +kernel
theorem dX5_init_14 : decode cX5_init 14 = .ok (.sipush 200, 3) := by decide +kernel
theorem dX5_init_17 : decode cX5_init 17 = .ok (.newarray .int, 2) := by decide +kernel
theorem dX5_init_19 : decode cX5_init 19 = .ok (.putfield 15, 3) := by decide +kernel
theorem dX5_init_22 : decode cX5_init 22 = .ok (.aload_n 0, 1) := by decide +kernel
theorem dX5_init_23 : decode cX5_init 23 = .ok (.sipush 200, 3) := by decide +kernel
theorem dX5_init_26 : decode cX5_init 26 = .ok (.newarray .int, 2) := by decide +kernel
theorem dX5_init_28 : decode cX5_init 28 = .ok (.putfield 18, 3) := by decide +kernel
theorem dX5_init_31 : decode cX5_init 31 = .ok (.return_, 1) := by decide +kernel
set_option maxRecDepth 20000 in
theorem ggX5_scan_J4_length_8abf5 : GoodIn wsX5_scan wsJ4_length_8abf5 := goodIn_r _ [11, 12, 13, 14, 15, 16, 17, 18, 112, 113, 114, 115] (by decide +kernel) (by decide +kernel)
set_option maxRecDepth 20000 in
theorem gX5_scan_J4_length_8abf5 : GoodIn wsX5_scan (wsV RX5 28 RJ4 yJ4_length_8abf5 wsJ4_length_8abf5) := goodIn_app (goodIn_of _ (by decide +kernel)) ggX5_scan_J4_length_8abf5
set_option maxRecDepth 20000 in
theorem ggX5_scan_X5_startsLexeme : GoodIn wsX5_scan wsX5_startsLexeme := goodIn_r _ [22, 23, 24, 25, 10, 26, 27, 28, 14, 29, 16, 30, 31, 32, 18, 33, 34, 35, 36, 37, 38, 39, 40, 41, 42, 43, 44, 45, 46, 47, 48, 49, 50, 51, 52, 53, 54, 55, 56, 57, 21, 58, 112, 113, 114, 115] (by decide +kernel) (by decide +kernel)
set_option maxRecDepth 20000 in
theorem gX5_scan_X5_startsLexeme : GoodIn wsX5_scan (va_wsS RX5 37 yX5_startsLexeme wsX5_startsLexeme) := goodIn_app (goodIn_of _ (by decide +kernel)) ggX5_scan_X5_startsLexeme
set_option maxRecDepth 20000 in
theorem ggX5_scan_X5_endOfLexeme : GoodIn wsX5_scan wsX5_endOfLexeme := goodIn_r _ [61, 23, 24, 25, 10, 26, 27, 28, 14, 29, 16, 30, 31, 32, 18, 33, 34, 35, 36, 37, 38, 39, 40, 41, 42, 43, 44, 45, 46, 47, 48, 49, 50, 51, 52, 53, 54, 55, 56, 57, 21, 58, 7, 8, 9, 11, 12, 13, 15, 17, 112, 113, 114, 115] (by decide +kernel) (by decide +kernel)
set_option maxRecDepth 20000 in
theorem gX5_scan_X5_endOfLexeme : GoodIn wsX5_scan (va_wsS RX5 41 yX5_endOfLexeme wsX5_endOfLexeme) := goodIn_app (goodIn_of _ (by decide +kernel)) ggX5_scan_X5_endOfLexeme
set_option maxRecDepth 20000 in
theorem ggX5_scan_X5_codeOf : GoodIn wsX5_scan wsX5_codeOf := goodIn_r _ [64, 23, 24, 25, 10, 26, 27, 28, 14, 29, 16, 30, 31, 32, 18, 33, 34, 35, 36, 37, 38, 39, 40, 41, 42, 43, 44, 45, 46, 47, 48, 49, 50, 51, 52, 53, 54, 55, 56, 57, 21, 58, 65, 66, 67, 68, 69, 70, 71, 72, 73, 74, 75, 76, 77, 78, 79, 80, 81, 82, 83, 84, 85, 86, 87, 88, 89, 90, 91, 92, 93, 94, 95, 96, 97, 98, 99, 100, 101, 102, 112, 113, 114, 115] (by decide +kernel) (by decide +kernel)
set_option maxRecDepth 20000 in
theorem gX5_scan_X5_codeOf : GoodIn wsX5_scan (va_wsS RX5 45 yX5_codeOf wsX5_codeOf) := goodIn_app (goodIn_of _ (by decide +kernel)) ggX5_scan_X5_codeOf
set_option maxRecDepth 20000 in
theorem ggX5_scan_X5_numberOf : GoodIn wsX5_scan wsX5_numberOf := goodIn_r _ [105, 23, 24, 25, 10, 26, 27, 28, 14, 29, 16, 30, 31, 32, 18, 33, 34, 35, 36, 37, 38, 39, 40, 41, 42, 43, 44, 45, 46, 47, 48, 49, 50, 51, 52, 53, 54, 55, 112, 113, 114, 115] (by decide +kernel) (by decide +kernel)
set_option maxRecDepth 20000 in
theorem gX5_scan_X5_numberOf : GoodIn wsX5_scan (va_wsS RX5 49 yX5_numberOf wsX5_numberOf) := goodIn_app (goodIn_of _ (by decide +kernel)) ggX5_scan_X5_numberOf
theorem dX5_scan_0 : decode cX5_scan 0 = .ok (.aload_n 0, 1) := by decide +kernel
theorem dX5_scan_1 : decode cX5_scan 1 = .ok (.iconst 0, 1) := by decide +kernel
theorem dX5_scan_2 : decode cX5_scan 2 = .ok (.putfield 21, 3) := by decide +kernel
theorem dX5_scan_5 : decode cX5_scan 5 = .ok (.aload_n 0, 1) := by decide +kernel
theorem dX5_scan_6 : decode cX5_scan 6 = .ok (.iconst 0, 1) := by decide +kernel
theorem dX5_scan_7 : decode cX5_scan 7 = .ok (.putfield 25, 3) := by decide +kernel
theorem dX5_scan_10 : decode cX5_scan 10 = .ok (.aload_n 0, 1) := by decide +kernel
theorem dX5_scan_11 : decode cX5_scan 11 = .ok (.aload_n 1, 1) := by decide +kernel
theorem dX5_scan_12 : decode cX5_scan 12 = .ok (.invokevirtual 28, 3) := by decide +kernel
theorem dX5_scan_15 : decode cX5_scan 15 = .ok (.putfield 34, 3) := by decide +kernel
theorem dX5_scan_18 : decode cX5_scan 18 = .ok (.iconst 0, 1) := by decide +kernel
theorem dX5_scan_19 : decode cX5_scan 19 = .ok (.istore_n 2, 1) := by decide +kernel
theorem dX5_scan_20 : decode cX5_scan 20 = .ok (.iload_n 2, 1) := by decide +kernel
theorem dX5_scan_21 : decode cX5_scan 21 = .ok (.aload_n 0, 1) := by decide +kernel
theorem dX5_scan_22 : decode cX5_scan 22 = .ok (.getfield 34, 3) := by decide +kernel
theorem dX5_scan_25 : decode cX5_scan 25 = .ok (.if_icmp .ge 102, 3) := by decide +kernel
theorem dX5_scan_28 : decode cX5_scan 28 = .ok (.aload_n 1, 1) := by decide +kernel
theorem dX5_scan_29 : decode cX5_scan 29 = .ok (.iload_n 2, 1) := by decide +kernel
theorem dX5_scan_30 : decode cX5_scan 30 = .ok (.invokestatic 37, 3) := by decide +kernel
theorem dX5_scan_33 : decode cX5_scan 33 = .ok (.ifCond .eq 88, 3) := by decide +kernel
theorem dX5_scan_36 : decode cX5_scan 36 = .ok (.aload_n 0, 1) := by decide +kernel
theorem dX5_scan_37 : decode cX5_scan 37 = .ok (.getfield 21, 3) := by decide +kernel
theorem dX5_scan_40 : decode cX5_scan 40 = .ok (.sipush 200, 3) := by decide +kernel
theorem dX5_scan_43 : decode cX5_scan 43 = .ok (.if_icmp .ge 78, 3) := by decide +kernel
theorem dX5_scan_46 : decode cX5_scan 46 = .ok (.aload_n 1, 1) := by decide +kernel
theorem dX5_scan_47 : decode cX5_scan 47 = .ok (.iload_n 2, 1) := by decide +kernel
theorem dX5_scan_48 : decode cX5_scan 48 = .ok (.invokestatic 41, 3) := by decide +kernel
theorem dX5_scan_51 : decode cX5_scan 51 = .ok (.istore_n 3, 1) := by decide +kernel
theorem dX5_scan_52 : decode cX5_scan 52 = .ok (.aload_n 0, 1) := by decide +kernel
theorem dX5_scan_53 : decode cX5_scan 53 = .ok (.getfield 15, 3) := by decide +kernel
theorem dX5_scan_56 : decode cX5_scan 56 = .ok (.aload_n 0, 1) := by decide +kernel
theorem dX5_scan_57 : decode cX5_scan 57 = .ok (.getfield 21, 3) := by decide +kernel
theorem dX5_scan_60 : decode cX5_scan 60 = .ok (.iload_n 2, 1) := by decide +kernel
theorem dX5_scan_61 : decode cX5_scan 61 = .ok (.iastore, 1) := by decide +kernel
theorem dX5_scan_62 : decode cX5_scan 62 = .ok (.aload_n 0, 1) := by decide +kernel
theorem dX5_scan_63 : decode cX5_scan 63 = .ok (.getfield 9, 3) := by decide +kernel
theorem dX5_scan_66 : decode cX5_scan 66 = .ok (.aload_n 0, 1) := by decide +kernel
theorem dX5_scan_67 : decode cX5_scan 67 = .ok (.getfield 21, 3) := by decide +kernel
theorem dX5_scan_70 : decode cX5_scan 70 = .ok (.aload_n 1, 1) := by decide +kernel
theorem dX5_scan_71 : decode cX5_scan 71 = .ok (.iload_n 2, 1) := by decide +kernel
theorem dX5_scan_72 : decode cX5_scan 72 = .ok (.iload_n 3, 1) := by decide +kernel
theorem dX5_scan_73 : decode cX5_scan 73 = .ok (.invokestatic 45, 3) := by decide +kernel
theorem dX5_scan_76 : decode cX5_scan 76 = .ok (.iastore, 1) := by decide +kernel
theorem dX5_scan_77 : decode cX5_scan 77 = .ok (.aload_n 0, 1) := by decide +kernel
theorem dX5_scan_78 : decode cX5_scan 78 = .ok (.getfield 18, 3) := by decide +kernel
theorem dX5_scan_81 : decode cX5_scan 81 = .ok (.aload_n 0, 1) := by decide +kernel
theorem dX5_scan_82 : decode cX5_scan 82 = .ok (.getfield 21, 3) := by decide +kernel
theorem dX5_scan_85 : decode cX5_scan 85 = .ok (.aload_n 0, 1) := by decide +kernel
theorem dX5_scan_86 : decode cX5_scan 86 = .ok (.getfield 9, 3) := by decide +kernel
theorem dX5_scan_89 : decode cX5_scan 89 = .ok (.aload_n 0, 1) := by decide +kernel
theorem dX5_scan_90 : decode cX5_scan 90 = .ok (.getfield 21, 3) := by decide +kernel
theorem dX5_scan_93 : decode cX5_scan 93 = .ok (.iaload, 1) := by decide +kernel
theorem dX5_scan_94 : decode cX5_scan 94 = .ok (.sipush 307, 3) := by decide +kernel
theorem dX5_scan_97 : decode cX5_scan 97 = .ok (.if_icmp .ne 12, 3) := by decide +kernel
theorem dX5_scan_100 : decode cX5_scan 100 = .ok (.aload_n 1, 1) := by decide +kernel
theorem dX5_scan_101 : decode cX5_scan 101 = .ok (.iload_n 2, 1) := by decide +kernel
theorem dX5_scan_102 : decode cX5_scan 102 = .ok (.iload_n 3, 1) := by decide +kernel
theorem dX5_scan_103 : decode cX5_scan 103 = .ok (.invokestatic 49, 3) := by decide +kernel
theorem dX5_scan_106 : decode cX5_scan 106 = .ok (.goto 4, 3) := by decide +kernel
theorem dX5_scan_109 : decode cX5_scan 109 = .ok (.iconst 0, 1) := by decide +kernel
theorem dX5_scan_110 : decode cX5_scan 110 = .ok (.iastore, 1) := by decide +kernel
theorem dX5_scan_111 : decode cX5_scan 111 = .ok (.aload_n 0, 1) := by decide +kernel
theorem dX5_scan_112 : decode cX5_scan 112 = .ok (.dup, 1) := by decide +kernel
theorem dX5_scan_113 : decode cX5_scan 113 = .ok (.getfield 21, 3) := by decide +kernel
theorem dX5_scan_116 : decode cX5_scan 116 = .ok (.iconst 1, 1) := by decide +kernel
theorem dX5_scan_117 : decode cX5_scan 117 = .ok (.iadd, 1) := by decide +kernel
theorem dX5_scan_118 : decode cX5_scan 118 = .ok (.putfield 21, 3) := by decide +kernel
theorem dX5_scan_121 : decode cX5_scan 121 = .ok (.iinc 2 1, 3) := by decide +kernel
theorem dX5_scan_124 : decode cX5_scan 124 = .ok (.goto (-104), 3) := by decide +kernel
theorem dX5_scan_127 : decode cX5_scan 127 = .ok (.return_, 1) := by decide +kernel
set_option maxRecDepth 20000 in
theorem ggX5_startsLexeme_J4_charAt_5068e : GoodIn wsX5_startsLexeme wsJ4_charAt_5068e := goodIn_r _ [5, 6, 7, 8, 9, 10, 11, 12, 13, 14, 15, 16, 17, 18, 19, 20, 21, 22, 23, 24, 25, 26, 27, 28, 29, 30, 31, 32, 33, 34, 35, 36, 37, 42, 43, 44, 45] (by decide +kernel) (by decide +kernel)
set_option maxRecDepth 20000 in
theorem gX5_startsLexeme_J4_charAt_5068e : GoodIn wsX5_startsLexeme (wsV RX5 52 RJ4 yJ4_charAt_5068e wsJ4_charAt_5068e) := goodIn_app (goodIn_of _ (by decide +kernel)) ggX5_startsLexeme_J4_charAt_5068e
set_option maxRecDepth 20000 in
theorem ggX5_startsLexeme_X5_kindOf : GoodIn wsX5_startsLexeme wsX5_kindOf := goodIn_r _ [41] (by decide +kernel) (by decide +kernel)
set_option maxRecDepth 20000 in
theorem gX5_startsLexeme_X5_kindOf : GoodIn wsX5_startsLexeme (va_wsS RX5 56 yX5_kindOf wsX5_kindOf) := goodIn_app (goodIn_of _ (by decide +kernel)) ggX5_startsLexeme_X5_kindOf
theorem dX5_startsLexeme_0 : decode cX5_startsLexeme 0 = .ok (.aload_n 0, 1) := by decide +kernel
theorem dX5_startsLexeme_1 : decode cX5_startsLexeme 1 = .ok (.iload_n 1, 1) := by decide +kernel
theorem dX5_startsLexeme_2 : decode cX5_startsLexeme 2 = .ok (.invokevirtual 52, 3) := by decide +kernel
theorem dX5_startsLexeme_5 : decode cX5_startsLexeme 5 = .ok (.invokestatic 56, 3) := by decide +kernel
theorem dX5_startsLexeme_8 : decode cX5_startsLexeme 8 = .ok (.istore_n 2, 1) := by decide +kernel
theorem dX5_startsLexeme_9 : decode cX5_startsLexeme 9 = .ok (.iload_n 2, 1) := by decide +kernel
theorem dX5_startsLexeme_10 : decode cX5_startsLexeme 10 = .ok (.ifCond .ne 5, 3) := by decide +kernel
theorem dX5_startsLexeme_13 : decode cX5_startsLexeme 13 = .ok (.iconst 0, 1) := by decide +kernel
theorem dX5_startsLexeme_14 : decode cX5_startsLexeme 14 = .ok (.ireturn, 1) := by decide +kernel
theorem dX5_startsLexeme_15 : decode cX5_startsLexeme 15 = .ok (.iload_n 2, 1) := by decide +kernel
theorem dX5_startsLexeme_16 : decode cX5_startsLexeme 16 = .ok (.iconst 3, 1) := by decide +kernel
theorem dX5_startsLexeme_17 : decode cX5_startsLexeme 17 = .ok (.if_icmp .eq 21, 3) := by decide +kernel
theorem dX5_startsLexeme_20 : decode cX5_startsLexeme 20 = .ok (.iload_n 1, 1) := by decide +kernel
theorem dX5_startsLexeme_21 : decode cX5_startsLexeme 21 = .ok (.ifCond .eq 17, 3) := by decide +kernel
theorem dX5_startsLexeme_24 : decode cX5_startsLexeme 24 = .ok (.iload_n 2, 1) := by decide +kernel
theorem dX5_startsLexeme_25 : decode cX5_startsLexeme 25 = .ok (.aload_n 0, 1) := by decide +kernel
theorem dX5_startsLexeme_26 : decode cX5_startsLexeme 26 = .ok (.iload_n 1, 1) := by decide +kernel
theorem dX5_startsLexeme_27 : decode cX5_startsLexeme 27 = .ok (.iconst 1, 1) := by decide +kernel
theorem dX5_startsLexeme_28 : decode cX5_startsLexeme 28 = .ok (.isub, 1) := by decide +kernel
theorem dX5_startsLexeme_29 : decode cX5_startsLexeme 29 = .ok (.invokevirtual 52, 3) := by decide +kernel
theorem dX5_startsLexeme_32 : decode cX5_startsLexeme 32 = .ok (.invokestatic 56, 3) := by decide +kernel
theorem dX5_startsLexeme_35 : decode cX5_startsLexeme 35 = .ok (.if_icmp .eq 7, 3) := by decide +kernel
theorem dX5_startsLexeme_38 : decode cX5_startsLexeme 38 = .ok (.iconst 1, 1) := by decide +kernel
theorem dX5_startsLexeme_39 : decode cX5_startsLexeme 39 = .ok (.goto 4, 3) := by decide +kernel
theorem dX5_startsLexeme_42 : decode cX5_startsLexeme 42 = .ok (.iconst 0, 1) := by decide +kernel
theorem dX5_startsLexeme_43 : decode cX5_startsLexeme 43 = .ok (.ireturn, 1) := by decide +kernel
set_option maxRecDepth 20000 in
theorem ggX5_endOfLexeme_J4_charAt_5068e : GoodIn wsX5_endOfLexeme wsJ4_charAt_5068e := goodIn_r _ [5, 6, 7, 8, 9, 10, 11, 12, 13, 14, 15, 16, 17, 18, 19, 20, 21, 22, 23, 24, 25, 26, 27, 28, 29, 30, 31, 32, 33, 34, 35, 36, 37, 50, 51, 52, 53] (by decide +kernel) (by decide +kernel)
set_option maxRecDepth 20000 in
theorem gX5_endOfLexeme_J4_charAt_5068e : GoodIn wsX5_endOfLexeme (wsV RX5 52 RJ4 yJ4_charAt_5068e wsJ4_charAt_5068e) := goodIn_app (goodIn_of _ (by decide +kernel)) ggX5_endOfLexeme_J4_charAt_5068e
set_option maxRecDepth 20000 in
theorem ggX5_endOfLexeme_X5_kindOf : GoodIn wsX5_endOfLexeme wsX5_kindOf := goodIn_r _ [41] (by decide +kernel) (by decide +kernel)
set_option maxRecDepth 20000 in
theorem gX5_endOfLexeme_X5_kindOf : GoodIn wsX5_endOfLexeme (va_wsS RX5 56 yX5_kindOf wsX5_kindOf) := goodIn_app (goodIn_of _ (by decide +kernel)) ggX5_endOfLexeme_X5_kindOf
set_option maxRecDepth 20000 in
theorem ggX5_endOfLexeme_J4_length_8abf5 : GoodIn wsX5_endOfLexeme wsJ4_length_8abf5 := goodIn_r _ [45, 46, 47, 8, 48, 10, 49, 14, 50, 51, 52, 53] (by decide +kernel) (by decide +kernel)
set_option maxRecDepth 20000 in
theorem gX5_endOfLexeme_J4_length_8abf5 : GoodIn wsX5_endOfLexeme (wsV RX5 28 RJ4 yJ4_length_8abf5 wsJ4_length_8abf5) := goodIn_app (goodIn_of _ (by decide +kernel)) ggX5_endOfLexeme_J4_length_8abf5
theorem dX5_endOfLexeme_0 : decode cX5_endOfLexeme 0 = .ok (.aload_n 0, 1) := by decide +kernel
theorem dX5_endOfLexeme_1 : decode cX5_endOfLexeme 1 = .ok (.iload_n 1, 1) := by decide +kernel
theorem dX5_endOfLexeme_2 : decode cX5_endOfLexeme 2 = .ok (.invokevirtual 52, 3) := by decide +kernel
theorem dX5_endOfLexeme_5 : decode cX5_endOfLexeme 5 = .ok (.invokestatic 56, 3) := by decide +kernel
theorem dX5_endOfLexeme_8 : decode cX5_endOfLexeme 8 = .ok (.istore_n 2, 1) := by decide +kernel
theorem dX5_endOfLexeme_9 : decode cX5_endOfLexeme 9 = .ok (.iload_n 1, 1) := by decide +kernel
theorem dX5_endOfLexeme_10 : decode cX5_endOfLexeme 10 = .ok (.iconst 1, 1) := by decide +kernel
theorem dX5_endOfLexeme_11 : decode cX5_endOfLexeme 11 = .ok (.iadd, 1) := by decide +kernel
theorem dX5_endOfLexeme_12 : decode cX5_endOfLexeme 12 = .ok (.istore_n 3, 1) := by decide +kernel
theorem dX5_endOfLexeme_13 : decode cX5_endOfLexeme 13 = .ok (.iload_n 3, 1) := by decide +kernel
theorem dX5_endOfLexeme_14 : decode cX5_endOfLexeme 14 = .ok (.aload_n 0, 1) := by decide +kernel
theorem dX5_endOfLexeme_15 : decode cX5_endOfLexeme 15 = .ok (.invokevirtual 28, 3) := by decide +kernel
theorem dX5_endOfLexeme_18 : decode cX5_endOfLexeme 18 = .ok (.if_icmp .ge 26, 3) := by decide +kernel
theorem dX5_endOfLexeme_21 : decode cX5_endOfLexeme 21 = .ok (.iload_n 2, 1) := by decide +kernel
theorem dX5_endOfLexeme_22 : decode cX5_endOfLexeme 22 = .ok (.iconst 3, 1) := by decide +kernel
theorem dX5_endOfLexeme_23 : decode cX5_endOfLexeme 23 = .ok (.if_icmp .eq 21, 3) := by decide +kernel
theorem dX5_endOfLexeme_26 : decode cX5_endOfLexeme 26 = .ok (.aload_n 0, 1) := by decide +kernel
theorem dX5_endOfLexeme_27 : decode cX5_endOfLexeme 27 = .ok (.iload_n 3, 1) := by decide +kernel
theorem dX5_endOfLexeme_28 : decode cX5_endOfLexeme 28 = .ok (.invokevirtual 52, 3) := by decide +kernel
theorem dX5_endOfLexeme_31 : decode cX5_endOfLexeme 31 = .ok (.invokestatic 56, 3) := by decide +kernel
theorem dX5_endOfLexeme_34 : decode cX5_endOfLexeme 34 = .ok (.iload_n 2, 1) := by decide +kernel
theorem dX5_endOfLexeme_35 : decode cX5_endOfLexeme 35 = .ok (.if_icmp .ne 9, 3) := by decide +kernel
theorem dX5_endOfLexeme_38 : decode cX5_endOfLexeme 38 = .ok (.iinc 3 1, 3) := by decide +kernel
theorem dX5_endOfLexeme_41 : decode cX5_endOfLexeme 41 = .ok (.goto (-28), 3) := by decide +kernel
theorem dX5_endOfLexeme_44 : decode cX5_endOfLexeme 44 = .ok (.iload_n 3, 1) := by decide +kernel
theorem dX5_endOfLexeme_45 : decode cX5_endOfLexeme 45 = .ok (.ireturn, 1) := by decide +kernel
theorem dX5_kindOf_0 : decode cX5_kindOf 0 = .ok (.iload_n 0, 1) := by decide +kernel
theorem dX5_kindOf_1 : decode cX5_kindOf 1 = .ok (.bipush 32, 2) := by decide +kernel
theorem dX5_kindOf_3 : decode cX5_kindOf 3 = .ok (.if_icmp .ne 5, 3) := by decide +kernel
theorem dX5_kindOf_6 : decode cX5_kindOf 6 = .ok (.iconst 0, 1) := by decide +kernel
theorem dX5_kindOf_7 : decode cX5_kindOf 7 = .ok (.ireturn, 1) := by decide +kernel
theorem dX5_kindOf_8 : decode cX5_kindOf 8 = .ok (.iload_n 0, 1) := by decide +kernel
theorem dX5_kindOf_9 : decode cX5_kindOf 9 = .ok (.bipush 97, 2) := by decide +kernel
theorem dX5_kindOf_11 : decode cX5_kindOf 11 = .ok (.if_icmp .lt 11, 3) := by decide +kernel
theorem dX5_kindOf_14 : decode cX5_kindOf 14 = .ok (.iload_n 0, 1) := by decide +kernel
theorem dX5_kindOf_15 : decode cX5_kindOf 15 = .ok (.bipush 122, 2) := by decide +kernel
theorem dX5_kindOf_17 : decode cX5_kindOf 17 = .ok (.if_icmp .gt 5, 3) := by decide +kernel
theorem dX5_kindOf_20 : decode cX5_kindOf 20 = .ok (.iconst 1, 1) := by decide +kernel
theorem dX5_kindOf_21 : decode cX5_kindOf 21 = .ok (.ireturn, 1) := by decide +kernel
theorem dX5_kindOf_22 : decode cX5_kindOf 22 = .ok (.iload_n 0, 1) := by decide +kernel
theorem dX5_kindOf_23 : decode cX5_kindOf 23 = .ok (.bipush 48, 2) := by decide +kernel
theorem dX5_kindOf_25 : decode cX5_kindOf 25 = .ok (.if_icmp .lt 13, 3) := by decide +kernel
theorem dX5_kindOf_28 : decode cX5_kindOf 28 = .ok (.iload_n 0, 1) := by decide +kernel
theorem dX5_kindOf_29 : decode cX5_kindOf 29 = .ok (.bipush 57, 2) := by decide +kernel
theorem dX5_kindOf_31 : decode cX5_kindOf 31 = .ok (.if_icmp .gt 7, 3) := by decide +kernel
theorem dX5_kindOf_34 : decode cX5_kindOf 34 = .ok (.iconst 2, 1) := by decide +kernel
theorem dX5_kindOf_35 : decode cX5_kindOf 35 = .ok (.goto 4, 3) := by decide +kernel
theorem dX5_kindOf_38 : decode cX5_kindOf 38 = .ok (.iconst 3, 1) := by decide +kernel
theorem dX5_kindOf_39 : decode cX5_kindOf 39 = .ok (.ireturn, 1) := by decide +kernel
set_option maxRecDepth 20000 in
theorem ggX5_codeOf_J4_charAt_5068e : GoodIn wsX5_codeOf wsJ4_charAt_5068e := goodIn_r _ [5, 6, 7, 8, 9, 10, 11, 12, 13, 14, 15, 16, 17, 18, 19, 20, 21, 22, 23, 24, 25, 26, 27, 28, 29, 30, 31, 32, 33, 34, 35, 36, 37, 80, 81, 82, 83] (by decide +kernel) (by decide +kernel)
set_option maxRecDepth 20000 in
theorem gX5_codeOf_J4_charAt_5068e : GoodIn wsX5_codeOf (wsV RX5 52 RJ4 yJ4_charAt_5068e wsJ4_charAt_5068e) := goodIn_app (goodIn_of _ (by decide +kernel)) ggX5_codeOf_J4_charAt_5068e
set_option maxRecDepth 20000 in
theorem ggX5_codeOf_X5_kindOf : GoodIn wsX5_codeOf wsX5_kindOf := goodIn_r _ [41] (by decide +kernel) (by decide +kernel)
set_option maxRecDepth 20000 in
theorem gX5_codeOf_X5_kindOf : GoodIn wsX5_codeOf (va_wsS RX5 56 yX5_kindOf wsX5_kindOf) := goodIn_app (goodIn_of _ (by decide +kernel)) ggX5_codeOf_X5_kindOf
set_option maxRecDepth 20000 in
theorem ggX5_codeOf_X5_codeOfWord : GoodIn wsX5_codeOf wsX5_codeOfWord := goodIn_r _ [44, 45, 46, 40, 47, 48, 49, 50, 21, 51, 52, 53, 54, 55, 56, 57, 58, 1, 2, 3, 4, 5, 6, 7, 8, 9, 10, 11, 12, 13, 14, 15, 16, 17, 18, 19, 20, 22, 23, 24, 25, 26, 27, 28, 29, 30, 31, 32, 33, 34, 35, 36, 37, 59, 60, 61, 62, 63, 64, 65, 66, 67, 68, 69, 70, 71, 72, 73, 74, 75, 76, 77, 78, 79, 80, 81, 82, 83] (by decide +kernel) (by decide +kernel)
set_option maxRecDepth 20000 in
theorem gX5_codeOf_X5_codeOfWord : GoodIn wsX5_codeOf (va_wsS RX5 60 yX5_codeOfWord wsX5_codeOfWord) := goodIn_app (goodIn_of _ (by decide +kernel)) ggX5_codeOf_X5_codeOfWord
theorem dX5_codeOf_0 : decode cX5_codeOf 0 = .ok (.aload_n 0, 1) := by decide +kernel
theorem dX5_codeOf_1 : decode cX5_codeOf 1 = .ok (.iload_n 1, 1) := by decide +kernel
theorem dX5_codeOf_2 : decode cX5_codeOf 2 = .ok (.invokevirtual 52, 3) := by decide +kernel
theorem dX5_codeOf_5 : decode cX5_codeOf 5 = .ok (.invokestatic 56, 3) := by decide +kernel
theorem dX5_codeOf_8 : decode cX5_codeOf 8 = .ok (.iconst 2, 1) := by decide +kernel
theorem dX5_codeOf_9 : decode cX5_codeOf 9 = .ok (.if_icmp .ne 20, 3) := by decide +kernel
theorem dX5_codeOf_12 : decode cX5_codeOf 12 = .ok (.iload_n 2, 1) := by decide +kernel
theorem dX5_codeOf_13 : decode cX5_codeOf 13 = .ok (.iload_n 1, 1) := by decide +kernel
theorem dX5_codeOf_14 : decode cX5_codeOf 14 = .ok (.isub, 1) := by decide +kernel
theorem dX5_codeOf_15 : decode cX5_codeOf 15 = .ok (.iconst 2, 1) := by decide +kernel
theorem dX5_codeOf_16 : decode cX5_codeOf 16 = .ok (.if_icmp .gt 9, 3) := by decide +kernel
theorem dX5_codeOf_19 : decode cX5_codeOf 19 = .ok (.sipush 307, 3) := by decide +kernel
theorem dX5_codeOf_22 : decode cX5_codeOf 22 = .ok (.goto 6, 3) := by decide +kernel
theorem dX5_codeOf_25 : decode cX5_codeOf 25 = .ok (.sipush 308, 3) := by decide +kernel
theorem dX5_codeOf_28 : decode cX5_codeOf 28 = .ok (.ireturn, 1) := by decide +kernel
theorem dX5_codeOf_29 : decode cX5_codeOf 29 = .ok (.iload_n 2, 1) := by decide +kernel
theorem dX5_codeOf_30 : decode cX5_codeOf 30 = .ok (.iload_n 1, 1) := by decide +kernel
theorem dX5_codeOf_31 : decode cX5_codeOf 31 = .ok (.isub, 1) := by decide +kernel
theorem dX5_codeOf_32 : decode cX5_codeOf 32 = .ok (.iconst 1, 1) := by decide +kernel
theorem dX5_codeOf_33 : decode cX5_codeOf 33 = .ok (.if_icmp .ne 9, 3) := by decide +kernel
theorem dX5_codeOf_36 : decode cX5_codeOf 36 = .ok (.aload_n 0, 1) := by decide +kernel
theorem dX5_codeOf_37 : decode cX5_codeOf 37 = .ok (.iload_n 1, 1) := by decide +kernel
theorem dX5_codeOf_38 : decode cX5_codeOf 38 = .ok (.invokevirtual 52, 3) := by decide +kernel
theorem dX5_codeOf_41 : decode cX5_codeOf 41 = .ok (.ireturn, 1) := by decide +kernel
theorem dX5_codeOf_42 : decode cX5_codeOf 42 = .ok (.aload_n 0, 1) := by decide +kernel
theorem dX5_codeOf_43 : decode cX5_codeOf 43 = .ok (.iload_n 1, 1) := by decide +kernel
theorem dX5_codeOf_44 : decode cX5_codeOf 44 = .ok (.iload_n 2, 1) := by decide +kernel
theorem dX5_codeOf_45 : decode cX5_codeOf 45 = .ok (.invokestatic 60, 3) := by decide +kernel
theorem dX5_codeOf_48 : decode cX5_codeOf 48 = .ok (.ireturn, 1) := by decide +kernel
set_option maxRecDepth 20000 in
theorem ggX5_codeOfWord_X5_isWord : GoodIn wsX5_codeOfWord wsX5_isWord := goodIn_r _ [4, 5, 6, 7, 8, 9, 10, 11, 12, 13, 14, 15, 16, 17, 18, 19, 20, 21, 22, 23, 24, 25, 26, 27, 28, 29, 30, 31, 32, 33, 34, 35, 36, 37, 38, 39, 40, 41, 42, 43, 44, 45, 46, 47, 48, 49, 50, 51, 52, 53, 54, 55, 56, 57, 58, 59, 60, 61, 62, 63, 64, 65, 66, 67, 68, 69, 70, 71, 72, 73, 74, 75, 76, 77] (by decide +kernel) (by decide +kernel)
set_option maxRecDepth 20000 in
theorem gX5_codeOfWord_X5_isWord : GoodIn wsX5_codeOfWord (va_wsS RX5 65 yX5_isWord wsX5_isWord) := goodIn_app (goodIn_of _ (by decide +kernel)) ggX5_codeOfWord_X5_isWord
theorem dX5_codeOfWord_0 : decode cX5_codeOfWord 0 = .ok (.ldc 63, 2) := by decide +kernel
theorem dX5_codeOfWord_2 : decode cX5_codeOfWord 2 = .ok (.aload_n 0, 1) := by decide +kernel
theorem dX5_codeOfWord_3 : decode cX5_codeOfWord 3 = .ok (.iload_n 1, 1) := by decide +kernel
theorem dX5_codeOfWord_4 : decode cX5_codeOfWord 4 = .ok (.iload_n 2, 1) := by decide +kernel
theorem dX5_codeOfWord_5 : decode cX5_codeOfWord 5 = .ok (.invokestatic 65, 3) := by decide +kernel
theorem dX5_codeOfWord_8 : decode cX5_codeOfWord 8 = .ok (.ifCond .eq 7, 3) := by decide +kernel
theorem dX5_codeOfWord_11 : decode cX5_codeOfWord 11 = .ok (.sipush 300, 3) := by decide +kernel
theorem dX5_codeOfWord_14 : decode cX5_codeOfWord 14 = .ok (.ireturn, 1) := by decide +kernel
theorem dX5_codeOfWord_15 : decode cX5_codeOfWord 15 = .ok (.ldc 69, 2) := by decide +kernel
theorem dX5_codeOfWord_17 : decode cX5_codeOfWord 17 = .ok (.aload_n 0, 1) := by decide +kernel
theorem dX5_codeOfWord_18 : decode cX5_codeOfWord 18 = .ok (.iload_n 1, 1) := by decide +kernel
theorem dX5_codeOfWord_19 : decode cX5_codeOfWord 19 = .ok (.iload_n 2, 1) := by decide +kernel
theorem dX5_codeOfWord_20 : decode cX5_codeOfWord 20 = .ok (.invokestatic 65, 3) := by decide +kernel
theorem dX5_codeOfWord_23 : decode cX5_codeOfWord 23 = .ok (.ifCond .eq 7, 3) := by decide +kernel
theorem dX5_codeOfWord_26 : decode cX5_codeOfWord 26 = .ok (.sipush 301, 3) := by decide +kernel
theorem dX5_codeOfWord_29 : decode cX5_codeOfWord 29 = .ok (.ireturn, 1) := by decide +kernel
theorem dX5_codeOfWord_30 : decode cX5_codeOfWord 30 = .ok (.ldc 71, 2) := by decide +kernel
theorem dX5_codeOfWord_32 : decode cX5_codeOfWord 32 = .ok (.aload_n 0, 1) := by decide +kernel
theorem dX5_codeOfWord_33 : decode cX5_codeOfWord 33 = .ok (.iload_n 1, 1) := by decide +kernel
theorem dX5_codeOfWord_34 : decode cX5_codeOfWord 34 = .ok (.iload_n 2, 1) := by decide +kernel
theorem dX5_codeOfWord_35 : decode cX5_codeOfWord 35 = .ok (.invokestatic 65, 3) := by decide +kernel
theorem dX5_codeOfWord_38 : decode cX5_codeOfWord 38 = .ok (.ifCond .eq 7, 3) := by decide +kernel
theorem dX5_codeOfWord_41 : decode cX5_codeOfWord 41 = .ok (.sipush 302, 3) := by decide +kernel
theorem dX5_codeOfWord_44 : decode cX5_codeOfWord 44 = .ok (.ireturn, 1) := by decide +kernel
theorem dX5_codeOfWord_45 : decode cX5_codeOfWord 45 = .ok (.ldc 73, 2) := by decide +kernel
theorem dX5_codeOfWord_47 : decode cX5_codeOfWord 47 = .ok (.aload_n 0, 1) := by decide +kernel
theorem dX5_codeOfWord_48 : decode cX5_codeOfWord 48 = .ok (.iload_n 1, 1) := by decide +kernel
theorem dX5_codeOfWord_49 : decode cX5_codeOfWord 49 = .ok (.iload_n 2, 1) := by decide +kernel
theorem dX5_codeOfWord_50 : decode cX5_codeOfWord 50 = .ok (.invokestatic 65, 3) := by decide +kernel
theorem dX5_codeOfWord_53 : decode cX5_codeOfWord 53 = .ok (.ifCond .eq 7, 3) := by decide +kernel
theorem dX5_codeOfWord_56 : decode cX5_codeOfWord 56 = .ok (.sipush 303, 3) := by decide +kernel
theorem dX5_codeOfWord_59 : decode cX5_codeOfWord 59 = .ok (.ireturn, 1) := by decide +kernel
theorem dX5_codeOfWord_60 : decode cX5_codeOfWord 60 = .ok (.ldc 75, 2) := by decide +kernel
theorem dX5_codeOfWord_62 : decode cX5_codeOfWord 62 = .ok (.aload_n 0, 1) := by decide +kernel
theorem dX5_codeOfWord_63 : decode cX5_codeOfWord 63 = .ok (.iload_n 1, 1) := by decide +kernel
theorem dX5_codeOfWord_64 : decode cX5_codeOfWord 64 = .ok (.iload_n 2, 1) := by decide +kernel
theorem dX5_codeOfWord_65 : decode cX5_codeOfWord 65 = .ok (.invokestatic 65, 3) := by decide +kernel
theorem dX5_codeOfWord_68 : decode cX5_codeOfWord 68 = .ok (.ifCond .eq 7, 3) := by decide +kernel
theorem dX5_codeOfWord_71 : decode cX5_codeOfWord 71 = .ok (.sipush 304, 3) := by decide +kernel
theorem dX5_codeOfWord_74 : decode cX5_codeOfWord 74 = .ok (.ireturn, 1) := by decide +kernel
theorem dX5_codeOfWord_75 : decode cX5_codeOfWord 75 = .ok (.ldc 77, 2) := by decide +kernel
theorem dX5_codeOfWord_77 : decode cX5_codeOfWord 77 = .ok (.aload_n 0, 1) := by decide +kernel
theorem dX5_codeOfWord_78 : decode cX5_codeOfWord 78 = .ok (.iload_n 1, 1) := by decide +kernel
theorem dX5_codeOfWord_79 : decode cX5_codeOfWord 79 = .ok (.iload_n 2, 1) := by decide +kernel
theorem dX5_codeOfWord_80 : decode cX5_codeOfWord 80 = .ok (.invokestatic 65, 3) := by decide +kernel
theorem dX5_codeOfWord_83 : decode cX5_codeOfWord 83 = .ok (.ifCond .eq 7, 3) := by decide +kernel
theorem dX5_codeOfWord_86 : decode cX5_codeOfWord 86 = .ok (.sipush 305, 3) := by decide +kernel
theorem dX5_codeOfWord_89 : decode cX5_codeOfWord 89 = .ok (.ireturn, 1) := by decide +kernel
theorem dX5_codeOfWord_90 : decode cX5_codeOfWord 90 = .ok (.ldc 79, 2) := by decide +kernel
theorem dX5_codeOfWord_92 : decode cX5_codeOfWord 92 = .ok (.aload_n 0, 1) := by decide +kernel
theorem dX5_codeOfWord_93 : decode cX5_codeOfWord 93 = .ok (.iload_n 1, 1) := by decide +kernel
theorem dX5_codeOfWord_94 : decode cX5_codeOfWord 94 = .ok (.iload_n 2, 1) := by decide +kernel
theorem dX5_codeOfWord_95 : decode cX5_codeOfWord 95 = .ok (.invokestatic 65, 3) := by decide +kernel
theorem dX5_codeOfWord_98 : decode cX5_codeOfWord 98 = .ok (.ifCond .eq 9, 3) := by decide +kernel
theorem dX5_codeOfWord_101 : decode cX5_codeOfWord 101 = .ok (.sipush 306, 3) := by decide +kernel
theorem dX5_codeOfWord_104 : decode cX5_codeOfWord 104 = .ok (.goto 6, 3) := by decide +kernel
theorem dX5_codeOfWord_107 : decode cX5_codeOfWord 107 = .ok (.sipush 308, 3) := by decide +kernel
theorem dX5_codeOfWord_110 : decode cX5_codeOfWord 110 = .ok (.ireturn, 1) := by decide +kernel
set_option maxRecDepth 20000 in
theorem ggX5_isWord_J0_length_8abf5 : GoodIn wsX5_isWord wsJ0_length_8abf5 := goodIn_r _ [5, 6, 7, 8, 9, 4, 10, 11, 12] (by decide +kernel) (by decide +kernel)
set_option maxRecDepth 20000 in
theorem gX5_isWord_J0_length_8abf5 : GoodIn wsX5_isWord (wsV RX5 81 RJ0 yJ0_length_8abf5 wsJ0_length_8abf5) := goodIn_app (goodIn_of _ (by decide +kernel)) ggX5_isWord_J0_length_8abf5
set_option maxRecDepth 20000 in
theorem ggX5_isWord_J4_charAt_5068e : GoodIn wsX5_isWord wsJ4_charAt_5068e := goodIn_r _ [17, 18, 19, 20, 21, 22, 23, 24, 25, 26, 27, 28, 29, 30, 31, 32, 4, 33, 34, 35, 36, 37, 38, 39, 40, 41, 42, 43, 44, 45, 46, 47, 48, 70, 71, 72, 73] (by decide +kernel) (by decide +kernel)
set_option maxRecDepth 20000 in
theorem gX5_isWord_J4_charAt_5068e : GoodIn wsX5_isWord (wsV RX5 52 RJ4 yJ4_charAt_5068e wsJ4_charAt_5068e) := goodIn_app (goodIn_of _ (by decide +kernel)) ggX5_isWord_J4_charAt_5068e
set_option maxRecDepth 20000 in
theorem ggX5_isWord_J0_charAt_5068e : GoodIn wsX5_isWord wsJ0_charAt_5068e := goodIn_r _ [52, 6, 53, 54, 55, 4, 56, 11, 12, 57, 58, 59, 60, 61, 32, 33, 34, 35, 36, 37, 38, 62, 63, 41, 64, 65, 66, 67, 46, 47, 48, 68, 69, 40, 42, 43, 44, 45] (by decide +kernel) (by decide +kernel)
set_option maxRecDepth 20000 in
theorem gX5_isWord_J0_charAt_5068e : GoodIn wsX5_isWord (wsV RX5 84 RJ0 yJ0_charAt_5068e wsJ0_charAt_5068e) := goodIn_app (goodIn_of _ (by decide +kernel)) ggX5_isWord_J0_charAt_5068e
theorem dX5_isWord_0 : decode cX5_isWord 0 = .ok (.iload_n 3, 1) := by decide +kernel
theorem dX5_isWord_1 : decode cX5_isWord 1 = .ok (.iload_n 2, 1) := by decide +kernel
theorem dX5_isWord_2 : decode cX5_isWord 2 = .ok (.isub, 1) := by decide +kernel
theorem dX5_isWord_3 : decode cX5_isWord 3 = .ok (.aload_n 0, 1) := by decide +kernel
theorem dX5_isWord_4 : decode cX5_isWord 4 = .ok (.invokevirtual 81, 3) := by decide +kernel
theorem dX5_isWord_7 : decode cX5_isWord 7 = .ok (.if_icmp .eq 5, 3) := by decide +kernel
theorem dX5_isWord_10 : decode cX5_isWord 10 = .ok (.iconst 0, 1) := by decide +kernel
theorem dX5_isWord_11 : decode cX5_isWord 11 = .ok (.ireturn, 1) := by decide +kernel
theorem dX5_isWord_12 : decode cX5_isWord 12 = .ok (.iconst 0, 1) := by decide +kernel
theorem dX5_isWord_13 : decode cX5_isWord 13 = .ok (.istore 4, 2) := by decide +kernel
theorem dX5_isWord_15 : decode cX5_isWord 15 = .ok (.iload 4, 2) := by decide +kernel
theorem dX5_isWord_17 : decode cX5_isWord 17 = .ok (.aload_n 0, 1) := by decide +kernel
theorem dX5_isWord_18 : decode cX5_isWord 18 = .ok (.invokevirtual 81, 3) := by decide +kernel
theorem dX5_isWord_21 : decode cX5_isWord 21 = .ok (.if_icmp .ge 28, 3) := by decide +kernel
theorem dX5_isWord_24 : decode cX5_isWord 24 = .ok (.aload_n 1, 1) := by decide +kernel
theorem dX5_isWord_25 : decode cX5_isWord 25 = .ok (.iload_n 2, 1) := by decide +kernel
theorem dX5_isWord_26 : decode cX5_isWord 26 = .ok (.iload 4, 2) := by decide +kernel
theorem dX5_isWord_28 : decode cX5_isWord 28 = .ok (.iadd, 1) := by decide +kernel
theorem dX5_isWord_29 : decode cX5_isWord 29 = .ok (.invokevirtual 52, 3) := by decide +kernel
theorem dX5_isWord_32 : decode cX5_isWord 32 = .ok (.aload_n 0, 1) := by decide +kernel
theorem dX5_isWord_33 : decode cX5_isWord 33 = .ok (.iload 4, 2) := by decide +kernel
theorem dX5_isWord_35 : decode cX5_isWord 35 = .ok (.invokevirtual 84, 3) := by decide +kernel
theorem dX5_isWord_38 : decode cX5_isWord 38 = .ok (.if_icmp .eq 5, 3) := by decide +kernel
theorem dX5_isWord_41 : decode cX5_isWord 41 = .ok (.iconst 0, 1) := by decide +kernel
theorem dX5_isWord_42 : decode cX5_isWord 42 = .ok (.ireturn, 1) := by decide +kernel
theorem dX5_isWord_43 : decode cX5_isWord 43 = .ok (.iinc 4 1, 3) := by decide +kernel
theorem dX5_isWord_46 : decode cX5_isWord 46 = .ok (.goto (-31), 3) := by decide +kernel
theorem dX5_isWord_49 : decode cX5_isWord 49 = .ok (.iconst 1, 1) := by decide +kernel
theorem dX5_isWord_50 : decode cX5_isWord 50 = .ok (.ireturn, 1) := by decide +kernel
set_option maxRecDepth 20000 in
theorem ggX5_numberOf_J4_charAt_5068e : GoodIn wsX5_numberOf wsJ4_charAt_5068e := goodIn_r _ [5, 6, 7, 8, 9, 10, 11, 12, 13, 14, 15, 16, 17, 18, 19, 20, 21, 22, 23, 24, 25, 26, 27, 28, 29, 30, 31, 32, 33, 34, 35, 36, 37, 38, 39, 40, 41] (by decide +kernel) (by decide +kernel)
set_option maxRecDepth 20000 in
theorem gX5_numberOf_J4_charAt_5068e : GoodIn wsX5_numberOf (wsV RX5 52 RJ4 yJ4_charAt_5068e wsJ4_charAt_5068e) := goodIn_app (goodIn_of _ (by decide +kernel)) ggX5_numberOf_J4_charAt_5068e
theorem dX5_numberOf_0 : decode cX5_numberOf 0 = .ok (.iconst 0, 1) := by decide +kernel
theorem dX5_numberOf_1 : decode cX5_numberOf 1 = .ok (.istore_n 3, 1) := by decide +kernel
theorem dX5_numberOf_2 : decode cX5_numberOf 2 = .ok (.iload_n 1, 1) := by decide +kernel
theorem dX5_numberOf_3 : decode cX5_numberOf 3 = .ok (.istore 4, 2) := by decide +kernel
theorem dX5_numberOf_5 : decode cX5_numberOf 5 = .ok (.iload 4, 2) := by decide +kernel
theorem dX5_numberOf_7 : decode cX5_numberOf 7 = .ok (.iload_n 2, 1) := by decide +kernel
theorem dX5_numberOf_8 : decode cX5_numberOf 8 = .ok (.if_icmp .ge 24, 3) := by decide +kernel
theorem dX5_numberOf_11 : decode cX5_numberOf 11 = .ok (.bipush 10, 2) := by decide +kernel
theorem dX5_numberOf_13 : decode cX5_numberOf 13 = .ok (.iload_n 3, 1) := by decide +kernel
theorem dX5_numberOf_14 : decode cX5_numberOf 14 = .ok (.imul, 1) := by decide +kernel
theorem dX5_numberOf_15 : decode cX5_numberOf 15 = .ok (.aload_n 0, 1) := by decide +kernel
theorem dX5_numberOf_16 : decode cX5_numberOf 16 = .ok (.iload 4, 2) := by decide +kernel
theorem dX5_numberOf_18 : decode cX5_numberOf 18 = .ok (.invokevirtual 52, 3) := by decide +kernel
theorem dX5_numberOf_21 : decode cX5_numberOf 21 = .ok (.iadd, 1) := by decide +kernel
theorem dX5_numberOf_22 : decode cX5_numberOf 22 = .ok (.bipush 48, 2) := by decide +kernel
theorem dX5_numberOf_24 : decode cX5_numberOf 24 = .ok (.isub, 1) := by decide +kernel
theorem dX5_numberOf_25 : decode cX5_numberOf 25 = .ok (.istore_n 3, 1) := by decide +kernel
theorem dX5_numberOf_26 : decode cX5_numberOf 26 = .ok (.iinc 4 1, 3) := by decide +kernel
theorem dX5_numberOf_29 : decode cX5_numberOf 29 = .ok (.goto (-24), 3) := by decide +kernel
theorem dX5_numberOf_32 : decode cX5_numberOf 32 = .ok (.iload_n 3, 1) := by decide +kernel
theorem dX5_numberOf_33 : decode cX5_numberOf 33 = .ok (.ireturn, 1) := by decide +kernel
theorem dX5_hasMore_0 : decode cX5_hasMore 0 = .ok (.aload_n 0, 1) := by decide +kernel
theorem dX5_hasMore_1 : decode cX5_hasMore 1 = .ok (.getfield 25, 3) := by decide +kernel
theorem dX5_hasMore_4 : decode cX5_hasMore 4 = .ok (.aload_n 0, 1) := by decide +kernel
theorem dX5_hasMore_5 : decode cX5_hasMore 5 = .ok (.getfield 21, 3) := by decide +kernel
theorem dX5_hasMore_8 : decode cX5_hasMore 8 = .ok (.if_icmp .ge 7, 3) := by decide +kernel
theorem dX5_hasMore_11 : decode cX5_hasMore 11 = .ok (.iconst 1, 1) := by decide +kernel
theorem dX5_hasMore_12 : decode cX5_hasMore 12 = .ok (.goto 4, 3) := by decide +kernel
theorem dX5_hasMore_15 : decode cX5_hasMore 15 = .ok (.iconst 0, 1) := by decide +kernel
theorem dX5_hasMore_16 : decode cX5_hasMore 16 = .ok (.ireturn, 1) := by decide +kernel
theorem dX5_offset_0 : decode cX5_offset 0 = .ok (.aload_n 0, 1) := by decide +kernel
theorem dX5_offset_1 : decode cX5_offset 1 = .ok (.getfield 25, 3) := by decide +kernel
theorem dX5_offset_4 : decode cX5_offset 4 = .ok (.aload_n 0, 1) := by decide +kernel
theorem dX5_offset_5 : decode cX5_offset 5 = .ok (.getfield 21, 3) := by decide +kernel
theorem dX5_offset_8 : decode cX5_offset 8 = .ok (.if_icmp .ge 15, 3) := by decide +kernel
theorem dX5_offset_11 : decode cX5_offset 11 = .ok (.aload_n 0, 1) := by decide +kernel
theorem dX5_offset_12 : decode cX5_offset 12 = .ok (.getfield 15, 3) := by decide +kernel
theorem dX5_offset_15 : decode cX5_offset 15 = .ok (.aload_n 0, 1) := by decide +kernel
theorem dX5_offset_16 : decode cX5_offset 16 = .ok (.getfield 25, 3) := by decide +kernel
theorem dX5_offset_19 : decode cX5_offset 19 = .ok (.iaload, 1) := by decide +kernel
theorem dX5_offset_20 : decode cX5_offset 20 = .ok (.goto 7, 3) := by decide +kernel
theorem dX5_offset_23 : decode cX5_offset 23 = .ok (.aload_n 0, 1) := by decide +kernel
theorem dX5_offset_24 : decode cX5_offset 24 = .ok (.getfield 34, 3) := by decide +kernel
theorem dX5_offset_27 : decode cX5_offset 27 = .ok (.ireturn, 1) := by decide +kernel
theorem dX5_accept_0 : decode cX5_accept 0 = .ok (.aload_n 0, 1) := by decide +kernel
theorem dX5_accept_1 : decode cX5_accept 1 = .ok (.getfield 25, 3) := by decide +kernel
theorem dX5_accept_4 : decode cX5_accept 4 = .ok (.aload_n 0, 1) := by decide +kernel
theorem dX5_accept_5 : decode cX5_accept 5 = .ok (.getfield 21, 3) := by decide +kernel
theorem dX5_accept_8 : decode cX5_accept 8 = .ok (.if_icmp .ge 16, 3) := by decide +kernel
theorem dX5_accept_11 : decode cX5_accept 11 = .ok (.aload_n 0, 1) := by decide +kernel
theorem dX5_accept_12 : decode cX5_accept 12 = .ok (.getfield 9, 3) := by decide +kernel
theorem dX5_accept_15 : decode cX5_accept 15 = .ok (.aload_n 0, 1) := by decide +kernel
theorem dX5_accept_16 : decode cX5_accept 16 = .ok (.getfield 25, 3) := by decide +kernel
theorem dX5_accept_19 : decode cX5_accept 19 = .ok (.iaload, 1) := by decide +kernel
theorem dX5_accept_20 : decode cX5_accept 20 = .ok (.iload_n 1, 1) := by decide +kernel
theorem dX5_accept_21 : decode cX5_accept 21 = .ok (.if_icmp .eq 5, 3) := by decide +kernel
theorem dX5_accept_24 : decode cX5_accept 24 = .ok (.iconst 0, 1) := by decide +kernel
theorem dX5_accept_25 : decode cX5_accept 25 = .ok (.ireturn, 1) := by decide +kernel
theorem dX5_accept_26 : decode cX5_accept 26 = .ok (.aload_n 0, 1) := by decide +kernel
theorem dX5_accept_27 : decode cX5_accept 27 = .ok (.dup, 1) := by decide +kernel
theorem dX5_accept_28 : decode cX5_accept 28 = .ok (.getfield 25, 3) := by decide +kernel
theorem dX5_accept_31 : decode cX5_accept 31 = .ok (.iconst 1, 1) := by decide +kernel
theorem dX5_accept_32 : decode cX5_accept 32 = .ok (.iadd, 1) := by decide +kernel
theorem dX5_accept_33 : decode cX5_accept 33 = .ok (.putfield 25, 3) := by decide +kernel
theorem dX5_accept_36 : decode cX5_accept 36 = .ok (.iconst 1, 1) := by decide +kernel
theorem dX5_accept_37 : decode cX5_accept 37 = .ok (.ireturn, 1) := by decide +kernel
set_option maxRecDepth 20000 in
theorem ggX5_acceptField_X5_accept : GoodIn wsX5_acceptField wsX5_accept := goodIn_r _ [5, 6, 7, 8, 9, 10, 11, 12, 13, 14] (by decide +kernel) (by decide +kernel)
set_option maxRecDepth 20000 in
theorem gX5_acceptField_X5_accept : GoodIn wsX5_acceptField (wsV RX5 85 RX5 yX5_accept wsX5_accept) := goodIn_app (goodIn_of _ (by decide +kernel)) ggX5_acceptField_X5_accept
theorem dX5_acceptField_0 : decode cX5_acceptField 0 = .ok (.iconst 0, 1) := by decide +kernel
theorem dX5_acceptField_1 : decode cX5_acceptField 1 = .ok (.istore_n 1, 1) := by decide +kernel
theorem dX5_acceptField_2 : decode cX5_acceptField 2 = .ok (.iload_n 1, 1) := by decide +kernel
theorem dX5_acceptField_3 : decode cX5_acceptField 3 = .ok (.iconst 3, 1) := by decide +kernel
theorem dX5_acceptField_4 : decode cX5_acceptField 4 = .ok (.if_icmp .ge 22, 3) := by decide +kernel
theorem dX5_acceptField_7 : decode cX5_acceptField 7 = .ok (.aload_n 0, 1) := by decide +kernel
theorem dX5_acceptField_8 : decode cX5_acceptField 8 = .ok (.bipush 120, 2) := by decide +kernel
theorem dX5_acceptField_10 : decode cX5_acceptField 10 = .ok (.iload_n 1, 1) := by decide +kernel
theorem dX5_acceptField_11 : decode cX5_acceptField 11 = .ok (.iadd, 1) := by decide +kernel
theorem dX5_acceptField_12 : decode cX5_acceptField 12 = .ok (.invokevirtual 85, 3) := by decide +kernel
theorem dX5_acceptField_15 : decode cX5_acceptField 15 = .ok (.ifCond .eq 5, 3) := by decide +kernel
theorem dX5_acceptField_18 : decode cX5_acceptField 18 = .ok (.iload_n 1, 1) := by decide +kernel
theorem dX5_acceptField_19 : decode cX5_acceptField 19 = .ok (.ireturn, 1) := by decide +kernel
theorem dX5_acceptField_20 : decode cX5_acceptField 20 = .ok (.iinc 1 1, 3) := by decide +kernel
theorem dX5_acceptField_23 : decode cX5_acceptField 23 = .ok (.goto (-21), 3) := by decide +kernel
theorem dX5_acceptField_26 : decode cX5_acceptField 26 = .ok (.sipush (-1000), 3) := by decide +kernel
theorem dX5_acceptField_29 : decode cX5_acceptField 29 = .ok (.ireturn, 1) := by decide +kernel
set_option maxRecDepth 20000 in
theorem ggX5_acceptNumber_X5_accept : GoodIn wsX5_acceptNumber wsX5_accept := goodIn_r _ [8, 1, 2, 9, 10, 11, 12, 13, 14, 15] (by decide +kernel) (by decide +kernel)
set_option maxRecDepth 20000 in
theorem gX5_acceptNumber_X5_accept : GoodIn wsX5_acceptNumber (wsV RX5 85 RX5 yX5_accept wsX5_accept) := goodIn_app (goodIn_of _ (by decide +kernel)) ggX5_acceptNumber_X5_accept
theorem dX5_acceptNumber_0 : decode cX5_acceptNumber 0 = .ok (.aload_n 0, 1) := by decide +kernel
theorem dX5_acceptNumber_1 : decode cX5_acceptNumber 1 = .ok (.bipush 45, 2) := by decide +kernel
theorem dX5_acceptNumber_3 : decode cX5_acceptNumber 3 = .ok (.invokevirtual 85, 3) := by decide +kernel
theorem dX5_acceptNumber_6 : decode cX5_acceptNumber 6 = .ok (.ifCond .eq 7, 3) := by decide +kernel
theorem dX5_acceptNumber_9 : decode cX5_acceptNumber 9 = .ok (.iconst (-1), 1) := by decide +kernel
theorem dX5_acceptNumber_10 : decode cX5_acceptNumber 10 = .ok (.goto 4, 3) := by decide +kernel
theorem dX5_acceptNumber_13 : decode cX5_acceptNumber 13 = .ok (.iconst 1, 1) := by decide +kernel
theorem dX5_acceptNumber_14 : decode cX5_acceptNumber 14 = .ok (.istore_n 1, 1) := by decide +kernel
theorem dX5_acceptNumber_15 : decode cX5_acceptNumber 15 = .ok (.aload_n 0, 1) := by decide +kernel
theorem dX5_acceptNumber_16 : decode cX5_acceptNumber 16 = .ok (.getfield 25, 3) := by decide +kernel
theorem dX5_acceptNumber_19 : decode cX5_acceptNumber 19 = .ok (.aload_n 0, 1) := by decide +kernel
theorem dX5_acceptNumber_20 : decode cX5_acceptNumber 20 = .ok (.getfield 21, 3) := by decide +kernel
theorem dX5_acceptNumber_23 : decode cX5_acceptNumber 23 = .ok (.if_icmp .ge 15, 3) := by decide +kernel
theorem dX5_acceptNumber_26 : decode cX5_acceptNumber 26 = .ok (.aload_n 0, 1) := by decide +kernel
theorem dX5_acceptNumber_27 : decode cX5_acceptNumber 27 = .ok (.getfield 18, 3) := by decide +kernel
theorem dX5_acceptNumber_30 : decode cX5_acceptNumber 30 = .ok (.aload_n 0, 1) := by decide +kernel
theorem dX5_acceptNumber_31 : decode cX5_acceptNumber 31 = .ok (.getfield 25, 3) := by decide +kernel
theorem dX5_acceptNumber_34 : decode cX5_acceptNumber 34 = .ok (.iaload, 1) := by decide +kernel
theorem dX5_acceptNumber_35 : decode cX5_acceptNumber 35 = .ok (.goto 4, 3) := by decide +kernel
theorem dX5_acceptNumber_38 : decode cX5_acceptNumber 38 = .ok (.iconst 0, 1) := by decide +kernel
theorem dX5_acceptNumber_39 : decode cX5_acceptNumber 39 = .ok (.istore_n 2, 1) := by decide +kernel
theorem dX5_acceptNumber_40 : decode cX5_acceptNumber 40 = .ok (.aload_n 0, 1) := by decide +kernel
theorem dX5_acceptNumber_41 : decode cX5_acceptNumber 41 = .ok (.sipush 307, 3) := by decide +kernel
theorem dX5_acceptNumber_44 : decode cX5_acceptNumber 44 = .ok (.invokevirtual 85, 3) := by decide +kernel
theorem dX5_acceptNumber_47 : decode cX5_acceptNumber 47 = .ok (.ifCond .eq 9, 3) := by decide +kernel
theorem dX5_acceptNumber_50 : decode cX5_acceptNumber 50 = .ok (.iload_n 1, 1) := by decide +kernel
theorem dX5_acceptNumber_51 : decode cX5_acceptNumber 51 = .ok (.iload_n 2, 1) := by decide +kernel
theorem dX5_acceptNumber_52 : decode cX5_acceptNumber 52 = .ok (.imul, 1) := by decide +kernel
theorem dX5_acceptNumber_53 : decode cX5_acceptNumber 53 = .ok (.goto 6, 3) := by decide +kernel
theorem dX5_acceptNumber_56 : decode cX5_acceptNumber 56 = .ok (.sipush (-1000), 3) := by decide +kernel
theorem dX5_acceptNumber_59 : decode cX5_acceptNumber 59 = .ok (.ireturn, 1) := by decide +kernel
set_option maxRecDepth 20000 in
theorem ggX6_init_Jx4a65c_init_da8c8 : GoodIn wsX6_init wsJx4a65c_init_da8c8 := goodIn_r _ [12, 13, 14, 15, 16, 17, 18, 19, 20, 21, 22, 23, 24, 2, 3, 25, 26, 27] (by decide +kernel) (by decide +kernel)
set_option maxRecDepth 20000 in
theorem gX6_init_Jx4a65c_init_da8c8 : GoodIn wsX6_init (wsJx4a65c_init_da8c8) := ggX6_init_Jx4a65c_init_da8c8
theorem dX6_init_0 : decode cX6_init 0 = .ok (.aload_n 0, 1) := by decide +kernel
theorem dX6_init_1 : decode cX6_init 1 = .ok (.invokespecial 1, 3) := by decide +kernel
theorem dX6_init_4 : decode cX6_init 4 = .ok (.aload_n 0, 1) := by decide +kernel
theorem dX6_init_5 : decode cX6_init 5 = .ok (.new 7, 3) := by decide +kernel
theorem dX6_init_8 : decode cX6_init 8 = .ok (.dup, 1) := by decide +kernel
theorem dX6_init_9 : decode cX6_init 9 = .ok (.invokespecial 9, 3) := by decide +kernel
theorem dX6_init_12 : decode cX6_init 12 = .ok (.putfield 10, 3) := by decide +kernel
theorem dX6_init_15 : decode cX6_init 15 = .ok (.aload_n 0, 1) := by decide +kernel
theorem dX6_init_16 : decode cX6_init 16 = .ok (.new 7, 3) := by decide +kernel
theorem dX6_init_19 : decode cX6_init 19 = .ok (.dup, 1) := by decide +kernel
theorem dX6_init_20 : decode cX6_init 20 = .ok (.invokespecial 9, 3) := by decide +kernel
theorem dX6_init_23 : decode cX6_init 23 = .ok (.putfield 16, 3) := by decide +kernel
theorem dX6_init_26 : decode cX6_init 26 = .ok (.aload_n 0, 1) := by decide +kernel
theorem dX6_init_27 : decode cX6_init 27 = .ok (.new 7, 3) := by decide +kernel
theorem dX6_init_30 : decode cX6_init 30 = .ok (.dup, 1) := by decide +kernel
theorem dX6_init_31 : decode cX6_init 31 = .ok (.invokespecial 9, 3) := by decide +kernel
theorem dX6_init_34 : decode cX6_init 34 = .ok (.putfield 19, 3) := by decide +kernel
theorem dX6_init_37 : decode cX6_init 37 = .ok (.return_, 1) := by decide +kernel
set_option maxRecDepth 20000 in
theorem ggX6_weight_Jx4a65c_size_8abf5 : GoodIn wsX6_weight wsJx4a65c_size_8abf5 := goodIn_r _ [9, 10, 35, 36, 37] (by decide +kernel) (by decide +kernel)
set_option maxRecDepth 20000 in
theorem gX6_weight_Jx4a65c_size_8abf5 : GoodIn wsX6_weight (wsV RX6 22 RJx4a65c yJx4a65c_size_8abf5 wsJx4a65c_size_8abf5) := goodIn_app (goodIn_of _ (by decide +kernel)) ggX6_weight_Jx4a65c_size_8abf5
set_option maxRecDepth 20000 in
theorem ggX6_weight_Jx4a65c_get_915e3 : GoodIn wsX6_weight wsJx4a65c_get_915e3 := goodIn_r _ [14, 10, 15, 16, 17, 18, 19, 20, 21, 22, 23, 24, 25, 8, 26, 27, 35, 36, 37] (by decide +kernel) (by decide +kernel)
set_option maxRecDepth 20000 in
theorem gX6_weight_Jx4a65c_get_915e3 : GoodIn wsX6_weight (wsV RX6 26 RJx4a65c yJx4a65c_get_915e3 wsJx4a65c_get_915e3) := goodIn_app (goodIn_of _ (by decide +kernel)) ggX6_weight_Jx4a65c_get_915e3
theorem dX6_weight_0 : decode cX6_weight 0 = .ok (.aload_n 0, 1) := by decide +kernel
theorem dX6_weight_1 : decode cX6_weight 1 = .ok (.getfield 10, 3) := by decide +kernel
theorem dX6_weight_4 : decode cX6_weight 4 = .ok (.invokevirtual 22, 3) := by decide +kernel
theorem dX6_weight_7 : decode cX6_weight 7 = .ok (.aload_n 0, 1) := by decide +kernel
theorem dX6_weight_8 : decode cX6_weight 8 = .ok (.getfield 16, 3) := by decide +kernel
theorem dX6_weight_11 : decode cX6_weight 11 = .ok (.invokevirtual 22, 3) := by decide +kernel
theorem dX6_weight_14 : decode cX6_weight 14 = .ok (.iadd, 1) := by decide +kernel
theorem dX6_weight_15 : decode cX6_weight 15 = .ok (.aload_n 0, 1) := by decide +kernel
theorem dX6_weight_16 : decode cX6_weight 16 = .ok (.getfield 19, 3) := by decide +kernel
theorem dX6_weight_19 : decode cX6_weight 19 = .ok (.invokevirtual 22, 3) := by decide +kernel
theorem dX6_weight_22 : decode cX6_weight 22 = .ok (.iadd, 1) := by decide +kernel
theorem dX6_weight_23 : decode cX6_weight 23 = .ok (.istore_n 1, 1) := by decide +kernel
theorem dX6_weight_24 : decode cX6_weight 24 = .ok (.iconst 0, 1) := by decide +kernel
theorem dX6_weight_25 : decode cX6_weight 25 = .ok (.istore_n 2, 1) := by decide +kernel
theorem dX6_weight_26 : decode cX6_weight 26 = .ok (.iload_n 2, 1) := by decide +kernel
theorem dX6_weight_27 : decode cX6_weight 27 = .ok (.aload_n 0, 1) := by decide +kernel
theorem dX6_weight_28 : decode cX6_weight 28 = .ok (.getfield 16, 3) := by decide +kernel
theorem dX6_weight_31 : decode cX6_weight 31 = .ok (.invokevirtual 22, 3) := by decide +kernel
theorem dX6_weight_34 : decode cX6_weight 34 = .ok (.if_icmp .ge 29, 3) := by decide +kernel
theorem dX6_weight_37 : decode cX6_weight 37 = .ok (.aload_n 0, 1) := by decide +kernel
theorem dX6_weight_38 : decode cX6_weight 38 = .ok (.getfield 16, 3) := by decide +kernel
theorem dX6_weight_41 : decode cX6_weight 41 = .ok (.iload_n 2, 1) := by decide +kernel
theorem dX6_weight_42 : decode cX6_weight 42 = .ok (.invokevirtual 26, 3) := by decide +kernel
theorem dX6_weight_45 : decode cX6_weight 45 = .ok (.checkcast 30, 3) := by decide +kernel
theorem dX6_weight_48 : decode cX6_weight 48 = .ok (.getfield 32, 3) := by decide +kernel
theorem dX6_weight_51 : decode cX6_weight 51 = .ok (.ifCond .eq 6, 3) := by decide +kernel
theorem dX6_weight_54 : decode cX6_weight 54 = .ok (.iinc 1 1, 3) := by decide +kernel
theorem dX6_weight_57 : decode cX6_weight 57 = .ok (.iinc 2 1, 3) := by decide +kernel
theorem dX6_weight_60 : decode cX6_weight 60 = .ok (.goto (-34), 3) := by decide +kernel
theorem dX6_weight_63 : decode cX6_weight 63 = .ok (.iload_n 1, 1) := by decide +kernel
theorem dX6_weight_64 : decode cX6_weight 64 = .ok (.ireturn, 1) := by decide +kernel
theorem dX7_init_0 : decode cX7_init 0 = .ok (.aload_n 0, 1) := by decide +kernel
theorem dX7_init_1 : decode cX7_init 1 = .ok (.invokespecial 3, 3) := by decide +kernel
theorem dX7_init_4 : decode cX7_init 4 = .ok (.aload_n 0, 1) := by decide +kernel
theorem dX7_init_5 : decode cX7_init 5 = .ok (.iload_n 1, 1) := by decide +kernel
theorem dX7_init_6 : decode cX7_init 6 = .ok (.putfield 9, 3) := by decide +kernel
theorem dX7_init_9 : decode cX7_init 9 = .ok (.aload_n 0, 1) := by decide +kernel
theorem dX7_init_10 : decode cX7_init 10 = .ok (.iload_n 2, 1) := by decide +kernel
theorem dX7_init_11 : decode cX7_init 11 = .ok (.putfield 15, 3) := by decide +kernel
theorem dX7_init_14 : decode cX7_init 14 = .ok (.return_, 1) := by decide +kernel
theorem dX7_valueIn_0 : decode cX7_valueIn 0 = .ok (.aload_n 0, 1) := by decide +kernel
theorem dX7_valueIn_1 : decode cX7_valueIn 1 = .ok (.getfield 9, 3) := by decide +kernel
theorem dX7_valueIn_4 : decode cX7_valueIn 4 = .ok (.tableswitch 70 0 5 #[40, 45, 50, 55, 60, 65], 40) := by decide +kernel
theorem dX7_valueIn_44 : decode cX7_valueIn 44 = .ok (.aload_n 2, 1) := by decide +kernel
theorem dX7_valueIn_45 : decode cX7_valueIn 45 = .ok (.getfield 18, 3) := by decide +kernel
theorem dX7_valueIn_48 : decode cX7_valueIn 48 = .ok (.ireturn, 1) := by decide +kernel
theorem dX7_valueIn_49 : decode cX7_valueIn 49 = .ok (.aload_n 2, 1) := by decide +kernel
theorem dX7_valueIn_50 : decode cX7_valueIn 50 = .ok (.getfield 23, 3) := by decide +kernel
theorem dX7_valueIn_53 : decode cX7_valueIn 53 = .ok (.ireturn, 1) := by decide +kernel
theorem dX7_valueIn_54 : decode cX7_valueIn 54 = .ok (.aload_n 2, 1) := by decide +kernel
theorem dX7_valueIn_55 : decode cX7_valueIn 55 = .ok (.getfield 26, 3) := by decide +kernel
theorem dX7_valueIn_58 : decode cX7_valueIn 58 = .ok (.ireturn, 1) := by decide +kernel
theorem dX7_valueIn_59 : decode cX7_valueIn 59 = .ok (.aload_n 1, 1) := by decide +kernel
theorem dX7_valueIn_60 : decode cX7_valueIn 60 = .ok (.getfield 18, 3) := by decide +kernel
theorem dX7_valueIn_63 : decode cX7_valueIn 63 = .ok (.ireturn, 1) := by decide +kernel
theorem dX7_valueIn_64 : decode cX7_valueIn 64 = .ok (.aload_n 1, 1) := by decide +kernel
theorem dX7_valueIn_65 : decode cX7_valueIn 65 = .ok (.getfield 23, 3) := by decide +kernel
theorem dX7_valueIn_68 : decode cX7_valueIn 68 = .ok (.ireturn, 1) := by decide +kernel
theorem dX7_valueIn_69 : decode cX7_valueIn 69 = .ok (.aload_n 1, 1) := by decide +kernel
theorem dX7_valueIn_70 : decode cX7_valueIn 70 = .ok (.getfield 26, 3) := by decide +kernel
theorem dX7_valueIn_73 : decode cX7_valueIn 73 = .ok (.ireturn, 1) := by decide +kernel
theorem dX7_valueIn_74 : decode cX7_valueIn 74 = .ok (.aload_n 0, 1) := by decide +kernel
theorem dX7_valueIn_75 : decode cX7_valueIn 75 = .ok (.getfield 15, 3) := by decide +kernel
theorem dX7_valueIn_78 : decode cX7_valueIn 78 = .ok (.ireturn, 1) := by decide +kernel
set_option maxRecDepth 20000 in
theorem ggX8_init_X5_init : GoodIn wsX8_init wsX5_init := goodIn_r _ [9, 10, 2, 3, 11, 12, 13, 14, 15, 16, 17, 18, 19, 20] (by decide +kernel) (by decide +kernel)
set_option maxRecDepth 20000 in
theorem gX8_init_X5_init_n11 : GoodIn wsX8_init (wsX5_init) := ggX8_init_X5_init
theorem dX8_init_0 : decode cX8_init 0 = .ok (.aload_n 0, 1) := by decide +kernel
theorem dX8_init_1 : decode cX8_init 1 = .ok (.invokespecial 3, 3) := by decide +kernel
theorem dX8_init_4 : decode cX8_init 4 = .ok (.aload_n 0, 1) := by decide +kernel
theorem dX8_init_5 : decode cX8_init 5 = .ok (.new 9, 3) := by decide +kernel
theorem dX8_init_8 : decode cX8_init 8 = .ok (.dup, 1) := by decide +kernel
theorem dX8_init_9 : decode cX8_init 9 = .ok (.invokespecial 11, 3) := by decide +kernel
theorem dX8_init_12 : decode cX8_init 12 = .ok (.putfield 12, 3) := by decide +kernel
theorem dX8_init_15 : decode cX8_init 15 = .ok (.return_, 1) := by decide +kernel
set_option maxRecDepth 20000 in
theorem ggX8_errorOffset_X5_offset : GoodIn wsX8_errorOffset wsX5_offset := goodIn_r _ [6, 7, 8, 9, 10, 12, 13, 14, 15, 16, 17] (by decide +kernel) (by decide +kernel)
set_option maxRecDepth 20000 in
theorem gX8_errorOffset_X5_offset : GoodIn wsX8_errorOffset (wsV RX8 18 RX5 yX5_offset wsX5_offset) := goodIn_app (goodIn_of _ (by decide +kernel)) ggX8_errorOffset_X5_offset
theorem dX8_errorOffset_0 : decode cX8_errorOffset 0 = .ok (.aload_n 0, 1) := by decide +kernel
theorem dX8_errorOffset_1 : decode cX8_errorOffset 1 = .ok (.getfield 12, 3) := by decide +kernel
theorem dX8_errorOffset_4 : decode cX8_errorOffset 4 = .ok (.invokevirtual 18, 3) := by decide +kernel
theorem dX8_errorOffset_7 : decode cX8_errorOffset 7 = .ok (.ireturn, 1) := by decide +kernel
set_option maxRecDepth 20000 in
theorem ggX8_parse_X5_scan : GoodIn wsX8_parse wsX5_scan := goodIn_r _ [9, 10, 11, 12, 13, 14, 15, 16, 17, 18, 19, 20, 21, 22, 23, 24, 25, 26, 27, 28, 29, 8, 30, 31, 32, 33, 34, 35, 36, 37, 38, 39, 40, 41, 42, 43, 44, 45, 46, 47, 48, 49, 50, 51, 52, 53, 54, 55, 56, 57, 58, 59, 60, 61, 62, 63, 64, 65, 66, 67, 68, 69, 70, 71, 72, 73, 74, 75, 76, 77, 78, 79, 80, 81, 82, 83, 84, 85, 86, 87, 88, 89, 90, 91, 92, 93, 94, 95, 96, 97, 98, 99, 100, 101, 102, 103, 104, 105, 106, 107, 108, 109, 110, 111, 112, 113, 310, 311, 312, 313, 314, 315, 316, 317, 318, 319] (by decide +kernel) (by decide +kernel)
set_option maxRecDepth 20000 in
theorem gX8_parse_X5_scan : GoodIn wsX8_parse (wsV RX8 22 RX5 yX5_scan wsX5_scan) := goodIn_app (goodIn_of _ (by decide +kernel)) ggX8_parse_X5_scan
set_option maxRecDepth 20000 in
theorem ggX8_parse_X1_init : GoodIn wsX8_parse wsX1_init := goodIn_r _ [115, 116, 117, 118, 119, 120, 121, 122, 123, 124, 125, 126, 127, 128, 129, 130, 131, 132, 133, 134, 135, 136, 137, 138, 139, 140, 141, 142, 143, 144, 145, 320, 321, 322, 307, 308, 309, 323, 324, 325] (by decide +kernel) (by decide +kernel)
set_option maxRecDepth 20000 in
theorem gX8_parse_X1_init_n28 : GoodIn wsX8_parse (wsX1_init) := ggX8_parse_X1_init
set_option maxRecDepth 20000 in
theorem ggX8_parse_X5_hasMore : GoodIn wsX8_parse wsX5_hasMore := goodIn_r _ [149, 11, 10, 310, 311, 312, 313, 314, 315] (by decide +kernel) (by decide +kernel)
set_option maxRecDepth 20000 in
theorem gX8_parse_X5_hasMore : GoodIn wsX8_parse (wsV RX8 29 RX5 yX5_hasMore wsX5_hasMore) := goodIn_app (goodIn_of _ (by decide +kernel)) ggX8_parse_X5_hasMore
set_option maxRecDepth 20000 in
theorem ggX8_parse_X5_accept : GoodIn wsX8_parse wsX5_accept := goodIn_r _ [153, 11, 10, 14, 310, 311, 312, 313, 314, 315] (by decide +kernel) (by decide +kernel)
set_option maxRecDepth 20000 in
theorem gX8_parse_X5_accept : GoodIn wsX8_parse (wsV RX8 33 RX5 yX5_accept wsX5_accept) := goodIn_app (goodIn_of _ (by decide +kernel)) ggX8_parse_X5_accept
set_option maxRecDepth 20000 in
theorem ggX8_parse_X8_readInitialValue : GoodIn wsX8_parse wsX8_readInitialValue := goodIn_r _ [158, 1, 159, 160, 161, 8, 162, 163, 151, 152, 153, 11, 10, 14, 164, 165, 166, 167, 15, 168, 169, 170, 121, 171, 172, 173, 174, 306, 307, 308, 309, 310, 311, 312, 313, 314, 315, 320, 321, 322] (by decide +kernel) (by decide +kernel)
set_option maxRecDepth 20000 in
theorem gX8_parse_X8_readInitialValue : GoodIn wsX8_parse (wsV RX8 37 RX8 yX8_readInitialValue wsX8_readInitialValue) := goodIn_app (goodIn_of _ (by decide +kernel)) ggX8_parse_X8_readInitialValue
set_option maxRecDepth 20000 in
theorem ggX8_parse_Jx4a65c_size_8abf5 : GoodIn wsX8_parse wsJx4a65c_size_8abf5 := goodIn_r _ [178, 179, 323, 324, 325] (by decide +kernel) (by decide +kernel)
set_option maxRecDepth 20000 in
theorem gX8_parse_Jx4a65c_size_8abf5 : GoodIn wsX8_parse (wsV RX8 45 RJx4a65c yJx4a65c_size_8abf5 wsJx4a65c_size_8abf5) := goodIn_app (goodIn_of _ (by decide +kernel)) ggX8_parse_Jx4a65c_size_8abf5
set_option maxRecDepth 20000 in
theorem ggX8_parse_X8_readCondition : GoodIn wsX8_parse wsX8_readCondition := goodIn_r _ [183, 184, 185, 186, 187, 188, 189, 157, 190, 1, 191, 192, 193, 150, 151, 152, 8, 153, 11, 10, 14, 159, 160, 161, 162, 163, 194, 195, 196, 197, 117, 118, 198, 199, 164, 165, 166, 167, 15, 200, 201, 202, 203, 204, 205, 206, 207, 208, 209, 210, 211, 212, 213, 125, 214, 215, 216, 135, 179, 217, 218, 219, 220, 221, 222, 223, 224, 225, 226, 227, 228, 134, 229, 230, 43, 231, 232, 233, 234, 235, 236, 237, 238, 239, 240, 241, 242, 243, 244, 245, 246, 247, 248, 249, 250, 251, 252, 253, 254, 255, 42, 44, 256, 257, 258, 259, 326, 327, 328, 306, 329, 330, 310, 311, 312, 313, 314, 315, 323, 324, 325] (by decide +kernel) (by decide +kernel)
set_option maxRecDepth 20000 in
theorem gX8_parse_X8_readCondition : GoodIn wsX8_parse (wsV RX8 50 RX8 yX8_readCondition wsX8_readCondition) := goodIn_app (goodIn_of _ (by decide +kernel)) ggX8_parse_X8_readCondition
set_option maxRecDepth 20000 in
theorem ggX8_parse_X8_readMethod : GoodIn wsX8_parse wsX8_readMethod := goodIn_r _ [263, 264, 265, 266, 267, 268, 269, 117, 118, 270, 124, 125, 271, 272, 273, 274, 132, 133, 134, 135, 136, 137, 138, 139, 140, 141, 142, 143, 144, 145, 275, 276, 277, 157, 278, 1, 150, 151, 152, 8, 153, 11, 10, 14, 180, 181, 182, 183, 184, 185, 186, 187, 188, 189, 190, 191, 192, 193, 159, 160, 161, 162, 163, 194, 195, 196, 197, 198, 199, 164, 165, 166, 167, 15, 200, 201, 202, 203, 204, 205, 206, 207, 208, 209, 210, 211, 212, 213, 214, 215, 216, 179, 217, 218, 219, 220, 221, 222, 223, 224, 225, 226, 227, 228, 229, 230, 43, 231, 232, 233, 234, 235, 236, 237, 238, 239, 240, 241, 242, 243, 244, 245, 246, 247, 248, 249, 250, 251, 252, 253, 254, 255, 42, 44, 256, 257, 258, 259, 279, 280, 281, 282, 283, 284, 285, 286, 287, 288, 289, 290, 291, 292, 293, 294, 295, 296, 297, 298, 299, 300, 301, 302, 303, 304, 305, 331, 332, 333, 323, 324, 325, 306, 310, 311, 312, 313, 314, 315, 326, 327, 328, 329, 330, 334, 335, 336, 337] (by decide +kernel) (by decide +kernel)
set_option maxRecDepth 20000 in
theorem gX8_parse_X8_readMethod : GoodIn wsX8_parse (wsV RX8 57 RX8 yX8_readMethod wsX8_readMethod) := goodIn_app (goodIn_of _ (by decide +kernel)) ggX8_parse_X8_readMethod
theorem dX8_parse_0 : decode cX8_parse 0 = .ok (.aload_n 0, 1) := by decide +kernel
theorem dX8_parse_1 : decode cX8_parse 1 = .ok (.getfield 12, 3) := by decide +kernel
theorem dX8_parse_4 : decode cX8_parse 4 = .ok (.aload_n 1, 1) := by decide +kernel
theorem dX8_parse_5 : decode cX8_parse 5 = .ok (.invokevirtual 22, 3) := by decide +kernel
theorem dX8_parse_8 : decode cX8_parse 8 = .ok (.new 26, 3) := by decide +kernel
theorem dX8_parse_11 : decode cX8_parse 11 = .ok (.dup, 1) := by decide +kernel
theorem dX8_parse_12 : decode cX8_parse 12 = .ok (.invokespecial 28, 3) := by decide +kernel
theorem dX8_parse_15 : decode cX8_parse 15 = .ok (.astore_n 2, 1) := by decide +kernel
theorem dX8_parse_16 : decode cX8_parse 16 = .ok (.iconst 0, 1) := by decide +kernel
theorem dX8_parse_17 : decode cX8_parse 17 = .ok (.istore_n 3, 1) := by decide +kernel
theorem dX8_parse_18 : decode cX8_parse 18 = .ok (.aload_n 0, 1) := by decide +kernel
theorem dX8_parse_19 : decode cX8_parse 19 = .ok (.getfield 12, 3) := by decide +kernel
theorem dX8_parse_22 : decode cX8_parse 22 = .ok (.invokevirtual 29, 3) := by decide +kernel
theorem dX8_parse_25 : decode cX8_parse 25 = .ok (.ifCond .eq 134, 3) := by decide +kernel
theorem dX8_parse_28 : decode cX8_parse 28 = .ok (.iload_n 3, 1) := by decide +kernel
theorem dX8_parse_29 : decode cX8_parse 29 = .ok (.sipush 200, 3) := by decide +kernel
theorem dX8_parse_32 : decode cX8_parse 32 = .ok (.if_icmp .ge 127, 3) := by decide +kernel
theorem dX8_parse_35 : decode cX8_parse 35 = .ok (.iconst 0, 1) := by decide +kernel
theorem dX8_parse_36 : decode cX8_parse 36 = .ok (.istore 4, 2) := by decide +kernel
theorem dX8_parse_38 : decode cX8_parse 38 = .ok (.aload_n 0, 1) := by decide +kernel
theorem dX8_parse_39 : decode cX8_parse 39 = .ok (.getfield 12, 3) := by decide +kernel
theorem dX8_parse_42 : decode cX8_parse 42 = .ok (.sipush 300, 3) := by decide +kernel
theorem dX8_parse_45 : decode cX8_parse 45 = .ok (.invokevirtual 33, 3) := by decide +kernel
theorem dX8_parse_48 : decode cX8_parse 48 = .ok (.ifCond .eq 13, 3) := by decide +kernel
theorem dX8_parse_51 : decode cX8_parse 51 = .ok (.aload_n 0, 1) := by decide +kernel
theorem dX8_parse_52 : decode cX8_parse 52 = .ok (.aload_n 2, 1) := by decide +kernel
theorem dX8_parse_53 : decode cX8_parse 53 = .ok (.invokevirtual 37, 3) := by decide +kernel
theorem dX8_parse_56 : decode cX8_parse 56 = .ok (.istore 4, 2) := by decide +kernel
theorem dX8_parse_58 : decode cX8_parse 58 = .ok (.goto 76, 3) := by decide +kernel
theorem dX8_parse_61 : decode cX8_parse 61 = .ok (.aload_n 2, 1) := by decide +kernel
theorem dX8_parse_62 : decode cX8_parse 62 = .ok (.getfield 41, 3) := by decide +kernel
theorem dX8_parse_65 : decode cX8_parse 65 = .ok (.invokevirtual 45, 3) := by decide +kernel
theorem dX8_parse_68 : decode cX8_parse 68 = .ok (.iconst 3, 1) := by decide +kernel
theorem dX8_parse_69 : decode cX8_parse 69 = .ok (.if_icmp .ge 30, 3) := by decide +kernel
theorem dX8_parse_72 : decode cX8_parse 72 = .ok (.aload_n 0, 1) := by decide +kernel
theorem dX8_parse_73 : decode cX8_parse 73 = .ok (.getfield 12, 3) := by decide +kernel
theorem dX8_parse_76 : decode cX8_parse 76 = .ok (.sipush 301, 3) := by decide +kernel
theorem dX8_parse_79 : decode cX8_parse 79 = .ok (.invokevirtual 33, 3) := by decide +kernel
theorem dX8_parse_82 : decode cX8_parse 82 = .ok (.ifCond .eq 17, 3) := by decide +kernel
theorem dX8_parse_85 : decode cX8_parse 85 = .ok (.aload_n 0, 1) := by decide +kernel
theorem dX8_parse_86 : decode cX8_parse 86 = .ok (.aload_n 2, 1) := by decide +kernel
theorem dX8_parse_87 : decode cX8_parse 87 = .ok (.getfield 41, 3) := by decide +kernel
theorem dX8_parse_90 : decode cX8_parse 90 = .ok (.iconst 0, 1) := by decide +kernel
theorem dX8_parse_91 : decode cX8_parse 91 = .ok (.invokevirtual 50, 3) := by decide +kernel
theorem dX8_parse_94 : decode cX8_parse 94 = .ok (.istore 4, 2) := by decide +kernel
theorem dX8_parse_96 : decode cX8_parse 96 = .ok (.goto 38, 3) := by decide +kernel
theorem dX8_parse_99 : decode cX8_parse 99 = .ok (.aload_n 2, 1) := by decide +kernel
theorem dX8_parse_100 : decode cX8_parse 100 = .ok (.getfield 54, 3) := by decide +kernel
theorem dX8_parse_103 : decode cX8_parse 103 = .ok (.invokevirtual 45, 3) := by decide +kernel
theorem dX8_parse_106 : decode cX8_parse 106 = .ok (.bipush 6, 2) := by decide +kernel
theorem dX8_parse_108 : decode cX8_parse 108 = .ok (.if_icmp .ge 26, 3) := by decide +kernel
theorem dX8_parse_111 : decode cX8_parse 111 = .ok (.aload_n 0, 1) := by decide +kernel
theorem dX8_parse_112 : decode cX8_parse 112 = .ok (.getfield 12, 3) := by decide +kernel
theorem dX8_parse_115 : decode cX8_parse 115 = .ok (.sipush 302, 3) := by decide +kernel
theorem dX8_parse_118 : decode cX8_parse 118 = .ok (.invokevirtual 33, 3) := by decide +kernel
theorem dX8_parse_121 : decode cX8_parse 121 = .ok (.ifCond .eq 13, 3) := by decide +kernel
theorem dX8_parse_124 : decode cX8_parse 124 = .ok (.aload_n 0, 1) := by decide +kernel
theorem dX8_parse_125 : decode cX8_parse 125 = .ok (.aload_n 2, 1) := by decide +kernel
theorem dX8_parse_126 : decode cX8_parse 126 = .ok (.getfield 54, 3) := by decide +kernel
theorem dX8_parse_129 : decode cX8_parse 129 = .ok (.invokevirtual 57, 3) := by decide +kernel
theorem dX8_parse_132 : decode cX8_parse 132 = .ok (.istore 4, 2) := by decide +kernel
theorem dX8_parse_134 : decode cX8_parse 134 = .ok (.iload 4, 2) := by decide +kernel
theorem dX8_parse_136 : decode cX8_parse 136 = .ok (.ifCond .eq 15, 3) := by decide +kernel
theorem dX8_parse_139 : decode cX8_parse 139 = .ok (.aload_n 0, 1) := by decide +kernel
theorem dX8_parse_140 : decode cX8_parse 140 = .ok (.getfield 12, 3) := by decide +kernel
theorem dX8_parse_143 : decode cX8_parse 143 = .ok (.bipush 59, 2) := by decide +kernel
theorem dX8_parse_145 : decode cX8_parse 145 = .ok (.invokevirtual 33, 3) := by decide +kernel
theorem dX8_parse_148 : decode cX8_parse 148 = .ok (.ifCond .ne 5, 3) := by decide +kernel
theorem dX8_parse_151 : decode cX8_parse 151 = .ok (.aconst_null, 1) := by decide +kernel
theorem dX8_parse_152 : decode cX8_parse 152 = .ok (.areturn, 1) := by decide +kernel
theorem dX8_parse_153 : decode cX8_parse 153 = .ok (.iinc 3 1, 3) := by decide +kernel
theorem dX8_parse_156 : decode cX8_parse 156 = .ok (.goto (-138), 3) := by decide +kernel
theorem dX8_parse_159 : decode cX8_parse 159 = .ok (.aload_n 2, 1) := by decide +kernel
theorem dX8_parse_160 : decode cX8_parse 160 = .ok (.areturn, 1) := by decide +kernel
set_option maxRecDepth 20000 in
theorem ggX8_readInitialValue_X5_acceptField : GoodIn wsX8_readInitialValue wsX5_acceptField := goodIn_r _ [6, 7, 8, 9, 5, 10, 11, 12, 13, 31, 32, 33, 34, 35, 36] (by decide +kernel) (by decide +kernel)
set_option maxRecDepth 20000 in
theorem gX8_readInitialValue_X5_acceptField : GoodIn wsX8_readInitialValue (wsV RX8 61 RX5 yX5_acceptField wsX5_acceptField) := goodIn_app (goodIn_of _ (by decide +kernel)) ggX8_readInitialValue_X5_acceptField
set_option maxRecDepth 20000 in
theorem ggX8_readInitialValue_X5_acceptNumber : GoodIn wsX8_readInitialValue wsX5_acceptNumber := goodIn_r _ [17, 11, 12, 18, 7, 8, 9, 5, 10, 13, 31, 32, 33, 34, 35, 36] (by decide +kernel) (by decide +kernel)
set_option maxRecDepth 20000 in
theorem gX8_readInitialValue_X5_acceptNumber : GoodIn wsX8_readInitialValue (wsV RX8 64 RX5 yX5_acceptNumber wsX5_acceptNumber) := goodIn_app (goodIn_of _ (by decide +kernel)) ggX8_readInitialValue_X5_acceptNumber
set_option maxRecDepth 20000 in
theorem ggX8_readInitialValue_X10_assign : GoodIn wsX8_readInitialValue wsX10_assign := goodIn_r _ [23, 24, 25, 26, 37, 38, 39] (by decide +kernel) (by decide +kernel)
set_option maxRecDepth 20000 in
theorem gX8_readInitialValue_X10_assign : GoodIn wsX8_readInitialValue (wsV RX8 71 RX10 yX10_assign wsX10_assign) := goodIn_app (goodIn_of _ (by decide +kernel)) ggX8_readInitialValue_X10_assign
theorem dX8_readInitialValue_0 : decode cX8_readInitialValue 0 = .ok (.aload_n 0, 1) := by decide +kernel
theorem dX8_readInitialValue_1 : decode cX8_readInitialValue 1 = .ok (.getfield 12, 3) := by decide +kernel
theorem dX8_readInitialValue_4 : decode cX8_readInitialValue 4 = .ok (.invokevirtual 61, 3) := by decide +kernel
theorem dX8_readInitialValue_7 : decode cX8_readInitialValue 7 = .ok (.istore_n 2, 1) := by decide +kernel
theorem dX8_readInitialValue_8 : decode cX8_readInitialValue 8 = .ok (.iload_n 2, 1) := by decide +kernel
theorem dX8_readInitialValue_9 : decode cX8_readInitialValue 9 = .ok (.sipush (-1000), 3) := by decide +kernel
theorem dX8_readInitialValue_12 : decode cX8_readInitialValue 12 = .ok (.if_icmp .ne 5, 3) := by decide +kernel
theorem dX8_readInitialValue_15 : decode cX8_readInitialValue 15 = .ok (.iconst 0, 1) := by decide +kernel
theorem dX8_readInitialValue_16 : decode cX8_readInitialValue 16 = .ok (.ireturn, 1) := by decide +kernel
theorem dX8_readInitialValue_17 : decode cX8_readInitialValue 17 = .ok (.aload_n 0, 1) := by decide +kernel
theorem dX8_readInitialValue_18 : decode cX8_readInitialValue 18 = .ok (.getfield 12, 3) := by decide +kernel
theorem dX8_readInitialValue_21 : decode cX8_readInitialValue 21 = .ok (.invokevirtual 64, 3) := by decide +kernel
theorem dX8_readInitialValue_24 : decode cX8_readInitialValue 24 = .ok (.istore_n 3, 1) := by decide +kernel
theorem dX8_readInitialValue_25 : decode cX8_readInitialValue 25 = .ok (.iload_n 3, 1) := by decide +kernel
theorem dX8_readInitialValue_26 : decode cX8_readInitialValue 26 = .ok (.sipush (-1000), 3) := by decide +kernel
theorem dX8_readInitialValue_29 : decode cX8_readInitialValue 29 = .ok (.if_icmp .ne 5, 3) := by decide +kernel
theorem dX8_readInitialValue_32 : decode cX8_readInitialValue 32 = .ok (.iconst 0, 1) := by decide +kernel
theorem dX8_readInitialValue_33 : decode cX8_readInitialValue 33 = .ok (.ireturn, 1) := by decide +kernel
theorem dX8_readInitialValue_34 : decode cX8_readInitialValue 34 = .ok (.aload_n 1, 1) := by decide +kernel
theorem dX8_readInitialValue_35 : decode cX8_readInitialValue 35 = .ok (.getfield 67, 3) := by decide +kernel
theorem dX8_readInitialValue_38 : decode cX8_readInitialValue 38 = .ok (.iload_n 2, 1) := by decide +kernel
theorem dX8_readInitialValue_39 : decode cX8_readInitialValue 39 = .ok (.iload_n 3, 1) := by decide +kernel
theorem dX8_readInitialValue_40 : decode cX8_readInitialValue 40 = .ok (.invokevirtual 71, 3) := by decide +kernel
theorem dX8_readInitialValue_43 : decode cX8_readInitialValue 43 = .ok (.iconst 1, 1) := by decide +kernel
theorem dX8_readInitialValue_44 : decode cX8_readInitialValue 44 = .ok (.ireturn, 1) := by decide +kernel
set_option maxRecDepth 20000 in
theorem ggX8_readMethod_X6_init : GoodIn wsX8_readMethod wsX6_init := goodIn_r _ [5, 6, 7, 8, 9, 10, 11, 12, 13, 14, 15, 16, 17, 18, 19, 20, 21, 22, 23, 24, 25, 26, 27, 28, 29, 168, 169, 170, 165, 166, 167] (by decide +kernel) (by decide +kernel)
set_option maxRecDepth 20000 in
theorem gX8_readMethod_X6_init_n79 : GoodIn wsX8_readMethod (wsX6_init) := ggX8_readMethod_X6_init
set_option maxRecDepth 20000 in
theorem ggX8_readMethod_X8_readConditions : GoodIn wsX8_readMethod wsX8_readConditions := goodIn_r _ [34, 35, 36, 37, 38, 39, 40, 41, 42, 43, 44, 45, 46, 33, 47, 48, 49, 50, 51, 52, 53, 54, 55, 56, 57, 58, 59, 60, 61, 62, 63, 64, 65, 66, 7, 8, 67, 68, 69, 70, 71, 72, 73, 74, 75, 76, 77, 78, 79, 80, 81, 82, 83, 84, 85, 86, 87, 11, 88, 89, 90, 19, 91, 92, 93, 94, 95, 96, 97, 98, 99, 100, 101, 102, 103, 18, 104, 105, 106, 107, 108, 109, 110, 111, 112, 113, 114, 115, 116, 117, 118, 119, 120, 121, 122, 123, 124, 125, 126, 127, 128, 129, 130, 131, 132, 133, 134, 135, 136, 137, 171, 172, 173, 174, 175, 176, 177, 178, 179, 180, 181, 182, 168, 169, 170] (by decide +kernel) (by decide +kernel)
set_option maxRecDepth 20000 in
theorem gX8_readMethod_X8_readConditions : GoodIn wsX8_readMethod (wsV RX8 83 RX8 yX8_readConditions wsX8_readConditions) := goodIn_app (goodIn_of _ (by decide +kernel)) ggX8_readMethod_X8_readConditions
set_option maxRecDepth 20000 in
theorem ggX8_readMethod_X8_readAssignments : GoodIn wsX8_readMethod wsX8_readAssignments := goodIn_r _ [141, 35, 36, 37, 38, 39, 40, 41, 42, 43, 142, 143, 144, 33, 145, 146, 147, 148, 58, 59, 60, 61, 62, 51, 52, 53, 54, 55, 56, 57, 63, 64, 65, 66, 7, 8, 67, 68, 69, 70, 71, 72, 73, 149, 150, 151, 152, 153, 154, 155, 156, 157, 158, 159, 160, 85, 86, 87, 11, 88, 89, 90, 19, 91, 92, 93, 94, 95, 96, 97, 98, 99, 100, 101, 102, 103, 18, 104, 105, 106, 107, 108, 109, 110, 111, 112, 113, 114, 115, 116, 117, 118, 119, 120, 121, 122, 123, 124, 125, 126, 127, 128, 129, 130, 131, 132, 133, 134, 135, 136, 137, 161, 162, 163, 164, 171, 172, 173, 174, 175, 176, 177, 183, 184, 185, 186, 181, 182, 168, 169, 170] (by decide +kernel) (by decide +kernel)
set_option maxRecDepth 20000 in
theorem gX8_readMethod_X8_readAssignments : GoodIn wsX8_readMethod (wsV RX8 90 RX8 yX8_readAssignments wsX8_readAssignments) := goodIn_app (goodIn_of _ (by decide +kernel)) ggX8_readMethod_X8_readAssignments
set_option maxRecDepth 20000 in
theorem ggX8_readMethod_Jx4a65c_add_9ea2d : GoodIn wsX8_readMethod wsJx4a65c_add_9ea2d := goodIn_r _ [88, 89, 90, 19, 91, 92, 93, 94, 11, 95, 96, 97, 98, 99, 100, 101, 102, 103, 18, 104, 105, 106, 107, 108, 109, 110, 111, 112, 113, 114, 115, 116, 117, 118, 119, 120, 121, 122, 123, 124, 125, 126, 127, 128, 129, 130, 131, 132, 133, 134, 135, 136, 137, 168, 169, 170] (by decide +kernel) (by decide +kernel)
set_option maxRecDepth 20000 in
theorem gX8_readMethod_Jx4a65c_add_9ea2d : GoodIn wsX8_readMethod (wsV RX8 96 RJx4a65c yJx4a65c_add_9ea2d wsJx4a65c_add_9ea2d) := goodIn_app (goodIn_of _ (by decide +kernel)) ggX8_readMethod_Jx4a65c_add_9ea2d
theorem dX8_readMethod_0 : decode cX8_readMethod 0 = .ok (.new 77, 3) := by decide +kernel
theorem dX8_readMethod_3 : decode cX8_readMethod 3 = .ok (.dup, 1) := by decide +kernel
theorem dX8_readMethod_4 : decode cX8_readMethod 4 = .ok (.invokespecial 79, 3) := by decide +kernel
theorem dX8_readMethod_7 : decode cX8_readMethod 7 = .ok (.astore_n 2, 1) := by decide +kernel
theorem dX8_readMethod_8 : decode cX8_readMethod 8 = .ok (.aload_n 0, 1) := by decide +kernel
theorem dX8_readMethod_9 : decode cX8_readMethod 9 = .ok (.aload_n 2, 1) := by decide +kernel
theorem dX8_readMethod_10 : decode cX8_readMethod 10 = .ok (.getfield 80, 3) := by decide +kernel
theorem dX8_readMethod_13 : decode cX8_readMethod 13 = .ok (.sipush 303, 3) := by decide +kernel
theorem dX8_readMethod_16 : decode cX8_readMethod 16 = .ok (.iconst 0, 1) := by decide +kernel
theorem dX8_readMethod_17 : decode cX8_readMethod 17 = .ok (.invokevirtual 83, 3) := by decide +kernel
theorem dX8_readMethod_20 : decode cX8_readMethod 20 = .ok (.ifCond .eq 29, 3) := by decide +kernel
theorem dX8_readMethod_23 : decode cX8_readMethod 23 = .ok (.aload_n 0, 1) := by decide +kernel
theorem dX8_readMethod_24 : decode cX8_readMethod 24 = .ok (.aload_n 2, 1) := by decide +kernel
theorem dX8_readMethod_25 : decode cX8_readMethod 25 = .ok (.getfield 87, 3) := by decide +kernel
theorem dX8_readMethod_28 : decode cX8_readMethod 28 = .ok (.invokevirtual 90, 3) := by decide +kernel
theorem dX8_readMethod_31 : decode cX8_readMethod 31 = .ok (.ifCond .eq 18, 3) := by decide +kernel
theorem dX8_readMethod_34 : decode cX8_readMethod 34 = .ok (.aload_n 0, 1) := by decide +kernel
theorem dX8_readMethod_35 : decode cX8_readMethod 35 = .ok (.aload_n 2, 1) := by decide +kernel
theorem dX8_readMethod_36 : decode cX8_readMethod 36 = .ok (.getfield 93, 3) := by decide +kernel
theorem dX8_readMethod_39 : decode cX8_readMethod 39 = .ok (.sipush 305, 3) := by decide +kernel
theorem dX8_readMethod_42 : decode cX8_readMethod 42 = .ok (.iconst 1, 1) := by decide +kernel
theorem dX8_readMethod_43 : decode cX8_readMethod 43 = .ok (.invokevirtual 83, 3) := by decide +kernel
theorem dX8_readMethod_46 : decode cX8_readMethod 46 = .ok (.ifCond .ne 5, 3) := by decide +kernel
theorem dX8_readMethod_49 : decode cX8_readMethod 49 = .ok (.iconst 0, 1) := by decide +kernel
theorem dX8_readMethod_50 : decode cX8_readMethod 50 = .ok (.ireturn, 1) := by decide +kernel
theorem dX8_readMethod_51 : decode cX8_readMethod 51 = .ok (.aload_n 1, 1) := by decide +kernel
theorem dX8_readMethod_52 : decode cX8_readMethod 52 = .ok (.aload_n 2, 1) := by decide +kernel
theorem dX8_readMethod_53 : decode cX8_readMethod 53 = .ok (.invokevirtual 96, 3) := by decide +kernel
theorem dX8_readMethod_56 : decode cX8_readMethod 56 = .ok (.pop, 1) := by decide +kernel
theorem dX8_readMethod_57 : decode cX8_readMethod 57 = .ok (.iconst 1, 1) := by decide +kernel
theorem dX8_readMethod_58 : decode cX8_readMethod 58 = .ok (.ireturn, 1) := by decide +kernel
set_option maxRecDepth 20000 in
theorem ggX8_readConditions_X5_accept : GoodIn wsX8_readConditions wsX5_accept := goodIn_r _ [6, 7, 8, 9, 111, 112, 113, 114, 115, 116] (by decide +kernel) (by decide +kernel)
set_option maxRecDepth 20000 in
theorem gX8_readConditions_X5_accept : GoodIn wsX8_readConditions (wsV RX8 33 RX5 yX5_accept wsX5_accept) := goodIn_app (goodIn_of _ (by decide +kernel)) ggX8_readConditions_X5_accept
set_option maxRecDepth 20000 in
theorem ggX8_readConditions_X8_readCondition : GoodIn wsX8_readConditions wsX8_readCondition := goodIn_r _ [14, 15, 16, 17, 18, 19, 20, 13, 21, 1, 22, 23, 24, 2, 3, 4, 5, 6, 7, 8, 9, 25, 26, 27, 28, 29, 30, 31, 32, 33, 34, 35, 36, 37, 38, 39, 40, 41, 42, 43, 44, 45, 46, 47, 48, 49, 50, 51, 52, 53, 54, 55, 56, 57, 58, 59, 60, 61, 62, 63, 64, 65, 66, 67, 68, 69, 70, 71, 72, 73, 74, 75, 76, 77, 78, 79, 80, 81, 82, 83, 84, 85, 86, 87, 88, 89, 90, 91, 92, 93, 94, 95, 96, 97, 98, 99, 100, 101, 102, 103, 104, 105, 106, 107, 108, 109, 117, 118, 119, 110, 120, 121, 111, 112, 113, 114, 115, 116, 122, 123, 124] (by decide +kernel) (by decide +kernel)
set_option maxRecDepth 20000 in
theorem gX8_readConditions_X8_readCondition : GoodIn wsX8_readConditions (wsV RX8 50 RX8 yX8_readCondition wsX8_readCondition) := goodIn_app (goodIn_of _ (by decide +kernel)) ggX8_readConditions_X8_readCondition
theorem dX8_readConditions_0 : decode cX8_readConditions 0 = .ok (.iconst 0, 1) := by decide +kernel
theorem dX8_readConditions_1 : decode cX8_readConditions 1 = .ok (.istore 4, 2) := by decide +kernel
theorem dX8_readConditions_3 : decode cX8_readConditions 3 = .ok (.iload 4, 2) := by decide +kernel
theorem dX8_readConditions_5 : decode cX8_readConditions 5 = .ok (.iconst 2, 1) := by decide +kernel
theorem dX8_readConditions_6 : decode cX8_readConditions 6 = .ok (.if_icmp .ge 31, 3) := by decide +kernel
theorem dX8_readConditions_9 : decode cX8_readConditions 9 = .ok (.aload_n 0, 1) := by decide +kernel
theorem dX8_readConditions_10 : decode cX8_readConditions 10 = .ok (.getfield 12, 3) := by decide +kernel
theorem dX8_readConditions_13 : decode cX8_readConditions 13 = .ok (.iload_n 2, 1) := by decide +kernel
theorem dX8_readConditions_14 : decode cX8_readConditions 14 = .ok (.invokevirtual 33, 3) := by decide +kernel
theorem dX8_readConditions_17 : decode cX8_readConditions 17 = .ok (.ifCond .eq 20, 3) := by decide +kernel
theorem dX8_readConditions_20 : decode cX8_readConditions 20 = .ok (.aload_n 0, 1) := by decide +kernel
theorem dX8_readConditions_21 : decode cX8_readConditions 21 = .ok (.aload_n 1, 1) := by decide +kernel
theorem dX8_readConditions_22 : decode cX8_readConditions 22 = .ok (.iload_n 3, 1) := by decide +kernel
theorem dX8_readConditions_23 : decode cX8_readConditions 23 = .ok (.invokevirtual 50, 3) := by decide +kernel
theorem dX8_readConditions_26 : decode cX8_readConditions 26 = .ok (.ifCond .ne 5, 3) := by decide +kernel
theorem dX8_readConditions_29 : decode cX8_readConditions 29 = .ok (.iconst 0, 1) := by decide +kernel
theorem dX8_readConditions_30 : decode cX8_readConditions 30 = .ok (.ireturn, 1) := by decide +kernel
theorem dX8_readConditions_31 : decode cX8_readConditions 31 = .ok (.iinc 4 1, 3) := by decide +kernel
theorem dX8_readConditions_34 : decode cX8_readConditions 34 = .ok (.goto (-31), 3) := by decide +kernel
theorem dX8_readConditions_37 : decode cX8_readConditions 37 = .ok (.iconst 1, 1) := by decide +kernel
theorem dX8_readConditions_38 : decode cX8_readConditions 38 = .ok (.ireturn, 1) := by decide +kernel
set_option maxRecDepth 20000 in
theorem ggX8_readCondition_X8_readOperand : GoodIn wsX8_readCondition wsX8_readOperand := goodIn_r _ [8, 9, 10, 11, 12, 13, 14, 15, 16, 17, 18, 19, 20, 21, 22, 23, 24, 25, 26, 27, 28, 29, 30, 31, 32, 33, 34, 35, 36, 37, 38, 109, 110, 111, 112, 113, 114, 115, 116, 117] (by decide +kernel) (by decide +kernel)
set_option maxRecDepth 20000 in
theorem gX8_readCondition_X8_readOperand : GoodIn wsX8_readCondition (wsV RX8 100 RX8 yX8_readOperand wsX8_readOperand) := goodIn_app (goodIn_of _ (by decide +kernel)) ggX8_readCondition_X8_readOperand
set_option maxRecDepth 20000 in
theorem ggX8_readCondition_X8_readRelation : GoodIn wsX8_readCondition wsX8_readRelation := goodIn_r _ [42, 9, 13, 14, 15, 16, 17, 18, 19, 20, 109, 112, 113, 114, 115, 116, 117] (by decide +kernel) (by decide +kernel)
set_option maxRecDepth 20000 in
theorem gX8_readCondition_X8_readRelation : GoodIn wsX8_readCondition (wsV RX8 104 RX8 yX8_readRelation wsX8_readRelation) := goodIn_app (goodIn_of _ (by decide +kernel)) ggX8_readCondition_X8_readRelation
set_option maxRecDepth 20000 in
theorem ggX8_readCondition_X2_init : GoodIn wsX8_readCondition wsX2_init := goodIn_r _ [45, 46, 30, 31, 47, 48, 49, 106, 107, 108] (by decide +kernel) (by decide +kernel)
set_option maxRecDepth 20000 in
theorem gX8_readCondition_X2_init : GoodIn wsX8_readCondition (wsX2_init) := ggX8_readCondition_X2_init
set_option maxRecDepth 20000 in
theorem ggX8_readCondition_Jx4a65c_add_9ea2d : GoodIn wsX8_readCondition wsJx4a65c_add_9ea2d := goodIn_r _ [54, 55, 56, 57, 58, 59, 60, 61, 53, 62, 63, 64, 65, 66, 67, 68, 69, 70, 71, 72, 73, 74, 75, 76, 77, 78, 79, 80, 81, 82, 83, 84, 85, 86, 87, 88, 89, 90, 91, 92, 93, 94, 95, 96, 97, 98, 99, 100, 101, 102, 103, 104, 105, 118, 119, 120] (by decide +kernel) (by decide +kernel)
set_option maxRecDepth 20000 in
theorem gX8_readCondition_Jx4a65c_add_9ea2d : GoodIn wsX8_readCondition (wsV RX8 96 RJx4a65c yJx4a65c_add_9ea2d wsJx4a65c_add_9ea2d) := goodIn_app (goodIn_of _ (by decide +kernel)) ggX8_readCondition_Jx4a65c_add_9ea2d
theorem dX8_readCondition_0 : decode cX8_readCondition 0 = .ok (.aload_n 0, 1) := by decide +kernel
theorem dX8_readCondition_1 : decode cX8_readCondition 1 = .ok (.iload_n 2, 1) := by decide +kernel
theorem dX8_readCondition_2 : decode cX8_readCondition 2 = .ok (.invokevirtual 100, 3) := by decide +kernel
theorem dX8_readCondition_5 : decode cX8_readCondition 5 = .ok (.astore_n 3, 1) := by decide +kernel
theorem dX8_readCondition_6 : decode cX8_readCondition 6 = .ok (.aload_n 3, 1) := by decide +kernel
theorem dX8_readCondition_7 : decode cX8_readCondition 7 = .ok (.ifnonnull 5, 3) := by decide +kernel
theorem dX8_readCondition_10 : decode cX8_readCondition 10 = .ok (.iconst 0, 1) := by decide +kernel
theorem dX8_readCondition_11 : decode cX8_readCondition 11 = .ok (.ireturn, 1) := by decide +kernel
theorem dX8_readCondition_12 : decode cX8_readCondition 12 = .ok (.aload_n 0, 1) := by decide +kernel
theorem dX8_readCondition_13 : decode cX8_readCondition 13 = .ok (.invokevirtual 104, 3) := by decide +kernel
theorem dX8_readCondition_16 : decode cX8_readCondition 16 = .ok (.istore 4, 2) := by decide +kernel
theorem dX8_readCondition_18 : decode cX8_readCondition 18 = .ok (.iload 4, 2) := by decide +kernel
theorem dX8_readCondition_20 : decode cX8_readCondition 20 = .ok (.sipush (-1000), 3) := by decide +kernel
theorem dX8_readCondition_23 : decode cX8_readCondition 23 = .ok (.if_icmp .ne 5, 3) := by decide +kernel
theorem dX8_readCondition_26 : decode cX8_readCondition 26 = .ok (.iconst 0, 1) := by decide +kernel
theorem dX8_readCondition_27 : decode cX8_readCondition 27 = .ok (.ireturn, 1) := by decide +kernel
theorem dX8_readCondition_28 : decode cX8_readCondition 28 = .ok (.aload_n 0, 1) := by decide +kernel
theorem dX8_readCondition_29 : decode cX8_readCondition 29 = .ok (.iload_n 2, 1) := by decide +kernel
theorem dX8_readCondition_30 : decode cX8_readCondition 30 = .ok (.invokevirtual 100, 3) := by decide +kernel
theorem dX8_readCondition_33 : decode cX8_readCondition 33 = .ok (.astore 5, 2) := by decide +kernel
theorem dX8_readCondition_35 : decode cX8_readCondition 35 = .ok (.aload 5, 2) := by decide +kernel
theorem dX8_readCondition_37 : decode cX8_readCondition 37 = .ok (.ifnonnull 5, 3) := by decide +kernel
theorem dX8_readCondition_40 : decode cX8_readCondition 40 = .ok (.iconst 0, 1) := by decide +kernel
theorem dX8_readCondition_41 : decode cX8_readCondition 41 = .ok (.ireturn, 1) := by decide +kernel
theorem dX8_readCondition_42 : decode cX8_readCondition 42 = .ok (.aload_n 1, 1) := by decide +kernel
theorem dX8_readCondition_43 : decode cX8_readCondition 43 = .ok (.new 107, 3) := by decide +kernel
theorem dX8_readCondition_46 : decode cX8_readCondition 46 = .ok (.dup, 1) := by decide +kernel
theorem dX8_readCondition_47 : decode cX8_readCondition 47 = .ok (.aload_n 3, 1) := by decide +kernel
theorem dX8_readCondition_48 : decode cX8_readCondition 48 = .ok (.iload 4, 2) := by decide +kernel
theorem dX8_readCondition_50 : decode cX8_readCondition 50 = .ok (.aload 5, 2) := by decide +kernel
theorem dX8_readCondition_52 : decode cX8_readCondition 52 = .ok (.invokespecial 109, 3) := by decide +kernel
theorem dX8_readCondition_55 : decode cX8_readCondition 55 = .ok (.invokevirtual 96, 3) := by decide +kernel
theorem dX8_readCondition_58 : decode cX8_readCondition 58 = .ok (.pop, 1) := by decide +kernel
theorem dX8_readCondition_59 : decode cX8_readCondition 59 = .ok (.iconst 1, 1) := by decide +kernel
theorem dX8_readCondition_60 : decode cX8_readCondition 60 = .ok (.ireturn, 1) := by decide +kernel
set_option maxRecDepth 20000 in
theorem ggX8_readRelation_X5_accept : GoodIn wsX8_readRelation wsX5_accept := goodIn_r _ [6, 7, 8, 9, 11, 12, 13, 14, 15, 16] (by decide +kernel) (by decide +kernel)
set_option maxRecDepth 20000 in
theorem gX8_readRelation_X5_accept : GoodIn wsX8_readRelation (wsV RX8 33 RX5 yX5_accept wsX5_accept) := goodIn_app (goodIn_of _ (by decide +kernel)) ggX8_readRelation_X5_accept
theorem dX8_readRelation_0 : decode cX8_readRelation 0 = .ok (.aload_n 0, 1) := by decide +kernel
theorem dX8_readRelation_1 : decode cX8_readRelation 1 = .ok (.getfield 12, 3) := by decide +kernel
theorem dX8_readRelation_4 : decode cX8_readRelation 4 = .ok (.bipush 60, 2) := by decide +kernel
theorem dX8_readRelation_6 : decode cX8_readRelation 6 = .ok (.invokevirtual 33, 3) := by decide +kernel
theorem dX8_readRelation_9 : decode cX8_readRelation 9 = .ok (.ifCond .eq 6, 3) := by decide +kernel
theorem dX8_readRelation_12 : decode cX8_readRelation 12 = .ok (.bipush 60, 2) := by decide +kernel
theorem dX8_readRelation_14 : decode cX8_readRelation 14 = .ok (.ireturn, 1) := by decide +kernel
theorem dX8_readRelation_15 : decode cX8_readRelation 15 = .ok (.aload_n 0, 1) := by decide +kernel
theorem dX8_readRelation_16 : decode cX8_readRelation 16 = .ok (.getfield 12, 3) := by decide +kernel
theorem dX8_readRelation_19 : decode cX8_readRelation 19 = .ok (.bipush 61, 2) := by decide +kernel
theorem dX8_readRelation_21 : decode cX8_readRelation 21 = .ok (.invokevirtual 33, 3) := by decide +kernel
theorem dX8_readRelation_24 : decode cX8_readRelation 24 = .ok (.ifCond .eq 6, 3) := by decide +kernel
theorem dX8_readRelation_27 : decode cX8_readRelation 27 = .ok (.bipush 61, 2) := by decide +kernel
theorem dX8_readRelation_29 : decode cX8_readRelation 29 = .ok (.ireturn, 1) := by decide +kernel
theorem dX8_readRelation_30 : decode cX8_readRelation 30 = .ok (.aload_n 0, 1) := by decide +kernel
theorem dX8_readRelation_31 : decode cX8_readRelation 31 = .ok (.getfield 12, 3) := by decide +kernel
theorem dX8_readRelation_34 : decode cX8_readRelation 34 = .ok (.bipush 62, 2) := by decide +kernel
theorem dX8_readRelation_36 : decode cX8_readRelation 36 = .ok (.invokevirtual 33, 3) := by decide +kernel
theorem dX8_readRelation_39 : decode cX8_readRelation 39 = .ok (.ifCond .eq 8, 3) := by decide +kernel
theorem dX8_readRelation_42 : decode cX8_readRelation 42 = .ok (.bipush 62, 2) := by decide +kernel
theorem dX8_readRelation_44 : decode cX8_readRelation 44 = .ok (.goto 6, 3) := by decide +kernel
theorem dX8_readRelation_47 : decode cX8_readRelation 47 = .ok (.sipush (-1000), 3) := by decide +kernel
theorem dX8_readRelation_50 : decode cX8_readRelation 50 = .ok (.ireturn, 1) := by decide +kernel
set_option maxRecDepth 20000 in
theorem ggX8_readAssignments_X5_accept : GoodIn wsX8_readAssignments wsX5_accept := goodIn_r _ [6, 7, 8, 9, 116, 117, 118, 119, 120, 121] (by decide +kernel) (by decide +kernel)
set_option maxRecDepth 20000 in
theorem gX8_readAssignments_X5_accept : GoodIn wsX8_readAssignments (wsV RX8 33 RX5 yX5_accept wsX5_accept) := goodIn_app (goodIn_of _ (by decide +kernel)) ggX8_readAssignments_X5_accept
set_option maxRecDepth 20000 in
theorem ggX8_readAssignments_X8_readAssignment : GoodIn wsX8_readAssignments wsX8_readAssignment := goodIn_r _ [14, 1, 15, 16, 17, 18, 19, 20, 5, 21, 22, 3, 4, 6, 7, 8, 9, 2, 23, 24, 25, 13, 26, 27, 28, 29, 30, 31, 32, 33, 34, 35, 36, 37, 38, 39, 40, 41, 42, 43, 44, 45, 46, 47, 48, 49, 50, 51, 52, 53, 54, 55, 56, 57, 58, 59, 60, 61, 62, 63, 64, 65, 66, 67, 68, 69, 70, 71, 72, 73, 74, 75, 76, 77, 78, 79, 80, 81, 82, 83, 84, 85, 86, 87, 88, 89, 90, 91, 92, 93, 94, 95, 96, 97, 98, 99, 100, 101, 102, 103, 104, 105, 106, 107, 108, 109, 110, 115, 122, 123, 124, 125, 116, 117, 118, 119, 120, 121, 126, 127, 128, 129, 130] (by decide +kernel) (by decide +kernel)
set_option maxRecDepth 20000 in
theorem gX8_readAssignments_X8_readAssignment : GoodIn wsX8_readAssignments (wsV RX8 112 RX8 yX8_readAssignment wsX8_readAssignment) := goodIn_app (goodIn_of _ (by decide +kernel)) ggX8_readAssignments_X8_readAssignment
set_option maxRecDepth 20000 in
theorem ggX8_readAssignments_Jx4a65c_isEmpty_aae02 : GoodIn wsX8_readAssignments wsJx4a65c_isEmpty_aae02 := goodIn_r _ [114, 63, 128, 129, 130] (by decide +kernel) (by decide +kernel)
set_option maxRecDepth 20000 in
theorem gX8_readAssignments_Jx4a65c_isEmpty_aae02 : GoodIn wsX8_readAssignments (wsV RX8 115 RJx4a65c yJx4a65c_isEmpty_aae02 wsJx4a65c_isEmpty_aae02) := goodIn_app (goodIn_of _ (by decide +kernel)) ggX8_readAssignments_Jx4a65c_isEmpty_aae02
theorem dX8_readAssignments_0 : decode cX8_readAssignments 0 = .ok (.iconst 0, 1) := by decide +kernel
theorem dX8_readAssignments_1 : decode cX8_readAssignments 1 = .ok (.istore_n 2, 1) := by decide +kernel
theorem dX8_readAssignments_2 : decode cX8_readAssignments 2 = .ok (.iload_n 2, 1) := by decide +kernel
theorem dX8_readAssignments_3 : decode cX8_readAssignments 3 = .ok (.iconst 3, 1) := by decide +kernel
theorem dX8_readAssignments_4 : decode cX8_readAssignments 4 = .ok (.if_icmp .ge 32, 3) := by decide +kernel
theorem dX8_readAssignments_7 : decode cX8_readAssignments 7 = .ok (.aload_n 0, 1) := by decide +kernel
theorem dX8_readAssignments_8 : decode cX8_readAssignments 8 = .ok (.getfield 12, 3) := by decide +kernel
theorem dX8_readAssignments_11 : decode cX8_readAssignments 11 = .ok (.sipush 304, 3) := by decide +kernel
theorem dX8_readAssignments_14 : decode cX8_readAssignments 14 = .ok (.invokevirtual 33, 3) := by decide +kernel
theorem dX8_readAssignments_17 : decode cX8_readAssignments 17 = .ok (.ifCond .eq 19, 3) := by decide +kernel
theorem dX8_readAssignments_20 : decode cX8_readAssignments 20 = .ok (.aload_n 0, 1) := by decide +kernel
theorem dX8_readAssignments_21 : decode cX8_readAssignments 21 = .ok (.aload_n 1, 1) := by decide +kernel
theorem dX8_readAssignments_22 : decode cX8_readAssignments 22 = .ok (.invokevirtual 112, 3) := by decide +kernel
theorem dX8_readAssignments_25 : decode cX8_readAssignments 25 = .ok (.ifCond .ne 5, 3) := by decide +kernel
theorem dX8_readAssignments_28 : decode cX8_readAssignments 28 = .ok (.iconst 0, 1) := by decide +kernel
theorem dX8_readAssignments_29 : decode cX8_readAssignments 29 = .ok (.ireturn, 1) := by decide +kernel
theorem dX8_readAssignments_30 : decode cX8_readAssignments 30 = .ok (.iinc 2 1, 3) := by decide +kernel
theorem dX8_readAssignments_33 : decode cX8_readAssignments 33 = .ok (.goto (-31), 3) := by decide +kernel
theorem dX8_readAssignments_36 : decode cX8_readAssignments 36 = .ok (.aload_n 1, 1) := by decide +kernel
theorem dX8_readAssignments_37 : decode cX8_readAssignments 37 = .ok (.invokevirtual 115, 3) := by decide +kernel
theorem dX8_readAssignments_40 : decode cX8_readAssignments 40 = .ok (.ifCond .ne 7, 3) := by decide +kernel
theorem dX8_readAssignments_43 : decode cX8_readAssignments 43 = .ok (.iconst 1, 1) := by decide +kernel
theorem dX8_readAssignments_44 : decode cX8_readAssignments 44 = .ok (.goto 4, 3) := by decide +kernel
theorem dX8_readAssignments_47 : decode cX8_readAssignments 47 = .ok (.iconst 0, 1) := by decide +kernel
theorem dX8_readAssignments_48 : decode cX8_readAssignments 48 = .ok (.ireturn, 1) := by decide +kernel
set_option maxRecDepth 20000 in
theorem ggX8_readAssignment_X5_acceptField : GoodIn wsX8_readAssignment wsX5_acceptField := goodIn_r _ [9, 10, 11, 12, 8, 13, 14, 15, 16, 112, 113, 114, 115, 116, 117] (by decide +kernel) (by decide +kernel)
set_option maxRecDepth 20000 in
theorem gX8_readAssignment_X5_acceptField : GoodIn wsX8_readAssignment (wsV RX8 61 RX5 yX5_acceptField wsX5_acceptField) := goodIn_app (goodIn_of _ (by decide +kernel)) ggX8_readAssignment_X5_acceptField
set_option maxRecDepth 20000 in
theorem ggX8_readAssignment_X5_accept : GoodIn wsX8_readAssignment wsX5_accept := goodIn_r _ [13, 14, 15, 16, 112, 113, 114, 115, 116, 117] (by decide +kernel) (by decide +kernel)
set_option maxRecDepth 20000 in
theorem gX8_readAssignment_X5_accept : GoodIn wsX8_readAssignment (wsV RX8 33 RX5 yX5_accept wsX5_accept) := goodIn_app (goodIn_of _ (by decide +kernel)) ggX8_readAssignment_X5_accept
set_option maxRecDepth 20000 in
theorem ggX8_readAssignment_X8_readOperand : GoodIn wsX8_readAssignment wsX8_readOperand := goodIn_r _ [22, 1, 23, 24, 25, 17, 11, 12, 8, 13, 14, 15, 16, 5, 6, 7, 9, 10, 26, 27, 28, 29, 30, 31, 32, 33, 34, 35, 36, 37, 38, 107, 118, 119, 112, 113, 114, 115, 116, 117] (by decide +kernel) (by decide +kernel)
set_option maxRecDepth 20000 in
theorem gX8_readAssignment_X8_readOperand : GoodIn wsX8_readAssignment (wsV RX8 100 RX8 yX8_readOperand wsX8_readOperand) := goodIn_app (goodIn_of _ (by decide +kernel)) ggX8_readAssignment_X8_readOperand
set_option maxRecDepth 20000 in
theorem ggX8_readAssignment_X8_readSign : GoodIn wsX8_readAssignment wsX8_readSign := goodIn_r _ [42, 1, 17, 11, 12, 8, 13, 14, 15, 16, 107, 112, 113, 114, 115, 116, 117] (by decide +kernel) (by decide +kernel)
set_option maxRecDepth 20000 in
theorem gX8_readAssignment_X8_readSign : GoodIn wsX8_readAssignment (wsV RX8 118 RX8 yX8_readSign wsX8_readSign) := goodIn_app (goodIn_of _ (by decide +kernel)) ggX8_readAssignment_X8_readSign
set_option maxRecDepth 20000 in
theorem ggX8_readAssignment_X0_init : GoodIn wsX8_readAssignment wsX0_init := goodIn_r _ [45, 46, 30, 31, 47, 48, 49, 50, 108, 109, 110, 111] (by decide +kernel) (by decide +kernel)
set_option maxRecDepth 20000 in
theorem gX8_readAssignment_X0_init : GoodIn wsX8_readAssignment (wsX0_init) := ggX8_readAssignment_X0_init
set_option maxRecDepth 20000 in
theorem ggX8_readAssignment_Jx4a65c_add_9ea2d : GoodIn wsX8_readAssignment wsJx4a65c_add_9ea2d := goodIn_r _ [55, 56, 57, 58, 59, 60, 61, 62, 54, 63, 64, 65, 66, 67, 68, 69, 70, 71, 72, 73, 74, 75, 76, 77, 78, 79, 80, 81, 82, 83, 84, 85, 86, 87, 88, 89, 90, 91, 92, 93, 94, 95, 96, 97, 98, 99, 100, 101, 102, 103, 104, 105, 106, 120, 121, 122] (by decide +kernel) (by decide +kernel)
set_option maxRecDepth 20000 in
theorem gX8_readAssignment_Jx4a65c_add_9ea2d : GoodIn wsX8_readAssignment (wsV RX8 96 RJx4a65c yJx4a65c_add_9ea2d wsJx4a65c_add_9ea2d) := goodIn_app (goodIn_of _ (by decide +kernel)) ggX8_readAssignment_Jx4a65c_add_9ea2d
theorem dX8_readAssignment_0 : decode cX8_readAssignment 0 = .ok (.aload_n 0, 1) := by decide +kernel
theorem dX8_readAssignment_1 : decode cX8_readAssignment 1 = .ok (.getfield 12, 3) := by decide +kernel
theorem dX8_readAssignment_4 : decode cX8_readAssignment 4 = .ok (.invokevirtual 61, 3) := by decide +kernel
theorem dX8_readAssignment_7 : decode cX8_readAssignment 7 = .ok (.istore_n 2, 1) := by decide +kernel
theorem dX8_readAssignment_8 : decode cX8_readAssignment 8 = .ok (.iload_n 2, 1) := by decide +kernel
theorem dX8_readAssignment_9 : decode cX8_readAssignment 9 = .ok (.sipush (-1000), 3) := by decide +kernel
theorem dX8_readAssignment_12 : decode cX8_readAssignment 12 = .ok (.if_icmp .eq 15, 3) := by decide +kernel
theorem dX8_readAssignment_15 : decode cX8_readAssignment 15 = .ok (.aload_n 0, 1) := by decide +kernel
theorem dX8_readAssignment_16 : decode cX8_readAssignment 16 = .ok (.getfield 12, 3) := by decide +kernel
theorem dX8_readAssignment_19 : decode cX8_readAssignment 19 = .ok (.bipush 61, 2) := by decide +kernel
theorem dX8_readAssignment_21 : decode cX8_readAssignment 21 = .ok (.invokevirtual 33, 3) := by decide +kernel
theorem dX8_readAssignment_24 : decode cX8_readAssignment 24 = .ok (.ifCond .ne 5, 3) := by decide +kernel
theorem dX8_readAssignment_27 : decode cX8_readAssignment 27 = .ok (.iconst 0, 1) := by decide +kernel
theorem dX8_readAssignment_28 : decode cX8_readAssignment 28 = .ok (.ireturn, 1) := by decide +kernel
theorem dX8_readAssignment_29 : decode cX8_readAssignment 29 = .ok (.aload_n 0, 1) := by decide +kernel
theorem dX8_readAssignment_30 : decode cX8_readAssignment 30 = .ok (.iconst 0, 1) := by decide +kernel
theorem dX8_readAssignment_31 : decode cX8_readAssignment 31 = .ok (.invokevirtual 100, 3) := by decide +kernel
theorem dX8_readAssignment_34 : decode cX8_readAssignment 34 = .ok (.astore_n 3, 1) := by decide +kernel
theorem dX8_readAssignment_35 : decode cX8_readAssignment 35 = .ok (.aload_n 3, 1) := by decide +kernel
theorem dX8_readAssignment_36 : decode cX8_readAssignment 36 = .ok (.ifnonnull 5, 3) := by decide +kernel
theorem dX8_readAssignment_39 : decode cX8_readAssignment 39 = .ok (.iconst 0, 1) := by decide +kernel
theorem dX8_readAssignment_40 : decode cX8_readAssignment 40 = .ok (.ireturn, 1) := by decide +kernel
theorem dX8_readAssignment_41 : decode cX8_readAssignment 41 = .ok (.aload_n 0, 1) := by decide +kernel
theorem dX8_readAssignment_42 : decode cX8_readAssignment 42 = .ok (.invokevirtual 118, 3) := by decide +kernel
theorem dX8_readAssignment_45 : decode cX8_readAssignment 45 = .ok (.istore 4, 2) := by decide +kernel
theorem dX8_readAssignment_47 : decode cX8_readAssignment 47 = .ok (.iload 4, 2) := by decide +kernel
theorem dX8_readAssignment_49 : decode cX8_readAssignment 49 = .ok (.ifCond .ne 7, 3) := by decide +kernel
theorem dX8_readAssignment_52 : decode cX8_readAssignment 52 = .ok (.aload_n 3, 1) := by decide +kernel
theorem dX8_readAssignment_53 : decode cX8_readAssignment 53 = .ok (.goto 8, 3) := by decide +kernel
theorem dX8_readAssignment_56 : decode cX8_readAssignment 56 = .ok (.aload_n 0, 1) := by decide +kernel
theorem dX8_readAssignment_57 : decode cX8_readAssignment 57 = .ok (.iconst 0, 1) := by decide +kernel
theorem dX8_readAssignment_58 : decode cX8_readAssignment 58 = .ok (.invokevirtual 100, 3) := by decide +kernel
theorem dX8_readAssignment_61 : decode cX8_readAssignment 61 = .ok (.astore 5, 2) := by decide +kernel
theorem dX8_readAssignment_63 : decode cX8_readAssignment 63 = .ok (.aload 5, 2) := by decide +kernel
theorem dX8_readAssignment_65 : decode cX8_readAssignment 65 = .ok (.ifnonnull 5, 3) := by decide +kernel
theorem dX8_readAssignment_68 : decode cX8_readAssignment 68 = .ok (.iconst 0, 1) := by decide +kernel
theorem dX8_readAssignment_69 : decode cX8_readAssignment 69 = .ok (.ireturn, 1) := by decide +kernel
theorem dX8_readAssignment_70 : decode cX8_readAssignment 70 = .ok (.aload_n 1, 1) := by decide +kernel
theorem dX8_readAssignment_71 : decode cX8_readAssignment 71 = .ok (.new 121, 3) := by decide +kernel
theorem dX8_readAssignment_74 : decode cX8_readAssignment 74 = .ok (.dup, 1) := by decide +kernel
theorem dX8_readAssignment_75 : decode cX8_readAssignment 75 = .ok (.iload_n 2, 1) := by decide +kernel
theorem dX8_readAssignment_76 : decode cX8_readAssignment 76 = .ok (.aload_n 3, 1) := by decide +kernel
theorem dX8_readAssignment_77 : decode cX8_readAssignment 77 = .ok (.iload 4, 2) := by decide +kernel
theorem dX8_readAssignment_79 : decode cX8_readAssignment 79 = .ok (.aload 5, 2) := by decide +kernel
theorem dX8_readAssignment_81 : decode cX8_readAssignment 81 = .ok (.invokespecial 123, 3) := by decide +kernel
theorem dX8_readAssignment_84 : decode cX8_readAssignment 84 = .ok (.invokevirtual 96, 3) := by decide +kernel
theorem dX8_readAssignment_87 : decode cX8_readAssignment 87 = .ok (.pop, 1) := by decide +kernel
theorem dX8_readAssignment_88 : decode cX8_readAssignment 88 = .ok (.iconst 1, 1) := by decide +kernel
theorem dX8_readAssignment_89 : decode cX8_readAssignment 89 = .ok (.ireturn, 1) := by decide +kernel
set_option maxRecDepth 20000 in
theorem ggX8_readSign_X5_accept : GoodIn wsX8_readSign wsX5_accept := goodIn_r _ [6, 7, 8, 9, 11, 12, 13, 14, 15, 16] (by decide +kernel) (by decide +kernel)
set_option maxRecDepth 20000 in
theorem gX8_readSign_X5_accept : GoodIn wsX8_readSign (wsV RX8 33 RX5 yX5_accept wsX5_accept) := goodIn_app (goodIn_of _ (by decide +kernel)) ggX8_readSign_X5_accept
theorem dX8_readSign_0 : decode cX8_readSign 0 = .ok (.aload_n 0, 1) := by decide +kernel
theorem dX8_readSign_1 : decode cX8_readSign 1 = .ok (.getfield 12, 3) := by decide +kernel
theorem dX8_readSign_4 : decode cX8_readSign 4 = .ok (.bipush 43, 2) := by decide +kernel
theorem dX8_readSign_6 : decode cX8_readSign 6 = .ok (.invokevirtual 33, 3) := by decide +kernel
theorem dX8_readSign_9 : decode cX8_readSign 9 = .ok (.ifCond .eq 5, 3) := by decide +kernel
theorem dX8_readSign_12 : decode cX8_readSign 12 = .ok (.iconst 1, 1) := by decide +kernel
theorem dX8_readSign_13 : decode cX8_readSign 13 = .ok (.ireturn, 1) := by decide +kernel
theorem dX8_readSign_14 : decode cX8_readSign 14 = .ok (.aload_n 0, 1) := by decide +kernel
theorem dX8_readSign_15 : decode cX8_readSign 15 = .ok (.getfield 12, 3) := by decide +kernel
theorem dX8_readSign_18 : decode cX8_readSign 18 = .ok (.bipush 45, 2) := by decide +kernel
theorem dX8_readSign_20 : decode cX8_readSign 20 = .ok (.invokevirtual 33, 3) := by decide +kernel
theorem dX8_readSign_23 : decode cX8_readSign 23 = .ok (.ifCond .eq 7, 3) := by decide +kernel
theorem dX8_readSign_26 : decode cX8_readSign 26 = .ok (.iconst (-1), 1) := by decide +kernel
theorem dX8_readSign_27 : decode cX8_readSign 27 = .ok (.goto 4, 3) := by decide +kernel
theorem dX8_readSign_30 : decode cX8_readSign 30 = .ok (.iconst 0, 1) := by decide +kernel
theorem dX8_readSign_31 : decode cX8_readSign 31 = .ok (.ireturn, 1) := by decide +kernel
set_option maxRecDepth 20000 in
theorem ggX8_readOperand_X5_accept : GoodIn wsX8_readOperand wsX5_accept := goodIn_r _ [9, 10, 11, 12, 34, 35, 36, 37, 38, 39] (by decide +kernel) (by decide +kernel)
set_option maxRecDepth 20000 in
theorem gX8_readOperand_X5_accept : GoodIn wsX8_readOperand (wsV RX8 33 RX5 yX5_accept wsX5_accept) := goodIn_app (goodIn_of _ (by decide +kernel)) ggX8_readOperand_X5_accept
set_option maxRecDepth 20000 in
theorem ggX8_readOperand_X5_acceptField : GoodIn wsX8_readOperand wsX5_acceptField := goodIn_r _ [16, 17, 6, 7, 8, 9, 10, 11, 12, 34, 35, 36, 37, 38, 39] (by decide +kernel) (by decide +kernel)
set_option maxRecDepth 20000 in
theorem gX8_readOperand_X5_acceptField : GoodIn wsX8_readOperand (wsV RX8 61 RX5 yX5_acceptField wsX5_acceptField) := goodIn_app (goodIn_of _ (by decide +kernel)) ggX8_readOperand_X5_acceptField
set_option maxRecDepth 20000 in
theorem ggX8_readOperand_X7_init : GoodIn wsX8_readOperand wsX7_init := goodIn_r _ [20, 21, 22, 23, 24, 25, 32, 33] (by decide +kernel) (by decide +kernel)
set_option maxRecDepth 20000 in
theorem gX8_readOperand_X7_init : GoodIn wsX8_readOperand (wsX7_init) := ggX8_readOperand_X7_init
set_option maxRecDepth 20000 in
theorem ggX8_readOperand_X5_acceptNumber : GoodIn wsX8_readOperand wsX5_acceptNumber := goodIn_r _ [29, 10, 11, 30, 17, 6, 7, 8, 9, 12, 34, 35, 36, 37, 38, 39] (by decide +kernel) (by decide +kernel)
set_option maxRecDepth 20000 in
theorem gX8_readOperand_X5_acceptNumber : GoodIn wsX8_readOperand (wsV RX8 64 RX5 yX5_acceptNumber wsX5_acceptNumber) := goodIn_app (goodIn_of _ (by decide +kernel)) ggX8_readOperand_X5_acceptNumber
theorem dX8_readOperand_0 : decode cX8_readOperand 0 = .ok (.iload_n 1, 1) := by decide +kernel
theorem dX8_readOperand_1 : decode cX8_readOperand 1 = .ok (.ifCond .eq 47, 3) := by decide +kernel
theorem dX8_readOperand_4 : decode cX8_readOperand 4 = .ok (.aload_n 0, 1) := by decide +kernel
theorem dX8_readOperand_5 : decode cX8_readOperand 5 = .ok (.getfield 12, 3) := by decide +kernel
theorem dX8_readOperand_8 : decode cX8_readOperand 8 = .ok (.sipush 306, 3) := by decide +kernel
theorem dX8_readOperand_11 : decode cX8_readOperand 11 = .ok (.invokevirtual 33, 3) := by decide +kernel
theorem dX8_readOperand_14 : decode cX8_readOperand 14 = .ok (.ifCond .eq 34, 3) := by decide +kernel
theorem dX8_readOperand_17 : decode cX8_readOperand 17 = .ok (.aload_n 0, 1) := by decide +kernel
theorem dX8_readOperand_18 : decode cX8_readOperand 18 = .ok (.getfield 12, 3) := by decide +kernel
theorem dX8_readOperand_21 : decode cX8_readOperand 21 = .ok (.invokevirtual 61, 3) := by decide +kernel
theorem dX8_readOperand_24 : decode cX8_readOperand 24 = .ok (.istore_n 2, 1) := by decide +kernel
theorem dX8_readOperand_25 : decode cX8_readOperand 25 = .ok (.iload_n 2, 1) := by decide +kernel
theorem dX8_readOperand_26 : decode cX8_readOperand 26 = .ok (.sipush (-1000), 3) := by decide +kernel
theorem dX8_readOperand_29 : decode cX8_readOperand 29 = .ok (.if_icmp .ne 7, 3) := by decide +kernel
theorem dX8_readOperand_32 : decode cX8_readOperand 32 = .ok (.aconst_null, 1) := by decide +kernel
theorem dX8_readOperand_33 : decode cX8_readOperand 33 = .ok (.goto 14, 3) := by decide +kernel
theorem dX8_readOperand_36 : decode cX8_readOperand 36 = .ok (.new 126, 3) := by decide +kernel
theorem dX8_readOperand_39 : decode cX8_readOperand 39 = .ok (.dup, 1) := by decide +kernel
theorem dX8_readOperand_40 : decode cX8_readOperand 40 = .ok (.iconst 3, 1) := by decide +kernel
theorem dX8_readOperand_41 : decode cX8_readOperand 41 = .ok (.iload_n 2, 1) := by decide +kernel
theorem dX8_readOperand_42 : decode cX8_readOperand 42 = .ok (.iadd, 1) := by decide +kernel
theorem dX8_readOperand_43 : decode cX8_readOperand 43 = .ok (.iconst 0, 1) := by decide +kernel
theorem dX8_readOperand_44 : decode cX8_readOperand 44 = .ok (.invokespecial 128, 3) := by decide +kernel
theorem dX8_readOperand_47 : decode cX8_readOperand 47 = .ok (.areturn, 1) := by decide +kernel
theorem dX8_readOperand_48 : decode cX8_readOperand 48 = .ok (.aload_n 0, 1) := by decide +kernel
theorem dX8_readOperand_49 : decode cX8_readOperand 49 = .ok (.getfield 12, 3) := by decide +kernel
theorem dX8_readOperand_52 : decode cX8_readOperand 52 = .ok (.invokevirtual 61, 3) := by decide +kernel
theorem dX8_readOperand_55 : decode cX8_readOperand 55 = .ok (.istore_n 2, 1) := by decide +kernel
theorem dX8_readOperand_56 : decode cX8_readOperand 56 = .ok (.iload_n 2, 1) := by decide +kernel
theorem dX8_readOperand_57 : decode cX8_readOperand 57 = .ok (.sipush (-1000), 3) := by decide +kernel
theorem dX8_readOperand_60 : decode cX8_readOperand 60 = .ok (.if_icmp .eq 13, 3) := by decide +kernel
theorem dX8_readOperand_63 : decode cX8_readOperand 63 = .ok (.new 126, 3) := by decide +kernel
theorem dX8_readOperand_66 : decode cX8_readOperand 66 = .ok (.dup, 1) := by decide +kernel
theorem dX8_readOperand_67 : decode cX8_readOperand 67 = .ok (.iload_n 2, 1) := by decide +kernel
theorem dX8_readOperand_68 : decode cX8_readOperand 68 = .ok (.iconst 0, 1) := by decide +kernel
theorem dX8_readOperand_69 : decode cX8_readOperand 69 = .ok (.invokespecial 128, 3) := by decide +kernel
theorem dX8_readOperand_72 : decode cX8_readOperand 72 = .ok (.areturn, 1) := by decide +kernel
theorem dX8_readOperand_73 : decode cX8_readOperand 73 = .ok (.aload_n 0, 1) := by decide +kernel
theorem dX8_readOperand_74 : decode cX8_readOperand 74 = .ok (.getfield 12, 3) := by decide +kernel
theorem dX8_readOperand_77 : decode cX8_readOperand 77 = .ok (.invokevirtual 64, 3) := by decide +kernel
theorem dX8_readOperand_80 : decode cX8_readOperand 80 = .ok (.istore_n 3, 1) := by decide +kernel
theorem dX8_readOperand_81 : decode cX8_readOperand 81 = .ok (.iload_n 3, 1) := by decide +kernel
theorem dX8_readOperand_82 : decode cX8_readOperand 82 = .ok (.sipush (-1000), 3) := by decide +kernel
theorem dX8_readOperand_85 : decode cX8_readOperand 85 = .ok (.if_icmp .ne 7, 3) := by decide +kernel
theorem dX8_readOperand_88 : decode cX8_readOperand 88 = .ok (.aconst_null, 1) := by decide +kernel
theorem dX8_readOperand_89 : decode cX8_readOperand 89 = .ok (.goto 12, 3) := by decide +kernel
theorem dX8_readOperand_92 : decode cX8_readOperand 92 = .ok (.new 126, 3) := by decide +kernel
theorem dX8_readOperand_95 : decode cX8_readOperand 95 = .ok (.dup, 1) := by decide +kernel
theorem dX8_readOperand_96 : decode cX8_readOperand 96 = .ok (.iconst (-1), 1) := by decide +kernel
theorem dX8_readOperand_97 : decode cX8_readOperand 97 = .ok (.iload_n 3, 1) := by decide +kernel
theorem dX8_readOperand_98 : decode cX8_readOperand 98 = .ok (.invokespecial 128, 3) := by decide +kernel
theorem dX8_readOperand_101 : decode cX8_readOperand 101 = .ok (.areturn, 1) := by decide +kernel
theorem dX9_init_0 : decode cX9_init 0 = .ok (.aload_n 0, 1) := by decide +kernel
theorem dX9_init_1 : decode cX9_init 1 = .ok (.invokespecial 3, 3) := by decide +kernel
theorem dX9_init_4 : decode cX9_init 4 = .ok (.aload_n 0, 1) := by decide +kernel
theorem dX9_init_5 : decode cX9_init 5 = .ok (.bipush 8, 2) := by decide +kernel
theorem dX9_init_7 : decode cX9_init 7 = .ok (.newarray .int, 2) := by decide +kernel
theorem dX9_init_9 : decode cX9_init 9 = .ok (.putfield 9, 3) := by decide +kernel
theorem dX9_init_12 : decode cX9_init 12 = .ok (.return_, 1) := by decide +kernel
theorem dX9_append_0 : decode cX9_append 0 = .ok (.aload_n 0, 1) := by decide +kernel
theorem dX9_append_1 : decode cX9_append 1 = .ok (.getfield 15, 3) := by decide +kernel
theorem dX9_append_4 : decode cX9_append 4 = .ok (.bipush 8, 2) := by decide +kernel
theorem dX9_append_6 : decode cX9_append 6 = .ok (.if_icmp .ge 23, 3) := by decide +kernel
theorem dX9_append_9 : decode cX9_append 9 = .ok (.aload_n 0, 1) := by decide +kernel
theorem dX9_append_10 : decode cX9_append 10 = .ok (.getfield 9, 3) := by decide +kernel
theorem dX9_append_13 : decode cX9_append 13 = .ok (.aload_n 0, 1) := by decide +kernel
theorem dX9_append_14 : decode cX9_append 14 = .ok (.getfield 15, 3) := by decide +kernel
theorem dX9_append_17 : decode cX9_append 17 = .ok (.iload_n 1, 1) := by decide +kernel
theorem dX9_append_18 : decode cX9_append 18 = .ok (.iastore, 1) := by decide +kernel
theorem dX9_append_19 : decode cX9_append 19 = .ok (.aload_n 0, 1) := by decide +kernel
theorem dX9_append_20 : decode cX9_append 20 = .ok (.dup, 1) := by decide +kernel
theorem dX9_append_21 : decode cX9_append 21 = .ok (.getfield 15, 3) := by decide +kernel
theorem dX9_append_24 : decode cX9_append 24 = .ok (.iconst 1, 1) := by decide +kernel
theorem dX9_append_25 : decode cX9_append 25 = .ok (.iadd, 1) := by decide +kernel
theorem dX9_append_26 : decode cX9_append 26 = .ok (.putfield 15, 3) := by decide +kernel
theorem dX9_append_29 : decode cX9_append 29 = .ok (.return_, 1) := by decide +kernel
theorem dX9_callAt_0 : decode cX9_callAt 0 = .ok (.iload_n 1, 1) := by decide +kernel
theorem dX9_callAt_1 : decode cX9_callAt 1 = .ok (.ifCond .lt 20, 3) := by decide +kernel
theorem dX9_callAt_4 : decode cX9_callAt 4 = .ok (.iload_n 1, 1) := by decide +kernel
theorem dX9_callAt_5 : decode cX9_callAt 5 = .ok (.aload_n 0, 1) := by decide +kernel
theorem dX9_callAt_6 : decode cX9_callAt 6 = .ok (.getfield 15, 3) := by decide +kernel
theorem dX9_callAt_9 : decode cX9_callAt 9 = .ok (.if_icmp .ge 12, 3) := by decide +kernel
theorem dX9_callAt_12 : decode cX9_callAt 12 = .ok (.aload_n 0, 1) := by decide +kernel
theorem dX9_callAt_13 : decode cX9_callAt 13 = .ok (.getfield 9, 3) := by decide +kernel
theorem dX9_callAt_16 : decode cX9_callAt 16 = .ok (.iload_n 1, 1) := by decide +kernel
theorem dX9_callAt_17 : decode cX9_callAt 17 = .ok (.iaload, 1) := by decide +kernel
theorem dX9_callAt_18 : decode cX9_callAt 18 = .ok (.goto 6, 3) := by decide +kernel
theorem dX9_callAt_21 : decode cX9_callAt 21 = .ok (.sipush (-1000), 3) := by decide +kernel
theorem dX9_callAt_24 : decode cX9_callAt 24 = .ok (.ireturn, 1) := by decide +kernel
set_option maxRecDepth 20000 in
theorem ggX9_copyFrom_X9_copyWithout : GoodIn wsX9_copyFrom wsX9_copyWithout := goodIn_r _ [5, 6, 7, 8, 9, 4, 10, 11, 12, 13, 14, 15, 16, 17] (by decide +kernel) (by decide +kernel)
set_option maxRecDepth 20000 in
theorem gX9_copyFrom_X9_copyWithout : GoodIn wsX9_copyFrom (wsV RX9 19 RX9 yX9_copyWithout wsX9_copyWithout) := goodIn_app (goodIn_of _ (by decide +kernel)) ggX9_copyFrom_X9_copyWithout
theorem dX9_copyFrom_0 : decode cX9_copyFrom 0 = .ok (.aload_n 0, 1) := by decide +kernel
theorem dX9_copyFrom_1 : decode cX9_copyFrom 1 = .ok (.aload_n 1, 1) := by decide +kernel
theorem dX9_copyFrom_2 : decode cX9_copyFrom 2 = .ok (.sipush (-1000), 3) := by decide +kernel
theorem dX9_copyFrom_5 : decode cX9_copyFrom 5 = .ok (.invokevirtual 19, 3) := by decide +kernel
theorem dX9_copyFrom_8 : decode cX9_copyFrom 8 = .ok (.return_, 1) := by decide +kernel
set_option maxRecDepth 20000 in
theorem ggX9_copyWithout_X9_callAt : GoodIn wsX9_copyWithout wsX9_callAt := goodIn_r _ [6, 1, 7, 12, 13] (by decide +kernel) (by decide +kernel)
set_option maxRecDepth 20000 in
theorem gX9_copyWithout_X9_callAt : GoodIn wsX9_copyWithout (wsV RX9 23 RX9 yX9_callAt wsX9_callAt) := goodIn_app (goodIn_of _ (by decide +kernel)) ggX9_copyWithout_X9_callAt
set_option maxRecDepth 20000 in
theorem ggX9_copyWithout_X9_append : GoodIn wsX9_copyWithout wsX9_append := goodIn_r _ [11, 1, 7, 12, 13] (by decide +kernel) (by decide +kernel)
set_option maxRecDepth 20000 in
theorem gX9_copyWithout_X9_append : GoodIn wsX9_copyWithout (wsV RX9 27 RX9 yX9_append wsX9_append) := goodIn_app (goodIn_of _ (by decide +kernel)) ggX9_copyWithout_X9_append
theorem dX9_copyWithout_0 : decode cX9_copyWithout 0 = .ok (.aload_n 0, 1) := by decide +kernel
theorem dX9_copyWithout_1 : decode cX9_copyWithout 1 = .ok (.iconst 0, 1) := by decide +kernel
theorem dX9_copyWithout_2 : decode cX9_copyWithout 2 = .ok (.putfield 15, 3) := by decide +kernel
theorem dX9_copyWithout_5 : decode cX9_copyWithout 5 = .ok (.iconst 0, 1) := by decide +kernel
theorem dX9_copyWithout_6 : decode cX9_copyWithout 6 = .ok (.istore_n 3, 1) := by decide +kernel
theorem dX9_copyWithout_7 : decode cX9_copyWithout 7 = .ok (.iload_n 3, 1) := by decide +kernel
theorem dX9_copyWithout_8 : decode cX9_copyWithout 8 = .ok (.aload_n 1, 1) := by decide +kernel
theorem dX9_copyWithout_9 : decode cX9_copyWithout 9 = .ok (.getfield 15, 3) := by decide +kernel
theorem dX9_copyWithout_12 : decode cX9_copyWithout 12 = .ok (.if_icmp .ge 23, 3) := by decide +kernel
theorem dX9_copyWithout_15 : decode cX9_copyWithout 15 = .ok (.iload_n 3, 1) := by decide +kernel
theorem dX9_copyWithout_16 : decode cX9_copyWithout 16 = .ok (.iload_n 2, 1) := by decide +kernel
theorem dX9_copyWithout_17 : decode cX9_copyWithout 17 = .ok (.if_icmp .eq 12, 3) := by decide +kernel
theorem dX9_copyWithout_20 : decode cX9_copyWithout 20 = .ok (.aload_n 0, 1) := by decide +kernel
theorem dX9_copyWithout_21 : decode cX9_copyWithout 21 = .ok (.aload_n 1, 1) := by decide +kernel
theorem dX9_copyWithout_22 : decode cX9_copyWithout 22 = .ok (.iload_n 3, 1) := by decide +kernel
theorem dX9_copyWithout_23 : decode cX9_copyWithout 23 = .ok (.invokevirtual 23, 3) := by decide +kernel
theorem dX9_copyWithout_26 : decode cX9_copyWithout 26 = .ok (.invokevirtual 27, 3) := by decide +kernel
theorem dX9_copyWithout_29 : decode cX9_copyWithout 29 = .ok (.iinc 3 1, 3) := by decide +kernel
theorem dX9_copyWithout_32 : decode cX9_copyWithout 32 = .ok (.goto (-25), 3) := by decide +kernel
theorem dX9_copyWithout_35 : decode cX9_copyWithout 35 = .ok (.return_, 1) := by decide +kernel
theorem dX10_init_0 : decode cX10_init 0 = .ok (.aload_n 0, 1) := by decide +kernel
theorem dX10_init_1 : decode cX10_init 1 = .ok (.invokespecial 1, 3) := by decide +kernel
theorem dX10_init_4 : decode cX10_init 4 = .ok (.return_, 1) := by decide +kernel
theorem dX10_valueOf_0 : decode cX10_valueOf 0 = .ok (.iload_n 1, 1) := by decide +kernel
theorem dX10_valueOf_1 : decode cX10_valueOf 1 = .ok (.lookupswitch 37 #[(0, 27), (1, 32)], 27) := by decide +kernel
theorem dX10_valueOf_28 : decode cX10_valueOf 28 = .ok (.aload_n 0, 1) := by decide +kernel
theorem dX10_valueOf_29 : decode cX10_valueOf 29 = .ok (.getfield 7, 3) := by decide +kernel
theorem dX10_valueOf_32 : decode cX10_valueOf 32 = .ok (.ireturn, 1) := by decide +kernel
theorem dX10_valueOf_33 : decode cX10_valueOf 33 = .ok (.aload_n 0, 1) := by decide +kernel
theorem dX10_valueOf_34 : decode cX10_valueOf 34 = .ok (.getfield 13, 3) := by decide +kernel
theorem dX10_valueOf_37 : decode cX10_valueOf 37 = .ok (.ireturn, 1) := by decide +kernel
theorem dX10_valueOf_38 : decode cX10_valueOf 38 = .ok (.aload_n 0, 1) := by decide +kernel
theorem dX10_valueOf_39 : decode cX10_valueOf 39 = .ok (.getfield 16, 3) := by decide +kernel
theorem dX10_valueOf_42 : decode cX10_valueOf 42 = .ok (.ireturn, 1) := by decide +kernel
theorem dX10_assign_0 : decode cX10_assign 0 = .ok (.iload_n 1, 1) := by decide +kernel
theorem dX10_assign_1 : decode cX10_assign 1 = .ok (.lookupswitch 43 #[(0, 27), (1, 35)], 27) := by decide +kernel
theorem dX10_assign_28 : decode cX10_assign 28 = .ok (.aload_n 0, 1) := by decide +kernel
theorem dX10_assign_29 : decode cX10_assign 29 = .ok (.iload_n 2, 1) := by decide +kernel
theorem dX10_assign_30 : decode cX10_assign 30 = .ok (.putfield 7, 3) := by decide +kernel
theorem dX10_assign_33 : decode cX10_assign 33 = .ok (.goto 16, 3) := by decide +kernel
theorem dX10_assign_36 : decode cX10_assign 36 = .ok (.aload_n 0, 1) := by decide +kernel
theorem dX10_assign_37 : decode cX10_assign 37 = .ok (.iload_n 2, 1) := by decide +kernel
theorem dX10_assign_38 : decode cX10_assign 38 = .ok (.putfield 13, 3) := by decide +kernel
theorem dX10_assign_41 : decode cX10_assign 41 = .ok (.goto 8, 3) := by decide +kernel
theorem dX10_assign_44 : decode cX10_assign 44 = .ok (.aload_n 0, 1) := by decide +kernel
theorem dX10_assign_45 : decode cX10_assign 45 = .ok (.iload_n 2, 1) := by decide +kernel
theorem dX10_assign_46 : decode cX10_assign 46 = .ok (.putfield 16, 3) := by decide +kernel
theorem dX10_assign_49 : decode cX10_assign 49 = .ok (.return_, 1) := by decide +kernel
theorem dX10_copyFrom_0 : decode cX10_copyFrom 0 = .ok (.aload_n 0, 1) := by decide +kernel
theorem dX10_copyFrom_1 : decode cX10_copyFrom 1 = .ok (.aload_n 1, 1) := by decide +kernel
theorem dX10_copyFrom_2 : decode cX10_copyFrom 2 = .ok (.getfield 7, 3) := by decide +kernel
theorem dX10_copyFrom_5 : decode cX10_copyFrom 5 = .ok (.putfield 7, 3) := by decide +kernel
theorem dX10_copyFrom_8 : decode cX10_copyFrom 8 = .ok (.aload_n 0, 1) := by decide +kernel
theorem dX10_copyFrom_9 : decode cX10_copyFrom 9 = .ok (.aload_n 1, 1) := by decide +kernel
theorem dX10_copyFrom_10 : decode cX10_copyFrom 10 = .ok (.getfield 13, 3) := by decide +kernel
theorem dX10_copyFrom_13 : decode cX10_copyFrom 13 = .ok (.putfield 13, 3) := by decide +kernel
theorem dX10_copyFrom_16 : decode cX10_copyFrom 16 = .ok (.aload_n 0, 1) := by decide +kernel
theorem dX10_copyFrom_17 : decode cX10_copyFrom 17 = .ok (.aload_n 1, 1) := by decide +kernel
theorem dX10_copyFrom_18 : decode cX10_copyFrom 18 = .ok (.getfield 16, 3) := by decide +kernel
theorem dX10_copyFrom_21 : decode cX10_copyFrom 21 = .ok (.putfield 16, 3) := by decide +kernel
theorem dX10_copyFrom_24 : decode cX10_copyFrom 24 = .ok (.return_, 1) := by decide +kernel
theorem dX10_hasValues_0 : decode cX10_hasValues 0 = .ok (.aload_n 0, 1) := by decide +kernel
theorem dX10_hasValues_1 : decode cX10_hasValues 1 = .ok (.getfield 7, 3) := by decide +kernel
theorem dX10_hasValues_4 : decode cX10_hasValues 4 = .ok (.iload_n 1, 1) := by decide +kernel
theorem dX10_hasValues_5 : decode cX10_hasValues 5 = .ok (.if_icmp .ne 23, 3) := by decide +kernel
theorem dX10_hasValues_8 : decode cX10_hasValues 8 = .ok (.aload_n 0, 1) := by decide +kernel
theorem dX10_hasValues_9 : decode cX10_hasValues 9 = .ok (.getfield 13, 3) := by decide +kernel
theorem dX10_hasValues_12 : decode cX10_hasValues 12 = .ok (.iload_n 2, 1) := by decide +kernel
theorem dX10_hasValues_13 : decode cX10_hasValues 13 = .ok (.if_icmp .ne 15, 3) := by decide +kernel
theorem dX10_hasValues_16 : decode cX10_hasValues 16 = .ok (.aload_n 0, 1) := by decide +kernel
theorem dX10_hasValues_17 : decode cX10_hasValues 17 = .ok (.getfield 16, 3) := by decide +kernel
theorem dX10_hasValues_20 : decode cX10_hasValues 20 = .ok (.iload_n 3, 1) := by decide +kernel
theorem dX10_hasValues_21 : decode cX10_hasValues 21 = .ok (.if_icmp .ne 7, 3) := by decide +kernel
theorem dX10_hasValues_24 : decode cX10_hasValues 24 = .ok (.iconst 1, 1) := by decide +kernel
theorem dX10_hasValues_25 : decode cX10_hasValues 25 = .ok (.goto 4, 3) := by decide +kernel
theorem dX10_hasValues_28 : decode cX10_hasValues 28 = .ok (.iconst 0, 1) := by decide +kernel
theorem dX10_hasValues_29 : decode cX10_hasValues 29 = .ok (.ireturn, 1) := by decide +kernel
set_option maxRecDepth 20000 in
theorem ggX11_init_J4_init_da8c8 : GoodIn wsX11_init wsJ4_init_da8c8 := goodIn_r _ [32, 33, 34, 35, 36, 37, 2, 3, 38, 39, 40, 41, 42, 43, 44, 45, 46, 47, 48, 49, 121, 122, 123, 124] (by decide +kernel) (by decide +kernel)
set_option maxRecDepth 20000 in
theorem gX11_init_J4_init_da8c8 : GoodIn wsX11_init (wsJ4_init_da8c8) := ggX11_init_J4_init_da8c8
set_option maxRecDepth 20000 in
theorem ggX11_init_X8_init : GoodIn wsX11_init wsX8_init := goodIn_r _ [51, 52, 2, 3, 53, 54, 55, 56, 57, 58, 59, 60, 61, 62, 63, 155, 156, 157, 158, 159, 160, 133] (by decide +kernel) (by decide +kernel)
set_option maxRecDepth 20000 in
theorem gX11_init_X8_init_n18 : GoodIn wsX11_init (wsX8_init) := ggX11_init_X8_init
set_option maxRecDepth 20000 in
theorem ggX11_init_X3_init : GoodIn wsX11_init wsX3_init := goodIn_r _ [66, 67, 2, 3, 68, 69, 70, 71, 72, 73, 74, 75, 76, 60, 77, 78, 79, 21, 22, 80, 26, 27, 81, 82, 83, 84, 85, 86, 87, 88, 89, 90, 91, 92, 93, 94, 95, 96, 97, 98, 99, 100, 101, 102, 103, 104, 105, 106, 107, 108, 109, 110, 111, 112, 113, 161, 162, 163, 134, 135, 136, 137, 138, 139, 140, 141, 142, 143, 144, 145, 146, 150, 151, 152, 153, 154, 164, 165, 166] (by decide +kernel) (by decide +kernel)
set_option maxRecDepth 20000 in
theorem gX11_init_X3_init : GoodIn wsX11_init (wsX3_init) := ggX11_init_X3_init
set_option maxRecDepth 20000 in
theorem ggX11_init_X4_init : GoodIn wsX11_init wsX4_init := goodIn_r _ [116, 117, 2, 3, 118, 119, 13, 14, 120, 65, 66, 67, 68, 69, 70, 71, 72, 73, 74, 75, 76, 60, 77, 78, 79, 21, 22, 80, 26, 27, 81, 82, 83, 84, 85, 86, 87, 88, 89, 90, 91, 92, 93, 94, 95, 96, 97, 98, 99, 100, 101, 102, 103, 104, 105, 106, 107, 108, 109, 110, 111, 112, 113, 147, 148, 149, 134, 135, 136, 137, 138, 139, 140, 141, 142, 143, 144, 145, 146, 161, 162, 163, 150, 151, 152, 153, 154, 164, 165, 166] (by decide +kernel) (by decide +kernel)
set_option maxRecDepth 20000 in
theorem gX11_init_X4_init : GoodIn wsX11_init (wsX4_init) := ggX11_init_X4_init
set_option maxRecDepth 20000 in
theorem ggX11_init_X10_init : GoodIn wsX11_init wsX10_init := goodIn_r _ [93, 94, 2, 3] (by decide +kernel) (by decide +kernel)
set_option maxRecDepth 20000 in
theorem gX11_init_X10_init_n39 : GoodIn wsX11_init (wsX10_init) := ggX11_init_X10_init
set_option maxRecDepth 20000 in
theorem ggX11_init_X9_init : GoodIn wsX11_init wsX9_init := goodIn_r _ [111, 112, 2, 3, 60, 113, 153, 154] (by decide +kernel) (by decide +kernel)
set_option maxRecDepth 20000 in
theorem gX11_init_X9_init_n49 : GoodIn wsX11_init (wsX9_init) := ggX11_init_X9_init
theorem dX11_init_0 : decode cX11_init 0 = .ok (.aload_n 0, 1) := by decide +kernel
theorem dX11_init_1 : decode cX11_init 1 = .ok (.invokespecial 1, 3) := by decide +kernel
theorem dX11_init_4 : decode cX11_init 4 = .ok (.aload_n 0, 1) := by decide +kernel
theorem dX11_init_5 : decode cX11_init 5 = .ok (.new 7, 3) := by decide +kernel
theorem dX11_init_8 : decode cX11_init 8 = .ok (.dup, 1) := by decide +kernel
theorem dX11_init_9 : decode cX11_init 9 = .ok (.invokespecial 9, 3) := by decide +kernel
theorem dX11_init_12 : decode cX11_init 12 = .ok (.putfield 10, 3) := by decide +kernel
theorem dX11_init_15 : decode cX11_init 15 = .ok (.aload_n 0, 1) := by decide +kernel
theorem dX11_init_16 : decode cX11_init 16 = .ok (.new 16, 3) := by decide +kernel
theorem dX11_init_19 : decode cX11_init 19 = .ok (.dup, 1) := by decide +kernel
theorem dX11_init_20 : decode cX11_init 20 = .ok (.invokespecial 18, 3) := by decide +kernel
theorem dX11_init_23 : decode cX11_init 23 = .ok (.putfield 19, 3) := by decide +kernel
theorem dX11_init_26 : decode cX11_init 26 = .ok (.aload_n 0, 1) := by decide +kernel
theorem dX11_init_27 : decode cX11_init 27 = .ok (.new 23, 3) := by decide +kernel
theorem dX11_init_30 : decode cX11_init 30 = .ok (.dup, 1) := by decide +kernel
theorem dX11_init_31 : decode cX11_init 31 = .ok (.invokespecial 25, 3) := by decide +kernel
theorem dX11_init_34 : decode cX11_init 34 = .ok (.putfield 26, 3) := by decide +kernel
theorem dX11_init_37 : decode cX11_init 37 = .ok (.aload_n 0, 1) := by decide +kernel
theorem dX11_init_38 : decode cX11_init 38 = .ok (.new 30, 3) := by decide +kernel
theorem dX11_init_41 : decode cX11_init 41 = .ok (.dup, 1) := by decide +kernel
theorem dX11_init_42 : decode cX11_init 42 = .ok (.invokespecial 32, 3) := by decide +kernel
theorem dX11_init_45 : decode cX11_init 45 = .ok (.putfield 33, 3) := by decide +kernel
theorem dX11_init_48 : decode cX11_init 48 = .ok (.aload_n 0, 1) := by decide +kernel
theorem dX11_init_49 : decode cX11_init 49 = .ok (.new 37, 3) := by decide +kernel
theorem dX11_init_52 : decode cX11_init 52 = .ok (.dup, 1) := by decide +kernel
theorem dX11_init_53 : decode cX11_init 53 = .ok (.invokespecial 39, 3) := by decide +kernel
theorem dX11_init_56 : decode cX11_init 56 = .ok (.putfield 40, 3) := by decide +kernel
theorem dX11_init_59 : decode cX11_init 59 = .ok (.aload_n 0, 1) := by decide +kernel
theorem dX11_init_60 : decode cX11_init 60 = .ok (.new 37, 3) := by decide +kernel
theorem dX11_init_63 : decode cX11_init 63 = .ok (.dup, 1) := by decide +kernel
theorem dX11_init_64 : decode cX11_init 64 = .ok (.invokespecial 39, 3) := by decide +kernel
theorem dX11_init_67 : decode cX11_init 67 = .ok (.putfield 44, 3) := by decide +kernel
theorem dX11_init_70 : decode cX11_init 70 = .ok (.aload_n 0, 1) := by decide +kernel
theorem dX11_init_71 : decode cX11_init 71 = .ok (.new 47, 3) := by decide +kernel
theorem dX11_init_74 : decode cX11_init 74 = .ok (.dup, 1) := by decide +kernel
theorem dX11_init_75 : decode cX11_init 75 = .ok (.invokespecial 49, 3) := by decide +kernel
theorem dX11_init_78 : decode cX11_init 78 = .ok (.putfield 50, 3) := by decide +kernel
theorem dX11_init_81 : decode cX11_init 81 = .ok (.aload_n 0, 1) := by decide +kernel
theorem dX11_init_82 : decode cX11_init 82 = .ok (.new 47, 3) := by decide +kernel
theorem dX11_init_85 : decode cX11_init 85 = .ok (.dup, 1) := by decide +kernel
theorem dX11_init_86 : decode cX11_init 86 = .ok (.invokespecial 49, 3) := by decide +kernel
theorem dX11_init_89 : decode cX11_init 89 = .ok (.putfield 54, 3) := by decide +kernel
theorem dX11_init_92 : decode cX11_init 92 = .ok (.return_, 1) := by decide +kernel
set_option maxRecDepth 20000 in
theorem ggX11_appendCharacter_J4_length_8abf5 : GoodIn wsX11_appendCharacter wsJ4_length_8abf5 := goodIn_r _ [6, 7, 8, 9, 10, 11, 12, 13, 135, 136, 137, 138] (by decide +kernel) (by decide +kernel)
set_option maxRecDepth 20000 in
theorem gX11_appendCharacter_J4_length_8abf5 : GoodIn wsX11_appendCharacter (wsV RX11 57 RJ4 yJ4_length_8abf5 wsJ4_length_8abf5) := goodIn_app (goodIn_of _ (by decide +kernel)) ggX11_appendCharacter_J4_length_8abf5
set_option maxRecDepth 20000 in
theorem ggX11_appendCharacter_J4_append_cf468 : GoodIn wsX11_appendCharacter wsJ4_append_cf468 := goodIn_r _ [17, 18, 19, 9, 20, 11, 21, 13, 22, 23, 24, 25, 26, 27, 28, 29, 30, 31, 32, 33, 34, 35, 36, 37, 38, 39, 40, 41, 42, 43, 44, 45, 46, 47, 48, 49, 50, 51, 52, 53, 54, 55, 56, 57, 58, 59, 60, 61, 62, 63, 64, 65, 66, 67, 68, 69, 70, 71, 72, 73, 74, 75, 76, 77, 78, 79, 80, 81, 82, 83, 84, 85, 86, 87, 88, 89, 90, 91, 92, 93, 94, 95, 96, 97, 98, 99, 100, 101, 102, 103, 104, 105, 106, 107, 108, 109, 110, 111, 112, 113, 114, 115, 116, 117, 118, 119, 120, 121, 122, 123, 124, 125, 126, 135, 136, 137, 138] (by decide +kernel) (by decide +kernel)
set_option maxRecDepth 20000 in
theorem gX11_appendCharacter_J4_append_cf468 : GoodIn wsX11_appendCharacter (wsV RX11 61 RJ4 yJ4_append_cf468 wsJ4_append_cf468) := goodIn_app (goodIn_of _ (by decide +kernel)) ggX11_appendCharacter_J4_append_cf468
theorem dX11_appendCharacter_0 : decode cX11_appendCharacter 0 = .ok (.iload_n 1, 1) := by decide +kernel
theorem dX11_appendCharacter_1 : decode cX11_appendCharacter 1 = .ok (.ifCond .lt 10, 3) := by decide +kernel
theorem dX11_appendCharacter_4 : decode cX11_appendCharacter 4 = .ok (.iload_n 1, 1) := by decide +kernel
theorem dX11_appendCharacter_5 : decode cX11_appendCharacter 5 = .ok (.sipush 255, 3) := by decide +kernel
theorem dX11_appendCharacter_8 : decode cX11_appendCharacter 8 = .ok (.if_icmp .le 5, 3) := by decide +kernel
theorem dX11_appendCharacter_11 : decode cX11_appendCharacter 11 = .ok (.iconst (-1), 1) := by decide +kernel
theorem dX11_appendCharacter_12 : decode cX11_appendCharacter 12 = .ok (.ireturn, 1) := by decide +kernel
theorem dX11_appendCharacter_13 : decode cX11_appendCharacter 13 = .ok (.aload_n 0, 1) := by decide +kernel
theorem dX11_appendCharacter_14 : decode cX11_appendCharacter 14 = .ok (.getfield 10, 3) := by decide +kernel
theorem dX11_appendCharacter_17 : decode cX11_appendCharacter 17 = .ok (.invokevirtual 57, 3) := by decide +kernel
theorem dX11_appendCharacter_20 : decode cX11_appendCharacter 20 = .ok (.sipush 200, 3) := by decide +kernel
theorem dX11_appendCharacter_23 : decode cX11_appendCharacter 23 = .ok (.if_icmp .lt 6, 3) := by decide +kernel
theorem dX11_appendCharacter_26 : decode cX11_appendCharacter 26 = .ok (.bipush (-3), 2) := by decide +kernel
theorem dX11_appendCharacter_28 : decode cX11_appendCharacter 28 = .ok (.ireturn, 1) := by decide +kernel
theorem dX11_appendCharacter_29 : decode cX11_appendCharacter 29 = .ok (.aload_n 0, 1) := by decide +kernel
theorem dX11_appendCharacter_30 : decode cX11_appendCharacter 30 = .ok (.getfield 10, 3) := by decide +kernel
theorem dX11_appendCharacter_33 : decode cX11_appendCharacter 33 = .ok (.iload_n 1, 1) := by decide +kernel
theorem dX11_appendCharacter_34 : decode cX11_appendCharacter 34 = .ok (.i2c, 1) := by decide +kernel
theorem dX11_appendCharacter_35 : decode cX11_appendCharacter 35 = .ok (.invokevirtual 61, 3) := by decide +kernel
theorem dX11_appendCharacter_38 : decode cX11_appendCharacter 38 = .ok (.pop, 1) := by decide +kernel
theorem dX11_appendCharacter_39 : decode cX11_appendCharacter 39 = .ok (.aload_n 0, 1) := by decide +kernel
theorem dX11_appendCharacter_40 : decode cX11_appendCharacter 40 = .ok (.getfield 10, 3) := by decide +kernel
theorem dX11_appendCharacter_43 : decode cX11_appendCharacter 43 = .ok (.invokevirtual 57, 3) := by decide +kernel
theorem dX11_appendCharacter_46 : decode cX11_appendCharacter 46 = .ok (.ireturn, 1) := by decide +kernel
set_option maxRecDepth 20000 in
theorem ggX11_clearText_J4_length_8abf5 : GoodIn wsX11_clearText wsJ4_length_8abf5 := goodIn_r _ [6, 7, 8, 9, 10, 11, 12, 13, 95, 96, 97, 98] (by decide +kernel) (by decide +kernel)
set_option maxRecDepth 20000 in
theorem gX11_clearText_J4_length_8abf5 : GoodIn wsX11_clearText (wsV RX11 57 RJ4 yJ4_length_8abf5 wsJ4_length_8abf5) := goodIn_app (goodIn_of _ (by decide +kernel)) ggX11_clearText_J4_length_8abf5
set_option maxRecDepth 20000 in
theorem ggX11_clearText_J4_setLength_d00df : GoodIn wsX11_clearText wsJ4_setLength_d00df := goodIn_r _ [17, 18, 19, 9, 20, 11, 21, 13, 22, 23, 24, 25, 26, 27, 28, 29, 30, 31, 32, 33, 34, 35, 36, 37, 38, 39, 40, 41, 42, 43, 44, 45, 46, 47, 48, 49, 50, 51, 52, 53, 54, 55, 56, 57, 58, 59, 60, 61, 62, 63, 64, 65, 66, 67, 68, 69, 70, 71, 72, 73, 74, 75, 76, 77, 78, 79, 80, 81, 82, 83, 84, 85, 86, 95, 96, 97, 98] (by decide +kernel) (by decide +kernel)
set_option maxRecDepth 20000 in
theorem gX11_clearText_J4_setLength_d00df : GoodIn wsX11_clearText (wsV RX11 65 RJ4 yJ4_setLength_d00df wsJ4_setLength_d00df) := goodIn_app (goodIn_of _ (by decide +kernel)) ggX11_clearText_J4_setLength_d00df
theorem dX11_clearText_0 : decode cX11_clearText 0 = .ok (.aload_n 0, 1) := by decide +kernel
theorem dX11_clearText_1 : decode cX11_clearText 1 = .ok (.getfield 10, 3) := by decide +kernel
theorem dX11_clearText_4 : decode cX11_clearText 4 = .ok (.invokevirtual 57, 3) := by decide +kernel
theorem dX11_clearText_7 : decode cX11_clearText 7 = .ok (.istore_n 1, 1) := by decide +kernel
theorem dX11_clearText_8 : decode cX11_clearText 8 = .ok (.aload_n 0, 1) := by decide +kernel
theorem dX11_clearText_9 : decode cX11_clearText 9 = .ok (.getfield 10, 3) := by decide +kernel
theorem dX11_clearText_12 : decode cX11_clearText 12 = .ok (.iconst 0, 1) := by decide +kernel
theorem dX11_clearText_13 : decode cX11_clearText 13 = .ok (.invokevirtual 65, 3) := by decide +kernel
theorem dX11_clearText_16 : decode cX11_clearText 16 = .ok (.iload_n 1, 1) := by decide +kernel
theorem dX11_clearText_17 : decode cX11_clearText 17 = .ok (.ireturn, 1) := by decide +kernel
set_option maxRecDepth 20000 in
theorem ggX11_loadComponent_X8_parse : GoodIn wsX11_loadComponent wsX8_parse := goodIn_r _ [7, 8, 9, 10, 11, 12, 13, 14, 15, 16, 17, 18, 19, 20, 21, 22, 23, 24, 25, 26, 27, 28, 29, 30, 31, 32, 33, 34, 35, 36, 37, 38, 39, 40, 41, 42, 43, 44, 45, 46, 47, 48, 49, 50, 51, 52, 53, 54, 55, 56, 57, 58, 59, 60, 61, 62, 63, 64, 65, 66, 67, 68, 69, 70, 71, 72, 73, 74, 75, 76, 77, 78, 79, 80, 81, 82, 83, 84, 85, 86, 87, 88, 89, 90, 91, 92, 93, 94, 95, 96, 97, 98, 99, 100, 101, 102, 103, 104, 105, 106, 107, 108, 109, 110, 111, 112, 113, 114, 115, 116, 117, 118, 119, 120, 121, 122, 123, 124, 125, 126, 127, 128, 129, 130, 131, 132, 133, 134, 135, 136, 137, 138, 139, 140, 141, 142, 143, 144, 145, 146, 147, 148, 149, 150, 151, 152, 153, 154, 155, 156, 157, 158, 159, 160, 161, 162, 163, 6, 164, 165, 166, 167, 168, 169, 170, 171, 172, 173, 174, 175, 176, 177, 178, 179, 180, 181, 182, 183, 184, 185, 186, 187, 188, 189, 190, 191, 192, 193, 194, 195, 196, 197, 198, 199, 200, 201, 202, 203, 204, 205, 206, 207, 208, 209, 210, 211, 212, 213, 214, 215, 216, 217, 218, 219, 220, 221, 222, 223, 224, 225, 226, 227, 228, 229, 230, 231, 232, 233, 234, 235, 236, 237, 238, 239, 240, 241, 242, 243, 244, 245, 246, 247, 248, 249, 250, 251, 252, 253, 254, 255, 256, 257, 258, 259, 260, 261, 262, 263, 264, 265, 266, 267, 268, 269, 270, 271, 272, 273, 274, 275, 276, 277, 278, 279, 280, 281, 282, 283, 284, 285, 286, 287, 288, 289, 290, 291, 292, 293, 294, 295, 296, 297, 298, 299, 300, 301, 302, 303, 304, 305, 306, 307, 308, 309, 310, 311, 441, 438, 439, 440, 442, 443, 444, 445, 446, 447, 448, 449, 450, 451, 452, 453, 454, 455, 456, 457, 458, 459, 460, 461, 462, 463, 464, 465, 466, 467, 468, 469] (by decide +kernel) (by decide +kernel)
set_option maxRecDepth 20000 in
theorem gX11_loadComponent_X8_parse : GoodIn wsX11_loadComponent (wsV RX11 69 RX8 yX8_parse wsX8_parse) := goodIn_app (goodIn_of _ (by decide +kernel)) ggX11_loadComponent_X8_parse
set_option maxRecDepth 20000 in
theorem ggX11_loadComponent_X8_errorOffset : GoodIn wsX11_loadComponent wsX8_errorOffset := goodIn_r _ [315, 8, 316, 317, 318, 15, 319, 18, 17, 20, 19, 441, 442, 443, 444, 445, 446, 447] (by decide +kernel) (by decide +kernel)
set_option maxRecDepth 20000 in
theorem gX11_loadComponent_X8_errorOffset : GoodIn wsX11_loadComponent (wsV RX11 73 RX8 yX8_errorOffset wsX8_errorOffset) := goodIn_app (goodIn_of _ (by decide +kernel)) ggX11_loadComponent_X8_errorOffset
set_option maxRecDepth 20000 in
theorem ggX11_loadComponent_J4_setLength_d00df : GoodIn wsX11_loadComponent wsJ4_setLength_d00df := goodIn_r _ [323, 324, 325, 30, 326, 32, 327, 34, 47, 328, 329, 330, 331, 332, 333, 46, 334, 335, 336, 337, 338, 339, 340, 240, 241, 242, 243, 236, 50, 237, 244, 245, 246, 247, 341, 342, 250, 343, 344, 345, 346, 347, 348, 349, 350, 261, 49, 51, 262, 263, 264, 265, 351, 352, 353, 354, 355, 356, 357, 358, 107, 359, 360, 361, 362, 363, 364, 365, 366, 367, 63, 368, 369, 448, 449, 450, 451] (by decide +kernel) (by decide +kernel)
set_option maxRecDepth 20000 in
theorem gX11_loadComponent_J4_setLength_d00df : GoodIn wsX11_loadComponent (wsV RX11 65 RJ4 yJ4_setLength_d00df wsJ4_setLength_d00df) := goodIn_app (goodIn_of _ (by decide +kernel)) ggX11_loadComponent_J4_setLength_d00df
set_option maxRecDepth 20000 in
theorem ggX11_loadComponent_X11_replaceComponent : GoodIn wsX11_loadComponent wsX11_replaceComponent := goodIn_r _ [374, 375, 376, 377, 378, 379, 380, 381, 382, 383, 384, 385, 386, 387, 388, 389, 390, 391, 392, 393, 394, 395, 396, 397, 398, 399, 400, 401, 402, 403, 404, 405, 406, 407, 408, 409, 410, 411, 412, 413, 414, 415, 416, 417, 418, 419, 420, 421, 422, 423, 128, 424, 178, 179, 180, 425, 426, 427, 428, 430, 431, 432, 433, 434, 435, 436, 437, 470, 471, 472, 473, 474, 475, 476, 477, 478, 479, 480, 481, 482, 483, 484, 485, 486, 487, 452, 453, 454, 438, 439, 440] (by decide +kernel) (by decide +kernel)
set_option maxRecDepth 20000 in
theorem gX11_loadComponent_X11_replaceComponent : GoodIn wsX11_loadComponent (wsV RX11 76 RX11 yX11_replaceComponent wsX11_replaceComponent) := goodIn_app (goodIn_of _ (by decide +kernel)) ggX11_loadComponent_X11_replaceComponent
set_option maxRecDepth 20000 in
theorem ggX11_loadComponent_Jx4a65c_size_8abf5 : GoodIn wsX11_loadComponent wsJx4a65c_size_8abf5 := goodIn_r _ [184, 185, 455, 456, 457] (by decide +kernel) (by decide +kernel)
set_option maxRecDepth 20000 in
theorem gX11_loadComponent_Jx4a65c_size_8abf5 : GoodIn wsX11_loadComponent (wsV RX11 86 RJx4a65c yJx4a65c_size_8abf5 wsJx4a65c_size_8abf5) := goodIn_app (goodIn_of _ (by decide +kernel)) ggX11_loadComponent_Jx4a65c_size_8abf5
theorem dX11_loadComponent_0 : decode cX11_loadComponent 0 = .ok (.aload_n 0, 1) := by decide +kernel
theorem dX11_loadComponent_1 : decode cX11_loadComponent 1 = .ok (.getfield 19, 3) := by decide +kernel
theorem dX11_loadComponent_4 : decode cX11_loadComponent 4 = .ok (.aload_n 0, 1) := by decide +kernel
theorem dX11_loadComponent_5 : decode cX11_loadComponent 5 = .ok (.getfield 10, 3) := by decide +kernel
theorem dX11_loadComponent_8 : decode cX11_loadComponent 8 = .ok (.invokevirtual 69, 3) := by decide +kernel
theorem dX11_loadComponent_11 : decode cX11_loadComponent 11 = .ok (.astore_n 1, 1) := by decide +kernel
theorem dX11_loadComponent_12 : decode cX11_loadComponent 12 = .ok (.aload_n 1, 1) := by decide +kernel
theorem dX11_loadComponent_13 : decode cX11_loadComponent 13 = .ok (.ifnonnull 14, 3) := by decide +kernel
theorem dX11_loadComponent_16 : decode cX11_loadComponent 16 = .ok (.bipush (-10), 2) := by decide +kernel
theorem dX11_loadComponent_18 : decode cX11_loadComponent 18 = .ok (.aload_n 0, 1) := by decide +kernel
theorem dX11_loadComponent_19 : decode cX11_loadComponent 19 = .ok (.getfield 19, 3) := by decide +kernel
theorem dX11_loadComponent_22 : decode cX11_loadComponent 22 = .ok (.invokevirtual 73, 3) := by decide +kernel
theorem dX11_loadComponent_25 : decode cX11_loadComponent 25 = .ok (.isub, 1) := by decide +kernel
theorem dX11_loadComponent_26 : decode cX11_loadComponent 26 = .ok (.ireturn, 1) := by decide +kernel
theorem dX11_loadComponent_27 : decode cX11_loadComponent 27 = .ok (.aload_n 0, 1) := by decide +kernel
theorem dX11_loadComponent_28 : decode cX11_loadComponent 28 = .ok (.getfield 10, 3) := by decide +kernel
theorem dX11_loadComponent_31 : decode cX11_loadComponent 31 = .ok (.iconst 0, 1) := by decide +kernel
theorem dX11_loadComponent_32 : decode cX11_loadComponent 32 = .ok (.invokevirtual 65, 3) := by decide +kernel
theorem dX11_loadComponent_35 : decode cX11_loadComponent 35 = .ok (.aload_n 0, 1) := by decide +kernel
theorem dX11_loadComponent_36 : decode cX11_loadComponent 36 = .ok (.aload_n 1, 1) := by decide +kernel
theorem dX11_loadComponent_37 : decode cX11_loadComponent 37 = .ok (.invokevirtual 76, 3) := by decide +kernel
theorem dX11_loadComponent_40 : decode cX11_loadComponent 40 = .ok (.aload_n 1, 1) := by decide +kernel
theorem dX11_loadComponent_41 : decode cX11_loadComponent 41 = .ok (.getfield 80, 3) := by decide +kernel
theorem dX11_loadComponent_44 : decode cX11_loadComponent 44 = .ok (.invokevirtual 86, 3) := by decide +kernel
theorem dX11_loadComponent_47 : decode cX11_loadComponent 47 = .ok (.ireturn, 1) := by decide +kernel
set_option maxRecDepth 20000 in
theorem ggX11_setInitialValue_X10_valueOf : GoodIn wsX11_setInitialValue wsX10_valueOf := goodIn_r _ [6, 7, 8, 9, 215, 216, 217] (by decide +kernel) (by decide +kernel)
set_option maxRecDepth 20000 in
theorem gX11_setInitialValue_X10_valueOf : GoodIn wsX11_setInitialValue (wsV RX11 98 RX10 yX10_valueOf wsX10_valueOf) := goodIn_app (goodIn_of _ (by decide +kernel)) ggX11_setInitialValue_X10_valueOf
set_option maxRecDepth 20000 in
theorem ggX11_setInitialValue_X1_withInitialValue : GoodIn wsX11_setInitialValue wsX1_withInitialValue := goodIn_r _ [14, 15, 16, 17, 18, 13, 19, 20, 21, 22, 23, 24, 25, 26, 27, 28, 29, 30, 31, 32, 33, 5, 34, 35, 36, 37, 38, 39, 40, 41, 42, 43, 44, 45, 46, 47, 48, 49, 50, 51, 52, 53, 54, 55, 56, 57, 58, 7, 8, 9, 59, 60, 61, 62, 63, 64, 65, 66, 67, 68, 69, 70, 71, 72, 73, 74, 75, 76, 77, 78, 79, 80, 81, 82, 83, 84, 85, 86, 87, 88, 89, 90, 91, 92, 93, 94, 95, 96, 97, 98, 99, 100, 101, 102, 103, 104, 105, 106, 107, 108, 109, 110, 111, 112, 113, 114, 115, 116, 117, 118, 119, 120, 121, 122, 123, 124, 125, 126, 127, 128, 129, 130, 131, 132, 133, 134, 135, 212, 213, 214, 215, 216, 217, 218, 219, 220] (by decide +kernel) (by decide +kernel)
set_option maxRecDepth 20000 in
theorem gX11_setInitialValue_X1_withInitialValue : GoodIn wsX11_setInitialValue (wsV RX11 102 RX1 yX1_withInitialValue wsX1_withInitialValue) := goodIn_app (goodIn_of _ (by decide +kernel)) ggX11_setInitialValue_X1_withInitialValue
set_option maxRecDepth 20000 in
theorem ggX11_setInitialValue_X11_replaceComponent : GoodIn wsX11_setInitialValue wsX11_replaceComponent := goodIn_r _ [140, 141, 1, 142, 143, 144, 145, 146, 147, 148, 149, 150, 151, 152, 153, 154, 155, 156, 157, 158, 159, 160, 161, 162, 163, 164, 165, 166, 167, 168, 169, 170, 171, 172, 173, 174, 175, 176, 177, 178, 179, 180, 181, 182, 183, 184, 185, 186, 56, 57, 5, 58, 7, 8, 9, 187, 188, 189, 190, 191, 192, 193, 194, 195, 196, 197, 198, 199, 200, 201, 202, 203, 204, 205, 206, 207, 208, 209, 210, 211, 221, 222, 223, 224, 225, 215, 216, 217, 212, 213, 214] (by decide +kernel) (by decide +kernel)
set_option maxRecDepth 20000 in
theorem gX11_setInitialValue_X11_replaceComponent : GoodIn wsX11_setInitialValue (wsV RX11 76 RX11 yX11_replaceComponent wsX11_replaceComponent) := goodIn_app (goodIn_of _ (by decide +kernel)) ggX11_setInitialValue_X11_replaceComponent
theorem dX11_setInitialValue_0 : decode cX11_setInitialValue 0 = .ok (.iload_n 1, 1) := by decide +kernel
theorem dX11_setInitialValue_1 : decode cX11_setInitialValue 1 = .ok (.ifCond .lt 20, 3) := by decide +kernel
theorem dX11_setInitialValue_4 : decode cX11_setInitialValue 4 = .ok (.iload_n 1, 1) := by decide +kernel
theorem dX11_setInitialValue_5 : decode cX11_setInitialValue 5 = .ok (.iconst 3, 1) := by decide +kernel
theorem dX11_setInitialValue_6 : decode cX11_setInitialValue 6 = .ok (.if_icmp .ge 15, 3) := by decide +kernel
theorem dX11_setInitialValue_9 : decode cX11_setInitialValue 9 = .ok (.iload_n 2, 1) := by decide +kernel
theorem dX11_setInitialValue_10 : decode cX11_setInitialValue 10 = .ok (.bipush (-99), 2) := by decide +kernel
theorem dX11_setInitialValue_12 : decode cX11_setInitialValue 12 = .ok (.if_icmp .lt 9, 3) := by decide +kernel
theorem dX11_setInitialValue_15 : decode cX11_setInitialValue 15 = .ok (.iload_n 2, 1) := by decide +kernel
theorem dX11_setInitialValue_16 : decode cX11_setInitialValue 16 = .ok (.bipush 99, 2) := by decide +kernel
theorem dX11_setInitialValue_18 : decode cX11_setInitialValue 18 = .ok (.if_icmp .le 5, 3) := by decide +kernel
theorem dX11_setInitialValue_21 : decode cX11_setInitialValue 21 = .ok (.iconst (-1), 1) := by decide +kernel
theorem dX11_setInitialValue_22 : decode cX11_setInitialValue 22 = .ok (.ireturn, 1) := by decide +kernel
theorem dX11_setInitialValue_23 : decode cX11_setInitialValue 23 = .ok (.aload_n 0, 1) := by decide +kernel
theorem dX11_setInitialValue_24 : decode cX11_setInitialValue 24 = .ok (.getfield 26, 3) := by decide +kernel
theorem dX11_setInitialValue_27 : decode cX11_setInitialValue 27 = .ok (.getfield 91, 3) := by decide +kernel
theorem dX11_setInitialValue_30 : decode cX11_setInitialValue 30 = .ok (.getfield 95, 3) := by decide +kernel
theorem dX11_setInitialValue_33 : decode cX11_setInitialValue 33 = .ok (.iload_n 1, 1) := by decide +kernel
theorem dX11_setInitialValue_34 : decode cX11_setInitialValue 34 = .ok (.invokevirtual 98, 3) := by decide +kernel
theorem dX11_setInitialValue_37 : decode cX11_setInitialValue 37 = .ok (.istore_n 3, 1) := by decide +kernel
theorem dX11_setInitialValue_38 : decode cX11_setInitialValue 38 = .ok (.aload_n 0, 1) := by decide +kernel
theorem dX11_setInitialValue_39 : decode cX11_setInitialValue 39 = .ok (.aload_n 0, 1) := by decide +kernel
theorem dX11_setInitialValue_40 : decode cX11_setInitialValue 40 = .ok (.getfield 26, 3) := by decide +kernel
theorem dX11_setInitialValue_43 : decode cX11_setInitialValue 43 = .ok (.getfield 91, 3) := by decide +kernel
theorem dX11_setInitialValue_46 : decode cX11_setInitialValue 46 = .ok (.iload_n 1, 1) := by decide +kernel
theorem dX11_setInitialValue_47 : decode cX11_setInitialValue 47 = .ok (.iload_n 2, 1) := by decide +kernel
theorem dX11_setInitialValue_48 : decode cX11_setInitialValue 48 = .ok (.invokevirtual 102, 3) := by decide +kernel
theorem dX11_setInitialValue_51 : decode cX11_setInitialValue 51 = .ok (.invokevirtual 76, 3) := by decide +kernel
theorem dX11_setInitialValue_54 : decode cX11_setInitialValue 54 = .ok (.bipush 100, 2) := by decide +kernel
theorem dX11_setInitialValue_56 : decode cX11_setInitialValue 56 = .ok (.iload_n 3, 1) := by decide +kernel
theorem dX11_setInitialValue_57 : decode cX11_setInitialValue 57 = .ok (.iadd, 1) := by decide +kernel
theorem dX11_setInitialValue_58 : decode cX11_setInitialValue 58 = .ok (.ireturn, 1) := by decide +kernel
set_option maxRecDepth 20000 in
theorem ggX11_removeMethod_X1_hasMethod : GoodIn wsX11_removeMethod wsX1_hasMethod := goodIn_r _ [6, 7, 8, 9, 10, 11, 12, 13, 205, 206, 207, 208, 209, 210] (by decide +kernel) (by decide +kernel)
set_option maxRecDepth 20000 in
theorem gX11_removeMethod_X1_hasMethod : GoodIn wsX11_removeMethod (wsV RX11 106 RX1 yX1_hasMethod wsX1_hasMethod) := goodIn_app (goodIn_of _ (by decide +kernel)) ggX11_removeMethod_X1_hasMethod
set_option maxRecDepth 20000 in
theorem ggX11_removeMethod_X1_withoutMethod : GoodIn wsX11_removeMethod wsX1_withoutMethod := goodIn_r _ [17, 18, 19, 5, 20, 21, 22, 7, 23, 24, 25, 26, 27, 28, 29, 30, 31, 32, 33, 34, 11, 35, 36, 37, 38, 39, 40, 41, 42, 43, 44, 45, 46, 47, 48, 49, 50, 51, 52, 53, 54, 55, 56, 57, 58, 59, 8, 9, 10, 12, 13, 60, 61, 62, 63, 64, 65, 66, 67, 68, 69, 70, 71, 72, 73, 74, 75, 76, 77, 78, 79, 80, 81, 82, 83, 84, 85, 86, 87, 88, 89, 90, 91, 92, 93, 94, 95, 96, 97, 98, 99, 100, 101, 102, 103, 104, 105, 106, 107, 108, 109, 110, 111, 112, 113, 114, 115, 116, 117, 118, 119, 120, 121, 122, 123, 124, 125, 126, 127, 205, 206, 207, 211, 212, 213, 208, 209, 210] (by decide +kernel) (by decide +kernel)
set_option maxRecDepth 20000 in
theorem gX11_removeMethod_X1_withoutMethod : GoodIn wsX11_removeMethod (wsV RX11 110 RX1 yX1_withoutMethod wsX1_withoutMethod) := goodIn_app (goodIn_of _ (by decide +kernel)) ggX11_removeMethod_X1_withoutMethod
set_option maxRecDepth 20000 in
theorem ggX11_removeMethod_X11_replaceComponent : GoodIn wsX11_removeMethod wsX11_replaceComponent := goodIn_r _ [132, 133, 1, 134, 135, 136, 137, 138, 139, 140, 141, 142, 143, 144, 145, 146, 147, 148, 149, 150, 151, 152, 153, 154, 155, 156, 157, 158, 159, 160, 161, 162, 163, 164, 165, 166, 167, 168, 169, 170, 171, 172, 173, 174, 175, 176, 177, 178, 54, 55, 32, 56, 57, 58, 59, 179, 180, 181, 182, 184, 185, 186, 187, 188, 189, 190, 191, 192, 193, 194, 195, 196, 197, 198, 199, 200, 201, 202, 203, 204, 214, 215, 216, 217, 218, 211, 212, 213, 205, 206, 207] (by decide +kernel) (by decide +kernel)
set_option maxRecDepth 20000 in
theorem gX11_removeMethod_X11_replaceComponent : GoodIn wsX11_removeMethod (wsV RX11 76 RX11 yX11_replaceComponent wsX11_replaceComponent) := goodIn_app (goodIn_of _ (by decide +kernel)) ggX11_removeMethod_X11_replaceComponent
set_option maxRecDepth 20000 in
theorem ggX11_removeMethod_Jx4a65c_size_8abf5 : GoodIn wsX11_removeMethod wsJx4a65c_size_8abf5 := goodIn_r _ [12, 13, 208, 209, 210] (by decide +kernel) (by decide +kernel)
set_option maxRecDepth 20000 in
theorem gX11_removeMethod_Jx4a65c_size_8abf5 : GoodIn wsX11_removeMethod (wsV RX11 86 RJx4a65c yJx4a65c_size_8abf5 wsJx4a65c_size_8abf5) := goodIn_app (goodIn_of _ (by decide +kernel)) ggX11_removeMethod_Jx4a65c_size_8abf5
theorem dX11_removeMethod_0 : decode cX11_removeMethod 0 = .ok (.aload_n 0, 1) := by decide +kernel
theorem dX11_removeMethod_1 : decode cX11_removeMethod 1 = .ok (.getfield 26, 3) := by decide +kernel
theorem dX11_removeMethod_4 : decode cX11_removeMethod 4 = .ok (.getfield 91, 3) := by decide +kernel
theorem dX11_removeMethod_7 : decode cX11_removeMethod 7 = .ok (.iload_n 1, 1) := by decide +kernel
theorem dX11_removeMethod_8 : decode cX11_removeMethod 8 = .ok (.invokevirtual 106, 3) := by decide +kernel
theorem dX11_removeMethod_11 : decode cX11_removeMethod 11 = .ok (.ifCond .ne 5, 3) := by decide +kernel
theorem dX11_removeMethod_14 : decode cX11_removeMethod 14 = .ok (.iconst (-1), 1) := by decide +kernel
theorem dX11_removeMethod_15 : decode cX11_removeMethod 15 = .ok (.ireturn, 1) := by decide +kernel
theorem dX11_removeMethod_16 : decode cX11_removeMethod 16 = .ok (.aload_n 0, 1) := by decide +kernel
theorem dX11_removeMethod_17 : decode cX11_removeMethod 17 = .ok (.aload_n 0, 1) := by decide +kernel
theorem dX11_removeMethod_18 : decode cX11_removeMethod 18 = .ok (.getfield 26, 3) := by decide +kernel
theorem dX11_removeMethod_21 : decode cX11_removeMethod 21 = .ok (.getfield 91, 3) := by decide +kernel
theorem dX11_removeMethod_24 : decode cX11_removeMethod 24 = .ok (.iload_n 1, 1) := by decide +kernel
theorem dX11_removeMethod_25 : decode cX11_removeMethod 25 = .ok (.invokevirtual 110, 3) := by decide +kernel
theorem dX11_removeMethod_28 : decode cX11_removeMethod 28 = .ok (.invokevirtual 76, 3) := by decide +kernel
theorem dX11_removeMethod_31 : decode cX11_removeMethod 31 = .ok (.aload_n 0, 1) := by decide +kernel
theorem dX11_removeMethod_32 : decode cX11_removeMethod 32 = .ok (.getfield 26, 3) := by decide +kernel
theorem dX11_removeMethod_35 : decode cX11_removeMethod 35 = .ok (.getfield 91, 3) := by decide +kernel
theorem dX11_removeMethod_38 : decode cX11_removeMethod 38 = .ok (.getfield 80, 3) := by decide +kernel
theorem dX11_removeMethod_41 : decode cX11_removeMethod 41 = .ok (.invokevirtual 86, 3) := by decide +kernel
theorem dX11_removeMethod_44 : decode cX11_removeMethod 44 = .ok (.ireturn, 1) := by decide +kernel
set_option maxRecDepth 20000 in
theorem ggX11_methodCount_Jx4a65c_size_8abf5 : GoodIn wsX11_methodCount wsJx4a65c_size_8abf5 := goodIn_r _ [6, 7, 32, 33, 34] (by decide +kernel) (by decide +kernel)
set_option maxRecDepth 20000 in
theorem gX11_methodCount_Jx4a65c_size_8abf5 : GoodIn wsX11_methodCount (wsV RX11 86 RJx4a65c yJx4a65c_size_8abf5 wsJx4a65c_size_8abf5) := goodIn_app (goodIn_of _ (by decide +kernel)) ggX11_methodCount_Jx4a65c_size_8abf5
theorem dX11_methodCount_0 : decode cX11_methodCount 0 = .ok (.aload_n 0, 1) := by decide +kernel
theorem dX11_methodCount_1 : decode cX11_methodCount 1 = .ok (.getfield 26, 3) := by decide +kernel
theorem dX11_methodCount_4 : decode cX11_methodCount 4 = .ok (.getfield 91, 3) := by decide +kernel
theorem dX11_methodCount_7 : decode cX11_methodCount 7 = .ok (.getfield 80, 3) := by decide +kernel
theorem dX11_methodCount_10 : decode cX11_methodCount 10 = .ok (.invokevirtual 86, 3) := by decide +kernel
theorem dX11_methodCount_13 : decode cX11_methodCount 13 = .ok (.ireturn, 1) := by decide +kernel
set_option maxRecDepth 20000 in
theorem ggX11_complexity_X1_hasMethod : GoodIn wsX11_complexity wsX1_hasMethod := goodIn_r _ [7, 8, 9, 10, 11, 12, 13, 14, 64, 65, 66, 67, 68, 69] (by decide +kernel) (by decide +kernel)
set_option maxRecDepth 20000 in
theorem gX11_complexity_X1_hasMethod : GoodIn wsX11_complexity (wsV RX11 106 RX1 yX1_hasMethod wsX1_hasMethod) := goodIn_app (goodIn_of _ (by decide +kernel)) ggX11_complexity_X1_hasMethod
set_option maxRecDepth 20000 in
theorem ggX11_complexity_Jx4a65c_get_915e3 : GoodIn wsX11_complexity wsJx4a65c_get_915e3 := goodIn_r _ [18, 14, 19, 20, 21, 22, 23, 24, 25, 26, 27, 28, 29, 12, 30, 31, 67, 68, 69] (by decide +kernel) (by decide +kernel)
set_option maxRecDepth 20000 in
theorem gX11_complexity_Jx4a65c_get_915e3 : GoodIn wsX11_complexity (wsV RX11 114 RJx4a65c yJx4a65c_get_915e3 wsJx4a65c_get_915e3) := goodIn_app (goodIn_of _ (by decide +kernel)) ggX11_complexity_Jx4a65c_get_915e3
set_option maxRecDepth 20000 in
theorem ggX11_complexity_X6_weight : GoodIn wsX11_complexity wsX6_weight := goodIn_r _ [36, 37, 38, 39, 40, 41, 10, 11, 12, 13, 14, 42, 16, 17, 18, 19, 20, 21, 22, 23, 24, 25, 26, 27, 28, 29, 30, 31, 70, 71, 72, 73, 74, 75, 76, 67, 68, 69] (by decide +kernel) (by decide +kernel)
set_option maxRecDepth 20000 in
theorem gX11_complexity_X6_weight : GoodIn wsX11_complexity (wsV RX11 120 RX6 yX6_weight wsX6_weight) := goodIn_app (goodIn_of _ (by decide +kernel)) ggX11_complexity_X6_weight
theorem dX11_complexity_0 : decode cX11_complexity 0 = .ok (.aload_n 0, 1) := by decide +kernel
theorem dX11_complexity_1 : decode cX11_complexity 1 = .ok (.getfield 26, 3) := by decide +kernel
theorem dX11_complexity_4 : decode cX11_complexity 4 = .ok (.getfield 91, 3) := by decide +kernel
theorem dX11_complexity_7 : decode cX11_complexity 7 = .ok (.iload_n 1, 1) := by decide +kernel
theorem dX11_complexity_8 : decode cX11_complexity 8 = .ok (.invokevirtual 106, 3) := by decide +kernel
theorem dX11_complexity_11 : decode cX11_complexity 11 = .ok (.ifCond .ne 5, 3) := by decide +kernel
theorem dX11_complexity_14 : decode cX11_complexity 14 = .ok (.iconst (-1), 1) := by decide +kernel
theorem dX11_complexity_15 : decode cX11_complexity 15 = .ok (.ireturn, 1) := by decide +kernel
theorem dX11_complexity_16 : decode cX11_complexity 16 = .ok (.aload_n 0, 1) := by decide +kernel
theorem dX11_complexity_17 : decode cX11_complexity 17 = .ok (.getfield 26, 3) := by decide +kernel
theorem dX11_complexity_20 : decode cX11_complexity 20 = .ok (.getfield 91, 3) := by decide +kernel
theorem dX11_complexity_23 : decode cX11_complexity 23 = .ok (.getfield 80, 3) := by decide +kernel
theorem dX11_complexity_26 : decode cX11_complexity 26 = .ok (.iload_n 1, 1) := by decide +kernel
theorem dX11_complexity_27 : decode cX11_complexity 27 = .ok (.invokevirtual 114, 3) := by decide +kernel
theorem dX11_complexity_30 : decode cX11_complexity 30 = .ok (.checkcast 118, 3) := by decide +kernel
theorem dX11_complexity_33 : decode cX11_complexity 33 = .ok (.invokevirtual 120, 3) := by decide +kernel
theorem dX11_complexity_36 : decode cX11_complexity 36 = .ok (.ireturn, 1) := by decide +kernel
set_option maxRecDepth 20000 in
theorem ggX11_runText_J4_length_8abf5 : GoodIn wsX11_runText wsJ4_length_8abf5 := goodIn_r _ [7, 8, 9, 10, 11, 12, 13, 14, 218, 219, 220, 221] (by decide +kernel) (by decide +kernel)
set_option maxRecDepth 20000 in
theorem gX11_runText_J4_length_8abf5 : GoodIn wsX11_runText (wsV RX11 57 RJ4 yJ4_length_8abf5 wsJ4_length_8abf5) := goodIn_app (goodIn_of _ (by decide +kernel)) ggX11_runText_J4_length_8abf5
set_option maxRecDepth 20000 in
theorem ggX11_runText_J4_charAt_5068e : GoodIn wsX11_runText wsJ4_charAt_5068e := goodIn_r _ [18, 19, 20, 10, 21, 12, 22, 23, 24, 14, 25, 26, 27, 28, 29, 30, 31, 32, 33, 34, 35, 36, 37, 38, 39, 40, 41, 42, 43, 44, 45, 46, 47, 218, 219, 220, 221] (by decide +kernel) (by decide +kernel)
set_option maxRecDepth 20000 in
theorem gX11_runText_J4_charAt_5068e : GoodIn wsX11_runText (wsV RX11 123 RJ4 yJ4_charAt_5068e wsJ4_charAt_5068e) := goodIn_app (goodIn_of _ (by decide +kernel)) ggX11_runText_J4_charAt_5068e
set_option maxRecDepth 20000 in
theorem ggX11_runText_X1_hasMethod : GoodIn wsX11_runText wsX1_hasMethod := goodIn_r _ [52, 53, 54, 55, 56, 57, 58, 59, 222, 223, 224, 225, 226, 227] (by decide +kernel) (by decide +kernel)
set_option maxRecDepth 20000 in
theorem gX11_runText_X1_hasMethod : GoodIn wsX11_runText (wsV RX11 106 RX1 yX1_hasMethod wsX1_hasMethod) := goodIn_app (goodIn_of _ (by decide +kernel)) ggX11_runText_X1_hasMethod
set_option maxRecDepth 20000 in
theorem ggX11_runText_X11_firstVerdictInText : GoodIn wsX11_runText wsX11_firstVerdictInText := goodIn_r _ [64, 65, 2, 66, 67, 68, 69, 70, 71, 72, 73, 74, 3, 4, 5, 6, 7, 8, 9, 10, 11, 12, 13, 14, 15, 16, 17, 18, 19, 20, 21, 22, 23, 24, 25, 26, 27, 28, 29, 30, 31, 32, 33, 34, 35, 36, 37, 38, 39, 40, 41, 42, 43, 44, 45, 46, 47, 75, 76, 77, 51, 78, 53, 79, 80, 81, 82, 49, 50, 52, 54, 55, 56, 57, 58, 59, 83, 84, 85, 86, 87, 88, 89, 90, 91, 92, 93, 94, 95, 96, 97, 98, 99, 100, 101, 102, 103, 104, 105, 106, 107, 108, 109, 110, 111, 112, 113, 114, 115, 116, 117, 118, 119, 120, 121, 122, 123, 124, 125, 126, 127, 128, 129, 197, 198, 199, 200, 201, 202, 203, 204, 222, 223, 224, 228, 229, 230, 218, 219, 220, 221, 231, 232, 233, 234, 235, 236, 237, 225, 226, 227, 238, 239, 240, 241, 242] (by decide +kernel) (by decide +kernel)
set_option maxRecDepth 20000 in
theorem gX11_runText_X11_firstVerdictInText : GoodIn wsX11_runText (wsV RX11 127 RX11 yX11_firstVerdictInText wsX11_firstVerdictInText) := goodIn_app (goodIn_of _ (by decide +kernel)) ggX11_runText_X11_firstVerdictInText
set_option maxRecDepth 20000 in
theorem ggX11_runText_J4_setLength_d00df : GoodIn wsX11_runText wsJ4_setLength_d00df := goodIn_r _ [133, 134, 135, 10, 136, 12, 137, 14, 24, 138, 139, 140, 141, 142, 143, 23, 144, 145, 146, 147, 148, 149, 150, 151, 152, 153, 154, 155, 27, 156, 157, 158, 159, 160, 161, 162, 163, 164, 165, 166, 167, 168, 169, 170, 171, 172, 26, 28, 173, 174, 175, 176, 177, 178, 179, 180, 181, 182, 183, 184, 185, 186, 187, 188, 189, 190, 191, 192, 193, 194, 40, 195, 196, 218, 219, 220, 221] (by decide +kernel) (by decide +kernel)
set_option maxRecDepth 20000 in
theorem gX11_runText_J4_setLength_d00df : GoodIn wsX11_runText (wsV RX11 65 RJ4 yJ4_setLength_d00df wsJ4_setLength_d00df) := goodIn_app (goodIn_of _ (by decide +kernel)) ggX11_runText_J4_setLength_d00df
theorem dX11_runText_0 : decode cX11_runText 0 = .ok (.aload_n 0, 1) := by decide +kernel
theorem dX11_runText_1 : decode cX11_runText 1 = .ok (.getfield 26, 3) := by decide +kernel
theorem dX11_runText_4 : decode cX11_runText 4 = .ok (.getfield 91, 3) := by decide +kernel
theorem dX11_runText_7 : decode cX11_runText 7 = .ok (.astore_n 1, 1) := by decide +kernel
theorem dX11_runText_8 : decode cX11_runText 8 = .ok (.iconst 0, 1) := by decide +kernel
theorem dX11_runText_9 : decode cX11_runText 9 = .ok (.istore_n 2, 1) := by decide +kernel
theorem dX11_runText_10 : decode cX11_runText 10 = .ok (.iload_n 2, 1) := by decide +kernel
theorem dX11_runText_11 : decode cX11_runText 11 = .ok (.aload_n 0, 1) := by decide +kernel
theorem dX11_runText_12 : decode cX11_runText 12 = .ok (.getfield 10, 3) := by decide +kernel
theorem dX11_runText_15 : decode cX11_runText 15 = .ok (.invokevirtual 57, 3) := by decide +kernel
theorem dX11_runText_18 : decode cX11_runText 18 = .ok (.if_icmp .ge 32, 3) := by decide +kernel
theorem dX11_runText_21 : decode cX11_runText 21 = .ok (.aload_n 1, 1) := by decide +kernel
theorem dX11_runText_22 : decode cX11_runText 22 = .ok (.aload_n 0, 1) := by decide +kernel
theorem dX11_runText_23 : decode cX11_runText 23 = .ok (.getfield 10, 3) := by decide +kernel
theorem dX11_runText_26 : decode cX11_runText 26 = .ok (.iload_n 2, 1) := by decide +kernel
theorem dX11_runText_27 : decode cX11_runText 27 = .ok (.invokevirtual 123, 3) := by decide +kernel
theorem dX11_runText_30 : decode cX11_runText 30 = .ok (.bipush 48, 2) := by decide +kernel
theorem dX11_runText_32 : decode cX11_runText 32 = .ok (.isub, 1) := by decide +kernel
theorem dX11_runText_33 : decode cX11_runText 33 = .ok (.invokevirtual 106, 3) := by decide +kernel
theorem dX11_runText_36 : decode cX11_runText 36 = .ok (.ifCond .ne 8, 3) := by decide +kernel
theorem dX11_runText_39 : decode cX11_runText 39 = .ok (.bipush (-10), 2) := by decide +kernel
theorem dX11_runText_41 : decode cX11_runText 41 = .ok (.iload_n 2, 1) := by decide +kernel
theorem dX11_runText_42 : decode cX11_runText 42 = .ok (.isub, 1) := by decide +kernel
theorem dX11_runText_43 : decode cX11_runText 43 = .ok (.ireturn, 1) := by decide +kernel
theorem dX11_runText_44 : decode cX11_runText 44 = .ok (.iinc 2 1, 3) := by decide +kernel
theorem dX11_runText_47 : decode cX11_runText 47 = .ok (.goto (-37), 3) := by decide +kernel
theorem dX11_runText_50 : decode cX11_runText 50 = .ok (.aload_n 0, 1) := by decide +kernel
theorem dX11_runText_51 : decode cX11_runText 51 = .ok (.aload_n 1, 1) := by decide +kernel
theorem dX11_runText_52 : decode cX11_runText 52 = .ok (.invokevirtual 127, 3) := by decide +kernel
theorem dX11_runText_55 : decode cX11_runText 55 = .ok (.istore_n 2, 1) := by decide +kernel
theorem dX11_runText_56 : decode cX11_runText 56 = .ok (.aload_n 0, 1) := by decide +kernel
theorem dX11_runText_57 : decode cX11_runText 57 = .ok (.getfield 10, 3) := by decide +kernel
theorem dX11_runText_60 : decode cX11_runText 60 = .ok (.iconst 0, 1) := by decide +kernel
theorem dX11_runText_61 : decode cX11_runText 61 = .ok (.invokevirtual 65, 3) := by decide +kernel
theorem dX11_runText_64 : decode cX11_runText 64 = .ok (.iload_n 2, 1) := by decide +kernel
theorem dX11_runText_65 : decode cX11_runText 65 = .ok (.ireturn, 1) := by decide +kernel
set_option maxRecDepth 20000 in
theorem ggX11_setMaximumLength_X4_remember : GoodIn wsX11_setMaximumLength wsX4_remember := goodIn_r _ [7, 8, 9, 10, 11, 12, 13, 14, 15, 16, 17, 18, 19, 20, 21, 22, 23, 24, 25, 26, 27, 28, 29, 30, 31, 32, 33, 34, 35, 36, 37, 38, 39, 40, 41, 42, 43, 44, 45, 46, 47, 48, 49, 50, 51, 52, 53, 54, 76, 77, 78, 63, 64, 65, 66, 67, 68, 69, 70, 71, 72, 73, 74, 75, 79, 80, 81, 82, 83] (by decide +kernel) (by decide +kernel)
set_option maxRecDepth 20000 in
theorem gX11_setMaximumLength_X4_remember : GoodIn wsX11_setMaximumLength (wsV RX11 131 RX4 yX4_remember wsX4_remember) := goodIn_app (goodIn_of _ (by decide +kernel)) ggX11_setMaximumLength_X4_remember
theorem dX11_setMaximumLength_0 : decode cX11_setMaximumLength 0 = .ok (.iload_n 1, 1) := by decide +kernel
theorem dX11_setMaximumLength_1 : decode cX11_setMaximumLength 1 = .ok (.iconst 1, 1) := by decide +kernel
theorem dX11_setMaximumLength_2 : decode cX11_setMaximumLength 2 = .ok (.if_icmp .lt 9, 3) := by decide +kernel
theorem dX11_setMaximumLength_5 : decode cX11_setMaximumLength 5 = .ok (.iload_n 1, 1) := by decide +kernel
theorem dX11_setMaximumLength_6 : decode cX11_setMaximumLength 6 = .ok (.bipush 8, 2) := by decide +kernel
theorem dX11_setMaximumLength_8 : decode cX11_setMaximumLength 8 = .ok (.if_icmp .le 5, 3) := by decide +kernel
theorem dX11_setMaximumLength_11 : decode cX11_setMaximumLength 11 = .ok (.iconst (-1), 1) := by decide +kernel
theorem dX11_setMaximumLength_12 : decode cX11_setMaximumLength 12 = .ok (.ireturn, 1) := by decide +kernel
theorem dX11_setMaximumLength_13 : decode cX11_setMaximumLength 13 = .ok (.aload_n 0, 1) := by decide +kernel
theorem dX11_setMaximumLength_14 : decode cX11_setMaximumLength 14 = .ok (.getfield 33, 3) := by decide +kernel
theorem dX11_setMaximumLength_17 : decode cX11_setMaximumLength 17 = .ok (.aload_n 0, 1) := by decide +kernel
theorem dX11_setMaximumLength_18 : decode cX11_setMaximumLength 18 = .ok (.getfield 26, 3) := by decide +kernel
theorem dX11_setMaximumLength_21 : decode cX11_setMaximumLength 21 = .ok (.invokevirtual 131, 3) := by decide +kernel
theorem dX11_setMaximumLength_24 : decode cX11_setMaximumLength 24 = .ok (.aload_n 0, 1) := by decide +kernel
theorem dX11_setMaximumLength_25 : decode cX11_setMaximumLength 25 = .ok (.getfield 26, 3) := by decide +kernel
theorem dX11_setMaximumLength_28 : decode cX11_setMaximumLength 28 = .ok (.getfield 135, 3) := by decide +kernel
theorem dX11_setMaximumLength_31 : decode cX11_setMaximumLength 31 = .ok (.istore_n 2, 1) := by decide +kernel
theorem dX11_setMaximumLength_32 : decode cX11_setMaximumLength 32 = .ok (.aload_n 0, 1) := by decide +kernel
theorem dX11_setMaximumLength_33 : decode cX11_setMaximumLength 33 = .ok (.getfield 26, 3) := by decide +kernel
theorem dX11_setMaximumLength_36 : decode cX11_setMaximumLength 36 = .ok (.iload_n 1, 1) := by decide +kernel
theorem dX11_setMaximumLength_37 : decode cX11_setMaximumLength 37 = .ok (.putfield 135, 3) := by decide +kernel
theorem dX11_setMaximumLength_40 : decode cX11_setMaximumLength 40 = .ok (.iload_n 2, 1) := by decide +kernel
theorem dX11_setMaximumLength_41 : decode cX11_setMaximumLength 41 = .ok (.ireturn, 1) := by decide +kernel
set_option maxRecDepth 20000 in
theorem ggX11_explore_X3_firstOpenSequence : GoodIn wsX11_explore wsX3_firstOpenSequence := goodIn_r _ [7, 8, 9, 10, 6, 11, 12, 13, 14, 15, 16, 17, 18, 19, 20, 21, 22, 23, 24, 25, 26, 168, 169, 170, 171, 172, 173, 174, 175, 176, 177, 178, 179, 180, 181, 182, 183, 184, 185, 186, 187, 188] (by decide +kernel) (by decide +kernel)
set_option maxRecDepth 20000 in
theorem gX11_explore_X3_firstOpenSequence : GoodIn wsX11_explore (wsV RX11 139 RX3 yX3_firstOpenSequence wsX3_firstOpenSequence) := goodIn_app (goodIn_of _ (by decide +kernel)) ggX11_explore_X3_firstOpenSequence
set_option maxRecDepth 20000 in
theorem ggX11_explore_X4_remember : GoodIn wsX11_explore wsX4_remember := goodIn_r _ [31, 32, 33, 34, 35, 36, 37, 6, 38, 14, 13, 12, 39, 15, 20, 40, 41, 42, 43, 44, 45, 46, 47, 48, 49, 50, 51, 52, 53, 54, 55, 56, 57, 58, 59, 60, 61, 62, 63, 64, 65, 66, 67, 68, 69, 70, 71, 72, 189, 190, 191, 168, 169, 170, 171, 172, 173, 174, 175, 176, 177, 178, 179, 180, 181, 182, 192, 193, 194] (by decide +kernel) (by decide +kernel)
set_option maxRecDepth 20000 in
theorem gX11_explore_X4_remember : GoodIn wsX11_explore (wsV RX11 131 RX4 yX4_remember wsX4_remember) := goodIn_app (goodIn_of _ (by decide +kernel)) ggX11_explore_X4_remember
set_option maxRecDepth 20000 in
theorem ggX11_explore_X3_processFirstOpenPair : GoodIn wsX11_explore wsX3_processFirstOpenPair := goodIn_r _ [76, 15, 14, 39, 77, 43, 12, 78, 4, 5, 6, 7, 8, 9, 10, 11, 13, 16, 17, 18, 19, 20, 21, 22, 23, 24, 25, 26, 79, 80, 81, 82, 83, 84, 85, 86, 87, 88, 89, 90, 91, 92, 93, 94, 95, 96, 97, 98, 99, 100, 101, 102, 103, 104, 105, 106, 107, 108, 109, 110, 111, 112, 113, 114, 115, 116, 117, 118, 119, 120, 121, 122, 123, 124, 125, 126, 127, 128, 129, 66, 67, 68, 69, 70, 71, 72, 130, 131, 132, 133, 134, 135, 136, 137, 138, 139, 140, 141, 142, 143, 144, 145, 146, 44, 45, 147, 148, 149, 150, 151, 152, 153, 154, 46, 47, 48, 49, 50, 51, 52, 53, 54, 55, 56, 57, 58, 59, 60, 61, 62, 63, 64, 155, 65, 156, 157, 158, 159, 42, 40, 41, 168, 169, 170, 171, 172, 173, 174, 175, 176, 177, 178, 179, 180, 181, 182, 183, 184, 185, 186, 187, 188, 195, 196, 197, 198, 199, 200, 201, 202, 203, 204, 205, 206, 192, 193, 194] (by decide +kernel) (by decide +kernel)
set_option maxRecDepth 20000 in
theorem gX11_explore_X3_processFirstOpenPair : GoodIn wsX11_explore (wsV RX11 142 RX3 yX3_processFirstOpenPair wsX3_processFirstOpenPair) := goodIn_app (goodIn_of _ (by decide +kernel)) ggX11_explore_X3_processFirstOpenPair
theorem dX11_explore_0 : decode cX11_explore 0 = .ok (.iload_n 1, 1) := by decide +kernel
theorem dX11_explore_1 : decode cX11_explore 1 = .ok (.iconst 1, 1) := by decide +kernel
theorem dX11_explore_2 : decode cX11_explore 2 = .ok (.if_icmp .lt 10, 3) := by decide +kernel
theorem dX11_explore_5 : decode cX11_explore 5 = .ok (.iload_n 1, 1) := by decide +kernel
theorem dX11_explore_6 : decode cX11_explore 6 = .ok (.sipush 200, 3) := by decide +kernel
theorem dX11_explore_9 : decode cX11_explore 9 = .ok (.if_icmp .le 5, 3) := by decide +kernel
theorem dX11_explore_12 : decode cX11_explore 12 = .ok (.iconst (-1), 1) := by decide +kernel
theorem dX11_explore_13 : decode cX11_explore 13 = .ok (.ireturn, 1) := by decide +kernel
theorem dX11_explore_14 : decode cX11_explore 14 = .ok (.aload_n 0, 1) := by decide +kernel
theorem dX11_explore_15 : decode cX11_explore 15 = .ok (.getfield 26, 3) := by decide +kernel
theorem dX11_explore_18 : decode cX11_explore 18 = .ok (.invokevirtual 139, 3) := by decide +kernel
theorem dX11_explore_21 : decode cX11_explore 21 = .ok (.sipush (-1000), 3) := by decide +kernel
theorem dX11_explore_24 : decode cX11_explore 24 = .ok (.if_icmp .ne 6, 3) := by decide +kernel
theorem dX11_explore_27 : decode cX11_explore 27 = .ok (.bipush (-2), 2) := by decide +kernel
theorem dX11_explore_29 : decode cX11_explore 29 = .ok (.ireturn, 1) := by decide +kernel
theorem dX11_explore_30 : decode cX11_explore 30 = .ok (.aload_n 0, 1) := by decide +kernel
theorem dX11_explore_31 : decode cX11_explore 31 = .ok (.getfield 33, 3) := by decide +kernel
theorem dX11_explore_34 : decode cX11_explore 34 = .ok (.aload_n 0, 1) := by decide +kernel
theorem dX11_explore_35 : decode cX11_explore 35 = .ok (.getfield 26, 3) := by decide +kernel
theorem dX11_explore_38 : decode cX11_explore 38 = .ok (.invokevirtual 131, 3) := by decide +kernel
theorem dX11_explore_41 : decode cX11_explore 41 = .ok (.iconst 0, 1) := by decide +kernel
theorem dX11_explore_42 : decode cX11_explore 42 = .ok (.istore_n 2, 1) := by decide +kernel
theorem dX11_explore_43 : decode cX11_explore 43 = .ok (.iload_n 2, 1) := by decide +kernel
theorem dX11_explore_44 : decode cX11_explore 44 = .ok (.iload_n 1, 1) := by decide +kernel
theorem dX11_explore_45 : decode cX11_explore 45 = .ok (.if_icmp .ge 19, 3) := by decide +kernel
theorem dX11_explore_48 : decode cX11_explore 48 = .ok (.aload_n 0, 1) := by decide +kernel
theorem dX11_explore_49 : decode cX11_explore 49 = .ok (.getfield 26, 3) := by decide +kernel
theorem dX11_explore_52 : decode cX11_explore 52 = .ok (.invokevirtual 142, 3) := by decide +kernel
theorem dX11_explore_55 : decode cX11_explore 55 = .ok (.ifCond .eq 9, 3) := by decide +kernel
theorem dX11_explore_58 : decode cX11_explore 58 = .ok (.iinc 2 1, 3) := by decide +kernel
theorem dX11_explore_61 : decode cX11_explore 61 = .ok (.goto (-18), 3) := by decide +kernel
theorem dX11_explore_64 : decode cX11_explore 64 = .ok (.iload_n 2, 1) := by decide +kernel
theorem dX11_explore_65 : decode cX11_explore 65 = .ok (.ireturn, 1) := by decide +kernel
set_option maxRecDepth 20000 in
theorem ggX11_reset_X3_hasProcessedPair : GoodIn wsX11_reset wsX3_hasProcessedPair := goodIn_r _ [7, 8, 9, 10, 11, 6, 12, 13, 75, 76, 77, 78, 79, 80, 81, 82, 83, 84, 85, 86, 87] (by decide +kernel) (by decide +kernel)
set_option maxRecDepth 20000 in
theorem gX11_reset_X3_hasProcessedPair : GoodIn wsX11_reset (wsV RX11 146 RX3 yX3_hasProcessedPair wsX3_hasProcessedPair) := goodIn_app (goodIn_of _ (by decide +kernel)) ggX11_reset_X3_hasProcessedPair
set_option maxRecDepth 20000 in
theorem ggX11_reset_X4_remember : GoodIn wsX11_reset wsX4_remember := goodIn_r _ [18, 19, 20, 21, 22, 23, 24, 6, 25, 26, 27, 28, 29, 8, 13, 30, 31, 32, 33, 34, 35, 36, 37, 38, 39, 40, 41, 42, 43, 44, 45, 46, 47, 48, 49, 50, 51, 52, 53, 54, 55, 56, 57, 58, 59, 60, 61, 62, 88, 89, 90, 75, 76, 77, 78, 79, 80, 81, 82, 83, 84, 85, 86, 87, 91, 92, 93, 94, 95] (by decide +kernel) (by decide +kernel)
set_option maxRecDepth 20000 in
theorem gX11_reset_X4_remember : GoodIn wsX11_reset (wsV RX11 131 RX4 yX4_remember wsX4_remember) := goodIn_app (goodIn_of _ (by decide +kernel)) ggX11_reset_X4_remember
set_option maxRecDepth 20000 in
theorem ggX11_reset_X3_restart : GoodIn wsX11_reset wsX3_restart := goodIn_r _ [66, 29, 26, 8, 13, 32, 33, 34, 35, 55, 56, 57, 58, 59, 60, 61, 62, 75, 76, 77, 78, 79, 80, 81, 82, 83, 84, 85, 86, 87, 96, 97, 98, 93, 94, 95] (by decide +kernel) (by decide +kernel)
set_option maxRecDepth 20000 in
theorem gX11_reset_X3_restart : GoodIn wsX11_reset (wsV RX11 152 RX3 yX3_restart wsX3_restart) := goodIn_app (goodIn_of _ (by decide +kernel)) ggX11_reset_X3_restart
theorem dX11_reset_0 : decode cX11_reset 0 = .ok (.aload_n 0, 1) := by decide +kernel
theorem dX11_reset_1 : decode cX11_reset 1 = .ok (.getfield 26, 3) := by decide +kernel
theorem dX11_reset_4 : decode cX11_reset 4 = .ok (.invokevirtual 146, 3) := by decide +kernel
theorem dX11_reset_7 : decode cX11_reset 7 = .ok (.ifCond .ne 6, 3) := by decide +kernel
theorem dX11_reset_10 : decode cX11_reset 10 = .ok (.bipush (-2), 2) := by decide +kernel
theorem dX11_reset_12 : decode cX11_reset 12 = .ok (.ireturn, 1) := by decide +kernel
theorem dX11_reset_13 : decode cX11_reset 13 = .ok (.aload_n 0, 1) := by decide +kernel
theorem dX11_reset_14 : decode cX11_reset 14 = .ok (.getfield 33, 3) := by decide +kernel
theorem dX11_reset_17 : decode cX11_reset 17 = .ok (.aload_n 0, 1) := by decide +kernel
theorem dX11_reset_18 : decode cX11_reset 18 = .ok (.getfield 26, 3) := by decide +kernel
theorem dX11_reset_21 : decode cX11_reset 21 = .ok (.invokevirtual 131, 3) := by decide +kernel
theorem dX11_reset_24 : decode cX11_reset 24 = .ok (.aload_n 0, 1) := by decide +kernel
theorem dX11_reset_25 : decode cX11_reset 25 = .ok (.getfield 26, 3) := by decide +kernel
theorem dX11_reset_28 : decode cX11_reset 28 = .ok (.getfield 149, 3) := by decide +kernel
theorem dX11_reset_31 : decode cX11_reset 31 = .ok (.istore_n 1, 1) := by decide +kernel
theorem dX11_reset_32 : decode cX11_reset 32 = .ok (.aload_n 0, 1) := by decide +kernel
theorem dX11_reset_33 : decode cX11_reset 33 = .ok (.getfield 26, 3) := by decide +kernel
theorem dX11_reset_36 : decode cX11_reset 36 = .ok (.invokevirtual 152, 3) := by decide +kernel
theorem dX11_reset_39 : decode cX11_reset 39 = .ok (.iload_n 1, 1) := by decide +kernel
theorem dX11_reset_40 : decode cX11_reset 40 = .ok (.ireturn, 1) := by decide +kernel
set_option maxRecDepth 20000 in
theorem ggX11_undo_X4_isEmpty : GoodIn wsX11_undo wsX4_isEmpty := goodIn_r _ [7, 8, 67, 68, 69] (by decide +kernel) (by decide +kernel)
set_option maxRecDepth 20000 in
theorem gX11_undo_X4_isEmpty : GoodIn wsX11_undo (wsV RX11 155 RX4 yX4_isEmpty wsX4_isEmpty) := goodIn_app (goodIn_of _ (by decide +kernel)) ggX11_undo_X4_isEmpty
set_option maxRecDepth 20000 in
theorem ggX11_undo_X4_restoreLatest : GoodIn wsX11_undo wsX4_restoreLatest := goodIn_r _ [12, 13, 14, 8, 15, 16, 17, 18, 19, 20, 21, 22, 23, 24, 25, 26, 27, 28, 29, 30, 31, 32, 33, 34, 35, 36, 37, 38, 39, 40, 41, 42, 43, 44, 45, 46, 47, 48, 49, 50, 51, 52, 53, 54, 55, 56, 57, 58, 67, 68, 69, 70, 71, 72, 73, 74, 75, 76, 77, 78, 79, 80, 81, 82, 83, 84, 85, 86, 87] (by decide +kernel) (by decide +kernel)
set_option maxRecDepth 20000 in
theorem gX11_undo_X4_restoreLatest : GoodIn wsX11_undo (wsV RX11 158 RX4 yX4_restoreLatest wsX4_restoreLatest) := goodIn_app (goodIn_of _ (by decide +kernel)) ggX11_undo_X4_restoreLatest
theorem dX11_undo_0 : decode cX11_undo 0 = .ok (.aload_n 0, 1) := by decide +kernel
theorem dX11_undo_1 : decode cX11_undo 1 = .ok (.getfield 33, 3) := by decide +kernel
theorem dX11_undo_4 : decode cX11_undo 4 = .ok (.invokevirtual 155, 3) := by decide +kernel
theorem dX11_undo_7 : decode cX11_undo 7 = .ok (.ifCond .eq 6, 3) := by decide +kernel
theorem dX11_undo_10 : decode cX11_undo 10 = .ok (.bipush (-2), 2) := by decide +kernel
theorem dX11_undo_12 : decode cX11_undo 12 = .ok (.ireturn, 1) := by decide +kernel
theorem dX11_undo_13 : decode cX11_undo 13 = .ok (.aload_n 0, 1) := by decide +kernel
theorem dX11_undo_14 : decode cX11_undo 14 = .ok (.getfield 33, 3) := by decide +kernel
theorem dX11_undo_17 : decode cX11_undo 17 = .ok (.aload_n 0, 1) := by decide +kernel
theorem dX11_undo_18 : decode cX11_undo 18 = .ok (.getfield 26, 3) := by decide +kernel
theorem dX11_undo_21 : decode cX11_undo 21 = .ok (.invokevirtual 158, 3) := by decide +kernel
theorem dX11_undo_24 : decode cX11_undo 24 = .ok (.ireturn, 1) := by decide +kernel
set_option maxRecDepth 20000 in
theorem ggX11_openPairs_X3_countOpenPairs : GoodIn wsX11_openPairs wsX3_countOpenPairs := goodIn_r _ [6, 7, 8, 9, 5, 10, 11, 12, 13, 14, 15, 16, 17, 18, 19, 20, 21, 22, 23, 24, 25, 34, 35, 36, 37, 38, 39, 40, 41, 42, 43, 44, 45, 46, 47, 48, 49, 50, 51, 52, 53, 54] (by decide +kernel) (by decide +kernel)
set_option maxRecDepth 20000 in
theorem gX11_openPairs_X3_countOpenPairs : GoodIn wsX11_openPairs (wsV RX11 162 RX3 yX3_countOpenPairs wsX3_countOpenPairs) := goodIn_app (goodIn_of _ (by decide +kernel)) ggX11_openPairs_X3_countOpenPairs
theorem dX11_openPairs_0 : decode cX11_openPairs 0 = .ok (.aload_n 0, 1) := by decide +kernel
theorem dX11_openPairs_1 : decode cX11_openPairs 1 = .ok (.getfield 26, 3) := by decide +kernel
theorem dX11_openPairs_4 : decode cX11_openPairs 4 = .ok (.invokevirtual 162, 3) := by decide +kernel
theorem dX11_openPairs_7 : decode cX11_openPairs 7 = .ok (.ireturn, 1) := by decide +kernel
theorem dX11_skippedPairs_0 : decode cX11_skippedPairs 0 = .ok (.aload_n 0, 1) := by decide +kernel
theorem dX11_skippedPairs_1 : decode cX11_skippedPairs 1 = .ok (.getfield 26, 3) := by decide +kernel
theorem dX11_skippedPairs_4 : decode cX11_skippedPairs 4 = .ok (.getfield 165, 3) := by decide +kernel
theorem dX11_skippedPairs_7 : decode cX11_skippedPairs 7 = .ok (.ireturn, 1) := by decide +kernel
theorem dX11_redundantPairs_0 : decode cX11_redundantPairs 0 = .ok (.aload_n 0, 1) := by decide +kernel
theorem dX11_redundantPairs_1 : decode cX11_redundantPairs 1 = .ok (.getfield 26, 3) := by decide +kernel
theorem dX11_redundantPairs_4 : decode cX11_redundantPairs 4 = .ok (.getfield 168, 3) := by decide +kernel
theorem dX11_redundantPairs_7 : decode cX11_redundantPairs 7 = .ok (.ireturn, 1) := by decide +kernel
theorem dX11_droppedPairs_0 : decode cX11_droppedPairs 0 = .ok (.aload_n 0, 1) := by decide +kernel
theorem dX11_droppedPairs_1 : decode cX11_droppedPairs 1 = .ok (.getfield 26, 3) := by decide +kernel
theorem dX11_droppedPairs_4 : decode cX11_droppedPairs 4 = .ok (.getfield 171, 3) := by decide +kernel
theorem dX11_droppedPairs_7 : decode cX11_droppedPairs 7 = .ok (.ireturn, 1) := by decide +kernel
theorem dX11_poolSize_0 : decode cX11_poolSize 0 = .ok (.aload_n 0, 1) := by decide +kernel
theorem dX11_poolSize_1 : decode cX11_poolSize 1 = .ok (.getfield 26, 3) := by decide +kernel
theorem dX11_poolSize_4 : decode cX11_poolSize 4 = .ok (.getfield 149, 3) := by decide +kernel
theorem dX11_poolSize_7 : decode cX11_poolSize 7 = .ok (.ireturn, 1) := by decide +kernel
set_option maxRecDepth 20000 in
theorem ggX11_sequenceLength_X3_hasSequence : GoodIn wsX11_sequenceLength wsX3_hasSequence := goodIn_r _ [6, 7, 16, 17, 18, 19, 20, 21, 22, 23, 24, 25, 26, 27, 28] (by decide +kernel) (by decide +kernel)
set_option maxRecDepth 20000 in
theorem gX11_sequenceLength_X3_hasSequence : GoodIn wsX11_sequenceLength (wsV RX11 174 RX3 yX3_hasSequence wsX3_hasSequence) := goodIn_app (goodIn_of _ (by decide +kernel)) ggX11_sequenceLength_X3_hasSequence
theorem dX11_sequenceLength_0 : decode cX11_sequenceLength 0 = .ok (.aload_n 0, 1) := by decide +kernel
theorem dX11_sequenceLength_1 : decode cX11_sequenceLength 1 = .ok (.getfield 26, 3) := by decide +kernel
theorem dX11_sequenceLength_4 : decode cX11_sequenceLength 4 = .ok (.iload_n 1, 1) := by decide +kernel
theorem dX11_sequenceLength_5 : decode cX11_sequenceLength 5 = .ok (.invokevirtual 174, 3) := by decide +kernel
theorem dX11_sequenceLength_8 : decode cX11_sequenceLength 8 = .ok (.ifCond .ne 5, 3) := by decide +kernel
theorem dX11_sequenceLength_11 : decode cX11_sequenceLength 11 = .ok (.iconst (-1), 1) := by decide +kernel
theorem dX11_sequenceLength_12 : decode cX11_sequenceLength 12 = .ok (.ireturn, 1) := by decide +kernel
theorem dX11_sequenceLength_13 : decode cX11_sequenceLength 13 = .ok (.aload_n 0, 1) := by decide +kernel
theorem dX11_sequenceLength_14 : decode cX11_sequenceLength 14 = .ok (.getfield 26, 3) := by decide +kernel
theorem dX11_sequenceLength_17 : decode cX11_sequenceLength 17 = .ok (.getfield 177, 3) := by decide +kernel
theorem dX11_sequenceLength_20 : decode cX11_sequenceLength 20 = .ok (.iload_n 1, 1) := by decide +kernel
theorem dX11_sequenceLength_21 : decode cX11_sequenceLength 21 = .ok (.aaload, 1) := by decide +kernel
theorem dX11_sequenceLength_22 : decode cX11_sequenceLength 22 = .ok (.getfield 181, 3) := by decide +kernel
theorem dX11_sequenceLength_25 : decode cX11_sequenceLength 25 = .ok (.ireturn, 1) := by decide +kernel
set_option maxRecDepth 20000 in
theorem ggX11_sequenceCall_X3_hasSequence : GoodIn wsX11_sequenceCall wsX3_hasSequence := goodIn_r _ [6, 7, 23, 24, 25, 26, 27, 28, 29, 30, 31, 32, 33, 34, 35] (by decide +kernel) (by decide +kernel)
set_option maxRecDepth 20000 in
theorem gX11_sequenceCall_X3_hasSequence : GoodIn wsX11_sequenceCall (wsV RX11 174 RX3 yX3_hasSequence wsX3_hasSequence) := goodIn_app (goodIn_of _ (by decide +kernel)) ggX11_sequenceCall_X3_hasSequence
set_option maxRecDepth 20000 in
theorem ggX11_sequenceCall_X9_callAt : GoodIn wsX11_sequenceCall wsX9_callAt := goodIn_r _ [12, 13, 14, 36, 37] (by decide +kernel) (by decide +kernel)
set_option maxRecDepth 20000 in
theorem gX11_sequenceCall_X9_callAt : GoodIn wsX11_sequenceCall (wsV RX11 183 RX9 yX9_callAt wsX9_callAt) := goodIn_app (goodIn_of _ (by decide +kernel)) ggX11_sequenceCall_X9_callAt
theorem dX11_sequenceCall_0 : decode cX11_sequenceCall 0 = .ok (.aload_n 0, 1) := by decide +kernel
theorem dX11_sequenceCall_1 : decode cX11_sequenceCall 1 = .ok (.getfield 26, 3) := by decide +kernel
theorem dX11_sequenceCall_4 : decode cX11_sequenceCall 4 = .ok (.iload_n 1, 1) := by decide +kernel
theorem dX11_sequenceCall_5 : decode cX11_sequenceCall 5 = .ok (.invokevirtual 174, 3) := by decide +kernel
theorem dX11_sequenceCall_8 : decode cX11_sequenceCall 8 = .ok (.ifCond .eq 7, 3) := by decide +kernel
theorem dX11_sequenceCall_11 : decode cX11_sequenceCall 11 = .ok (.iload_n 2, 1) := by decide +kernel
theorem dX11_sequenceCall_12 : decode cX11_sequenceCall 12 = .ok (.ifCond .ge 5, 3) := by decide +kernel
theorem dX11_sequenceCall_15 : decode cX11_sequenceCall 15 = .ok (.iconst (-1), 1) := by decide +kernel
theorem dX11_sequenceCall_16 : decode cX11_sequenceCall 16 = .ok (.ireturn, 1) := by decide +kernel
theorem dX11_sequenceCall_17 : decode cX11_sequenceCall 17 = .ok (.aload_n 0, 1) := by decide +kernel
theorem dX11_sequenceCall_18 : decode cX11_sequenceCall 18 = .ok (.getfield 26, 3) := by decide +kernel
theorem dX11_sequenceCall_21 : decode cX11_sequenceCall 21 = .ok (.getfield 177, 3) := by decide +kernel
theorem dX11_sequenceCall_24 : decode cX11_sequenceCall 24 = .ok (.iload_n 1, 1) := by decide +kernel
theorem dX11_sequenceCall_25 : decode cX11_sequenceCall 25 = .ok (.aaload, 1) := by decide +kernel
theorem dX11_sequenceCall_26 : decode cX11_sequenceCall 26 = .ok (.iload_n 2, 1) := by decide +kernel
theorem dX11_sequenceCall_27 : decode cX11_sequenceCall 27 = .ok (.invokevirtual 183, 3) := by decide +kernel
theorem dX11_sequenceCall_30 : decode cX11_sequenceCall 30 = .ok (.ireturn, 1) := by decide +kernel
set_option maxRecDepth 20000 in
theorem ggX11_finalValue_X3_hasSequence : GoodIn wsX11_finalValue wsX3_hasSequence := goodIn_r _ [6, 7, 24, 25, 26, 27, 28, 29, 30, 31, 32, 33, 34, 35, 36] (by decide +kernel) (by decide +kernel)
set_option maxRecDepth 20000 in
theorem gX11_finalValue_X3_hasSequence : GoodIn wsX11_finalValue (wsV RX11 174 RX3 yX3_hasSequence wsX3_hasSequence) := goodIn_app (goodIn_of _ (by decide +kernel)) ggX11_finalValue_X3_hasSequence
set_option maxRecDepth 20000 in
theorem ggX11_finalValue_X10_valueOf : GoodIn wsX11_finalValue wsX10_valueOf := goodIn_r _ [12, 13, 14, 15, 37, 38, 39] (by decide +kernel) (by decide +kernel)
set_option maxRecDepth 20000 in
theorem gX11_finalValue_X10_valueOf : GoodIn wsX11_finalValue (wsV RX11 98 RX10 yX10_valueOf wsX10_valueOf) := goodIn_app (goodIn_of _ (by decide +kernel)) ggX11_finalValue_X10_valueOf
theorem dX11_finalValue_0 : decode cX11_finalValue 0 = .ok (.aload_n 0, 1) := by decide +kernel
theorem dX11_finalValue_1 : decode cX11_finalValue 1 = .ok (.getfield 26, 3) := by decide +kernel
theorem dX11_finalValue_4 : decode cX11_finalValue 4 = .ok (.iload_n 1, 1) := by decide +kernel
theorem dX11_finalValue_5 : decode cX11_finalValue 5 = .ok (.invokevirtual 174, 3) := by decide +kernel
theorem dX11_finalValue_8 : decode cX11_finalValue 8 = .ok (.ifCond .eq 12, 3) := by decide +kernel
theorem dX11_finalValue_11 : decode cX11_finalValue 11 = .ok (.iload_n 2, 1) := by decide +kernel
theorem dX11_finalValue_12 : decode cX11_finalValue 12 = .ok (.ifCond .lt 8, 3) := by decide +kernel
theorem dX11_finalValue_15 : decode cX11_finalValue 15 = .ok (.iload_n 2, 1) := by decide +kernel
theorem dX11_finalValue_16 : decode cX11_finalValue 16 = .ok (.iconst 3, 1) := by decide +kernel
theorem dX11_finalValue_17 : decode cX11_finalValue 17 = .ok (.if_icmp .lt 7, 3) := by decide +kernel
theorem dX11_finalValue_20 : decode cX11_finalValue 20 = .ok (.sipush (-1000), 3) := by decide +kernel
theorem dX11_finalValue_23 : decode cX11_finalValue 23 = .ok (.ireturn, 1) := by decide +kernel
theorem dX11_finalValue_24 : decode cX11_finalValue 24 = .ok (.aload_n 0, 1) := by decide +kernel
theorem dX11_finalValue_25 : decode cX11_finalValue 25 = .ok (.getfield 26, 3) := by decide +kernel
theorem dX11_finalValue_28 : decode cX11_finalValue 28 = .ok (.getfield 186, 3) := by decide +kernel
theorem dX11_finalValue_31 : decode cX11_finalValue 31 = .ok (.iload_n 1, 1) := by decide +kernel
theorem dX11_finalValue_32 : decode cX11_finalValue 32 = .ok (.aaload, 1) := by decide +kernel
theorem dX11_finalValue_33 : decode cX11_finalValue 33 = .ok (.iload_n 2, 1) := by decide +kernel
theorem dX11_finalValue_34 : decode cX11_finalValue 34 = .ok (.invokevirtual 98, 3) := by decide +kernel
theorem dX11_finalValue_37 : decode cX11_finalValue 37 = .ok (.ireturn, 1) := by decide +kernel
set_option maxRecDepth 20000 in
theorem ggX11_enabledMethods_X3_hasSequence : GoodIn wsX11_enabledMethods wsX3_hasSequence := goodIn_r _ [6, 7, 70, 71, 72, 73, 74, 75, 76, 77, 78, 79, 80, 81, 82] (by decide +kernel) (by decide +kernel)
set_option maxRecDepth 20000 in
theorem gX11_enabledMethods_X3_hasSequence : GoodIn wsX11_enabledMethods (wsV RX11 174 RX3 yX3_hasSequence wsX3_hasSequence) := goodIn_app (goodIn_of _ (by decide +kernel)) ggX11_enabledMethods_X3_hasSequence
set_option maxRecDepth 20000 in
theorem ggX11_enabledMethods_Jx4a65c_size_8abf5 : GoodIn wsX11_enabledMethods wsJx4a65c_size_8abf5 := goodIn_r _ [12, 13, 86, 87, 88] (by decide +kernel) (by decide +kernel)
set_option maxRecDepth 20000 in
theorem gX11_enabledMethods_Jx4a65c_size_8abf5 : GoodIn wsX11_enabledMethods (wsV RX11 86 RJx4a65c yJx4a65c_size_8abf5 wsJx4a65c_size_8abf5) := goodIn_app (goodIn_of _ (by decide +kernel)) ggX11_enabledMethods_Jx4a65c_size_8abf5
set_option maxRecDepth 20000 in
theorem ggX11_enabledMethods_X1_isEnabled : GoodIn wsX11_enabledMethods wsX1_isEnabled := goodIn_r _ [18, 19, 20, 21, 22, 23, 17, 24, 25, 9, 10, 11, 12, 13, 26, 27, 28, 29, 30, 31, 32, 33, 34, 35, 36, 37, 38, 39, 40, 41, 42, 43, 44, 45, 46, 47, 48, 49, 50, 51, 52, 53, 54, 55, 56, 57, 58, 59, 60, 61, 83, 84, 85, 89, 90, 91, 86, 87, 88, 92, 93, 94, 95, 96, 97, 98, 99] (by decide +kernel) (by decide +kernel)
set_option maxRecDepth 20000 in
theorem gX11_enabledMethods_X1_isEnabled : GoodIn wsX11_enabledMethods (wsV RX11 190 RX1 yX1_isEnabled wsX1_isEnabled) := goodIn_app (goodIn_of _ (by decide +kernel)) ggX11_enabledMethods_X1_isEnabled
theorem dX11_enabledMethods_0 : decode cX11_enabledMethods 0 = .ok (.aload_n 0, 1) := by decide +kernel
theorem dX11_enabledMethods_1 : decode cX11_enabledMethods 1 = .ok (.getfield 26, 3) := by decide +kernel
theorem dX11_enabledMethods_4 : decode cX11_enabledMethods 4 = .ok (.iload_n 1, 1) := by decide +kernel
theorem dX11_enabledMethods_5 : decode cX11_enabledMethods 5 = .ok (.invokevirtual 174, 3) := by decide +kernel
theorem dX11_enabledMethods_8 : decode cX11_enabledMethods 8 = .ok (.ifCond .ne 5, 3) := by decide +kernel
theorem dX11_enabledMethods_11 : decode cX11_enabledMethods 11 = .ok (.iconst (-1), 1) := by decide +kernel
theorem dX11_enabledMethods_12 : decode cX11_enabledMethods 12 = .ok (.ireturn, 1) := by decide +kernel
theorem dX11_enabledMethods_13 : decode cX11_enabledMethods 13 = .ok (.iconst 0, 1) := by decide +kernel
theorem dX11_enabledMethods_14 : decode cX11_enabledMethods 14 = .ok (.istore_n 2, 1) := by decide +kernel
theorem dX11_enabledMethods_15 : decode cX11_enabledMethods 15 = .ok (.iconst 0, 1) := by decide +kernel
theorem dX11_enabledMethods_16 : decode cX11_enabledMethods 16 = .ok (.istore_n 3, 1) := by decide +kernel
theorem dX11_enabledMethods_17 : decode cX11_enabledMethods 17 = .ok (.iload_n 3, 1) := by decide +kernel
theorem dX11_enabledMethods_18 : decode cX11_enabledMethods 18 = .ok (.aload_n 0, 1) := by decide +kernel
theorem dX11_enabledMethods_19 : decode cX11_enabledMethods 19 = .ok (.getfield 26, 3) := by decide +kernel
theorem dX11_enabledMethods_22 : decode cX11_enabledMethods 22 = .ok (.getfield 91, 3) := by decide +kernel
theorem dX11_enabledMethods_25 : decode cX11_enabledMethods 25 = .ok (.getfield 80, 3) := by decide +kernel
theorem dX11_enabledMethods_28 : decode cX11_enabledMethods 28 = .ok (.invokevirtual 86, 3) := by decide +kernel
theorem dX11_enabledMethods_31 : decode cX11_enabledMethods 31 = .ok (.if_icmp .ge 38, 3) := by decide +kernel
theorem dX11_enabledMethods_34 : decode cX11_enabledMethods 34 = .ok (.aload_n 0, 1) := by decide +kernel
theorem dX11_enabledMethods_35 : decode cX11_enabledMethods 35 = .ok (.getfield 26, 3) := by decide +kernel
theorem dX11_enabledMethods_38 : decode cX11_enabledMethods 38 = .ok (.getfield 91, 3) := by decide +kernel
theorem dX11_enabledMethods_41 : decode cX11_enabledMethods 41 = .ok (.iload_n 3, 1) := by decide +kernel
theorem dX11_enabledMethods_42 : decode cX11_enabledMethods 42 = .ok (.aload_n 0, 1) := by decide +kernel
theorem dX11_enabledMethods_43 : decode cX11_enabledMethods 43 = .ok (.getfield 26, 3) := by decide +kernel
theorem dX11_enabledMethods_46 : decode cX11_enabledMethods 46 = .ok (.getfield 186, 3) := by decide +kernel
theorem dX11_enabledMethods_49 : decode cX11_enabledMethods 49 = .ok (.iload_n 1, 1) := by decide +kernel
theorem dX11_enabledMethods_50 : decode cX11_enabledMethods 50 = .ok (.aaload, 1) := by decide +kernel
theorem dX11_enabledMethods_51 : decode cX11_enabledMethods 51 = .ok (.invokevirtual 190, 3) := by decide +kernel
theorem dX11_enabledMethods_54 : decode cX11_enabledMethods 54 = .ok (.ifCond .eq 9, 3) := by decide +kernel
theorem dX11_enabledMethods_57 : decode cX11_enabledMethods 57 = .ok (.iload_n 2, 1) := by decide +kernel
theorem dX11_enabledMethods_58 : decode cX11_enabledMethods 58 = .ok (.iconst 1, 1) := by decide +kernel
theorem dX11_enabledMethods_59 : decode cX11_enabledMethods 59 = .ok (.iload_n 3, 1) := by decide +kernel
theorem dX11_enabledMethods_60 : decode cX11_enabledMethods 60 = .ok (.ishl, 1) := by decide +kernel
theorem dX11_enabledMethods_61 : decode cX11_enabledMethods 61 = .ok (.ior, 1) := by decide +kernel
theorem dX11_enabledMethods_62 : decode cX11_enabledMethods 62 = .ok (.istore_n 2, 1) := by decide +kernel
theorem dX11_enabledMethods_63 : decode cX11_enabledMethods 63 = .ok (.iinc 3 1, 3) := by decide +kernel
theorem dX11_enabledMethods_66 : decode cX11_enabledMethods 66 = .ok (.goto (-49), 3) := by decide +kernel
theorem dX11_enabledMethods_69 : decode cX11_enabledMethods 69 = .ok (.iload_n 2, 1) := by decide +kernel
theorem dX11_enabledMethods_70 : decode cX11_enabledMethods 70 = .ok (.ireturn, 1) := by decide +kernel
set_option maxRecDepth 20000 in
theorem ggX11_findState_X3_sequenceWithState : GoodIn wsX11_findState wsX3_sequenceWithState := goodIn_r _ [6, 7, 8, 9, 10, 5, 11, 12, 13, 14, 15, 16, 17, 18, 19, 20, 29, 30, 31, 32, 33, 34, 35, 36, 37, 38, 39, 40, 41, 42, 43, 44] (by decide +kernel) (by decide +kernel)
set_option maxRecDepth 20000 in
theorem gX11_findState_X3_sequenceWithState : GoodIn wsX11_findState (wsV RX11 194 RX3 yX3_sequenceWithState wsX3_sequenceWithState) := goodIn_app (goodIn_of _ (by decide +kernel)) ggX11_findState_X3_sequenceWithState
theorem dX11_findState_0 : decode cX11_findState 0 = .ok (.aload_n 0, 1) := by decide +kernel
theorem dX11_findState_1 : decode cX11_findState 1 = .ok (.getfield 26, 3) := by decide +kernel
theorem dX11_findState_4 : decode cX11_findState 4 = .ok (.iload_n 1, 1) := by decide +kernel
theorem dX11_findState_5 : decode cX11_findState 5 = .ok (.iload_n 2, 1) := by decide +kernel
theorem dX11_findState_6 : decode cX11_findState 6 = .ok (.iload_n 3, 1) := by decide +kernel
theorem dX11_findState_7 : decode cX11_findState 7 = .ok (.invokevirtual 194, 3) := by decide +kernel
theorem dX11_findState_10 : decode cX11_findState 10 = .ok (.ireturn, 1) := by decide +kernel
theorem dX11_failureCount_0 : decode cX11_failureCount 0 = .ok (.aload_n 0, 1) := by decide +kernel
theorem dX11_failureCount_1 : decode cX11_failureCount 1 = .ok (.getfield 26, 3) := by decide +kernel
theorem dX11_failureCount_4 : decode cX11_failureCount 4 = .ok (.getfield 198, 3) := by decide +kernel
theorem dX11_failureCount_7 : decode cX11_failureCount 7 = .ok (.ireturn, 1) := by decide +kernel
set_option maxRecDepth 20000 in
theorem ggX11_failureLength_X3_hasFailure : GoodIn wsX11_failureLength wsX3_hasFailure := goodIn_r _ [6, 7, 16, 17, 18, 19, 20, 21, 22, 23, 24, 25, 26, 27, 28] (by decide +kernel) (by decide +kernel)
set_option maxRecDepth 20000 in
theorem gX11_failureLength_X3_hasFailure : GoodIn wsX11_failureLength (wsV RX11 201 RX3 yX3_hasFailure wsX3_hasFailure) := goodIn_app (goodIn_of _ (by decide +kernel)) ggX11_failureLength_X3_hasFailure
theorem dX11_failureLength_0 : decode cX11_failureLength 0 = .ok (.aload_n 0, 1) := by decide +kernel
theorem dX11_failureLength_1 : decode cX11_failureLength 1 = .ok (.getfield 26, 3) := by decide +kernel
theorem dX11_failureLength_4 : decode cX11_failureLength 4 = .ok (.iload_n 1, 1) := by decide +kernel
theorem dX11_failureLength_5 : decode cX11_failureLength 5 = .ok (.invokevirtual 201, 3) := by decide +kernel
theorem dX11_failureLength_8 : decode cX11_failureLength 8 = .ok (.ifCond .ne 5, 3) := by decide +kernel
theorem dX11_failureLength_11 : decode cX11_failureLength 11 = .ok (.iconst (-1), 1) := by decide +kernel
theorem dX11_failureLength_12 : decode cX11_failureLength 12 = .ok (.ireturn, 1) := by decide +kernel
theorem dX11_failureLength_13 : decode cX11_failureLength 13 = .ok (.aload_n 0, 1) := by decide +kernel
theorem dX11_failureLength_14 : decode cX11_failureLength 14 = .ok (.getfield 26, 3) := by decide +kernel
theorem dX11_failureLength_17 : decode cX11_failureLength 17 = .ok (.getfield 204, 3) := by decide +kernel
theorem dX11_failureLength_20 : decode cX11_failureLength 20 = .ok (.iload_n 1, 1) := by decide +kernel
theorem dX11_failureLength_21 : decode cX11_failureLength 21 = .ok (.aaload, 1) := by decide +kernel
theorem dX11_failureLength_22 : decode cX11_failureLength 22 = .ok (.getfield 181, 3) := by decide +kernel
theorem dX11_failureLength_25 : decode cX11_failureLength 25 = .ok (.ireturn, 1) := by decide +kernel
set_option maxRecDepth 20000 in
theorem ggX11_failureVerdict_X3_hasFailure : GoodIn wsX11_failureVerdict wsX3_hasFailure := goodIn_r _ [6, 7, 16, 17, 18, 19, 20, 21, 22, 23, 24, 25, 26, 27, 28] (by decide +kernel) (by decide +kernel)
set_option maxRecDepth 20000 in
theorem gX11_failureVerdict_X3_hasFailure : GoodIn wsX11_failureVerdict (wsV RX11 201 RX3 yX3_hasFailure wsX3_hasFailure) := goodIn_app (goodIn_of _ (by decide +kernel)) ggX11_failureVerdict_X3_hasFailure
theorem dX11_failureVerdict_0 : decode cX11_failureVerdict 0 = .ok (.aload_n 0, 1) := by decide +kernel
theorem dX11_failureVerdict_1 : decode cX11_failureVerdict 1 = .ok (.getfield 26, 3) := by decide +kernel
theorem dX11_failureVerdict_4 : decode cX11_failureVerdict 4 = .ok (.iload_n 1, 1) := by decide +kernel
theorem dX11_failureVerdict_5 : decode cX11_failureVerdict 5 = .ok (.invokevirtual 201, 3) := by decide +kernel
theorem dX11_failureVerdict_8 : decode cX11_failureVerdict 8 = .ok (.ifCond .ne 5, 3) := by decide +kernel
theorem dX11_failureVerdict_11 : decode cX11_failureVerdict 11 = .ok (.iconst (-1), 1) := by decide +kernel
theorem dX11_failureVerdict_12 : decode cX11_failureVerdict 12 = .ok (.ireturn, 1) := by decide +kernel
theorem dX11_failureVerdict_13 : decode cX11_failureVerdict 13 = .ok (.aload_n 0, 1) := by decide +kernel
theorem dX11_failureVerdict_14 : decode cX11_failureVerdict 14 = .ok (.getfield 26, 3) := by decide +kernel
theorem dX11_failureVerdict_17 : decode cX11_failureVerdict 17 = .ok (.getfield 207, 3) := by decide +kernel
theorem dX11_failureVerdict_20 : decode cX11_failureVerdict 20 = .ok (.iload_n 1, 1) := by decide +kernel
theorem dX11_failureVerdict_21 : decode cX11_failureVerdict 21 = .ok (.iaload, 1) := by decide +kernel
theorem dX11_failureVerdict_22 : decode cX11_failureVerdict 22 = .ok (.ireturn, 1) := by decide +kernel
set_option maxRecDepth 20000 in
theorem ggX11_minimizedLength_X3_hasFailure : GoodIn wsX11_minimizedLength wsX3_hasFailure := goodIn_r _ [7, 8, 131, 132, 133, 134, 135, 136, 137, 138, 139, 140, 141, 142, 143] (by decide +kernel) (by decide +kernel)
set_option maxRecDepth 20000 in
theorem gX11_minimizedLength_X3_hasFailure : GoodIn wsX11_minimizedLength (wsV RX11 201 RX3 yX3_hasFailure wsX3_hasFailure) := goodIn_app (goodIn_of _ (by decide +kernel)) ggX11_minimizedLength_X3_hasFailure
set_option maxRecDepth 20000 in
theorem ggX11_minimizedLength_X11_minimize : GoodIn wsX11_minimizedLength wsX11_minimize := goodIn_r _ [13, 2, 14, 15, 16, 17, 18, 19, 20, 21, 22, 23, 24, 25, 26, 27, 28, 29, 30, 31, 32, 33, 34, 35, 12, 36, 37, 38, 39, 40, 41, 42, 1, 43, 44, 45, 46, 47, 48, 49, 50, 51, 52, 53, 54, 55, 56, 57, 58, 59, 60, 61, 62, 63, 64, 65, 66, 67, 68, 69, 70, 71, 72, 73, 74, 75, 76, 77, 78, 79, 80, 81, 82, 83, 84, 85, 86, 87, 88, 89, 90, 91, 92, 93, 94, 95, 96, 97, 98, 99, 100, 101, 102, 103, 104, 105, 106, 107, 108, 109, 110, 111, 112, 113, 114, 115, 116, 117, 118, 119, 120, 121, 122, 123, 124, 125, 126, 127, 128, 129, 130, 144, 145, 131, 132, 133, 134, 135, 136, 137, 138, 139, 140, 141, 142, 143, 146, 147, 148, 149, 150, 151, 152, 153, 154, 155, 156, 157, 158, 159, 160, 161, 162, 163, 164, 165, 166] (by decide +kernel) (by decide +kernel)
set_option maxRecDepth 20000 in
theorem gX11_minimizedLength_X11_minimize : GoodIn wsX11_minimizedLength (wsV RX11 211 RX11 yX11_minimize wsX11_minimize) := goodIn_app (goodIn_of _ (by decide +kernel)) ggX11_minimizedLength_X11_minimize
theorem dX11_minimizedLength_0 : decode cX11_minimizedLength 0 = .ok (.aload_n 0, 1) := by decide +kernel
theorem dX11_minimizedLength_1 : decode cX11_minimizedLength 1 = .ok (.getfield 26, 3) := by decide +kernel
theorem dX11_minimizedLength_4 : decode cX11_minimizedLength 4 = .ok (.iload_n 1, 1) := by decide +kernel
theorem dX11_minimizedLength_5 : decode cX11_minimizedLength 5 = .ok (.invokevirtual 201, 3) := by decide +kernel
theorem dX11_minimizedLength_8 : decode cX11_minimizedLength 8 = .ok (.ifCond .ne 5, 3) := by decide +kernel
theorem dX11_minimizedLength_11 : decode cX11_minimizedLength 11 = .ok (.iconst (-1), 1) := by decide +kernel
theorem dX11_minimizedLength_12 : decode cX11_minimizedLength 12 = .ok (.ireturn, 1) := by decide +kernel
theorem dX11_minimizedLength_13 : decode cX11_minimizedLength 13 = .ok (.aload_n 0, 1) := by decide +kernel
theorem dX11_minimizedLength_14 : decode cX11_minimizedLength 14 = .ok (.aload_n 0, 1) := by decide +kernel
theorem dX11_minimizedLength_15 : decode cX11_minimizedLength 15 = .ok (.getfield 26, 3) := by decide +kernel
theorem dX11_minimizedLength_18 : decode cX11_minimizedLength 18 = .ok (.getfield 204, 3) := by decide +kernel
theorem dX11_minimizedLength_21 : decode cX11_minimizedLength 21 = .ok (.iload_n 1, 1) := by decide +kernel
theorem dX11_minimizedLength_22 : decode cX11_minimizedLength 22 = .ok (.aaload, 1) := by decide +kernel
theorem dX11_minimizedLength_23 : decode cX11_minimizedLength 23 = .ok (.aload_n 0, 1) := by decide +kernel
theorem dX11_minimizedLength_24 : decode cX11_minimizedLength 24 = .ok (.getfield 26, 3) := by decide +kernel
theorem dX11_minimizedLength_27 : decode cX11_minimizedLength 27 = .ok (.getfield 207, 3) := by decide +kernel
theorem dX11_minimizedLength_30 : decode cX11_minimizedLength 30 = .ok (.iload_n 1, 1) := by decide +kernel
theorem dX11_minimizedLength_31 : decode cX11_minimizedLength 31 = .ok (.iaload, 1) := by decide +kernel
theorem dX11_minimizedLength_32 : decode cX11_minimizedLength 32 = .ok (.invokevirtual 211, 3) := by decide +kernel
theorem dX11_minimizedLength_35 : decode cX11_minimizedLength 35 = .ok (.aload_n 0, 1) := by decide +kernel
theorem dX11_minimizedLength_36 : decode cX11_minimizedLength 36 = .ok (.getfield 50, 3) := by decide +kernel
theorem dX11_minimizedLength_39 : decode cX11_minimizedLength 39 = .ok (.getfield 181, 3) := by decide +kernel
theorem dX11_minimizedLength_42 : decode cX11_minimizedLength 42 = .ok (.ireturn, 1) := by decide +kernel
set_option maxRecDepth 20000 in
theorem ggX11_replaceComponent_X4_remember : GoodIn wsX11_replaceComponent wsX4_remember := goodIn_r _ [7, 8, 9, 10, 11, 12, 13, 14, 15, 16, 17, 18, 19, 20, 21, 22, 23, 24, 25, 26, 27, 28, 29, 30, 31, 32, 33, 34, 35, 36, 37, 38, 39, 40, 41, 42, 43, 44, 45, 46, 47, 48, 49, 50, 51, 52, 53, 54, 80, 81, 82, 67, 68, 69, 70, 71, 72, 73, 74, 75, 76, 77, 78, 79, 83, 84, 85, 86, 87] (by decide +kernel) (by decide +kernel)
set_option maxRecDepth 20000 in
theorem gX11_replaceComponent_X4_remember : GoodIn wsX11_replaceComponent (wsV RX11 131 RX4 yX4_remember wsX4_remember) := goodIn_app (goodIn_of _ (by decide +kernel)) ggX11_replaceComponent_X4_remember
set_option maxRecDepth 20000 in
theorem ggX11_replaceComponent_X3_restart : GoodIn wsX11_replaceComponent wsX3_restart := goodIn_r _ [58, 19, 16, 20, 21, 24, 25, 26, 27, 47, 48, 49, 50, 51, 52, 53, 54, 67, 68, 69, 70, 71, 72, 73, 74, 75, 76, 77, 78, 79, 88, 89, 90, 85, 86, 87] (by decide +kernel) (by decide +kernel)
set_option maxRecDepth 20000 in
theorem gX11_replaceComponent_X3_restart : GoodIn wsX11_replaceComponent (wsV RX11 152 RX3 yX3_restart wsX3_restart) := goodIn_app (goodIn_of _ (by decide +kernel)) ggX11_replaceComponent_X3_restart
theorem dX11_replaceComponent_0 : decode cX11_replaceComponent 0 = .ok (.aload_n 0, 1) := by decide +kernel
theorem dX11_replaceComponent_1 : decode cX11_replaceComponent 1 = .ok (.getfield 33, 3) := by decide +kernel
theorem dX11_replaceComponent_4 : decode cX11_replaceComponent 4 = .ok (.aload_n 0, 1) := by decide +kernel
theorem dX11_replaceComponent_5 : decode cX11_replaceComponent 5 = .ok (.getfield 26, 3) := by decide +kernel
theorem dX11_replaceComponent_8 : decode cX11_replaceComponent 8 = .ok (.invokevirtual 131, 3) := by decide +kernel
theorem dX11_replaceComponent_11 : decode cX11_replaceComponent 11 = .ok (.aload_n 0, 1) := by decide +kernel
theorem dX11_replaceComponent_12 : decode cX11_replaceComponent 12 = .ok (.getfield 26, 3) := by decide +kernel
theorem dX11_replaceComponent_15 : decode cX11_replaceComponent 15 = .ok (.aload_n 1, 1) := by decide +kernel
theorem dX11_replaceComponent_16 : decode cX11_replaceComponent 16 = .ok (.putfield 91, 3) := by decide +kernel
theorem dX11_replaceComponent_19 : decode cX11_replaceComponent 19 = .ok (.aload_n 0, 1) := by decide +kernel
theorem dX11_replaceComponent_20 : decode cX11_replaceComponent 20 = .ok (.getfield 26, 3) := by decide +kernel
theorem dX11_replaceComponent_23 : decode cX11_replaceComponent 23 = .ok (.invokevirtual 152, 3) := by decide +kernel
theorem dX11_replaceComponent_26 : decode cX11_replaceComponent 26 = .ok (.return_, 1) := by decide +kernel
set_option maxRecDepth 20000 in
theorem ggX11_firstVerdictInText_X10_copyFrom : GoodIn wsX11_firstVerdictInText wsX10_copyFrom := goodIn_r _ [8, 9, 10, 11, 134, 135, 136] (by decide +kernel) (by decide +kernel)
set_option maxRecDepth 20000 in
theorem gX11_firstVerdictInText_X10_copyFrom : GoodIn wsX11_firstVerdictInText (wsV RX11 215 RX10 yX10_copyFrom wsX10_copyFrom) := goodIn_app (goodIn_of _ (by decide +kernel)) ggX11_firstVerdictInText_X10_copyFrom
set_option maxRecDepth 20000 in
theorem ggX11_firstVerdictInText_J4_length_8abf5 : GoodIn wsX11_firstVerdictInText wsJ4_length_8abf5 := goodIn_r _ [16, 17, 18, 19, 20, 21, 22, 23, 137, 138, 139, 140] (by decide +kernel) (by decide +kernel)
set_option maxRecDepth 20000 in
theorem gX11_firstVerdictInText_J4_length_8abf5 : GoodIn wsX11_firstVerdictInText (wsV RX11 57 RJ4 yJ4_length_8abf5 wsJ4_length_8abf5) := goodIn_app (goodIn_of _ (by decide +kernel)) ggX11_firstVerdictInText_J4_length_8abf5
set_option maxRecDepth 20000 in
theorem ggX11_firstVerdictInText_J4_charAt_5068e : GoodIn wsX11_firstVerdictInText wsJ4_charAt_5068e := goodIn_r _ [27, 28, 29, 19, 30, 21, 31, 32, 33, 23, 34, 35, 36, 37, 38, 39, 40, 41, 42, 43, 44, 45, 46, 47, 48, 49, 50, 51, 52, 53, 54, 55, 56, 137, 138, 139, 140] (by decide +kernel) (by decide +kernel)
set_option maxRecDepth 20000 in
theorem gX11_firstVerdictInText_J4_charAt_5068e : GoodIn wsX11_firstVerdictInText (wsV RX11 123 RJ4 yJ4_charAt_5068e wsJ4_charAt_5068e) := goodIn_app (goodIn_of _ (by decide +kernel)) ggX11_firstVerdictInText_J4_charAt_5068e
set_option maxRecDepth 20000 in
theorem ggX11_firstVerdictInText_X1_verdictOfCall : GoodIn wsX11_firstVerdictInText wsX1_verdictOfCall := goodIn_r _ [61, 62, 63, 64, 65, 66, 67, 68, 60, 69, 70, 71, 72, 73, 74, 75, 76, 77, 78, 79, 80, 81, 82, 83, 84, 44, 45, 46, 85, 86, 87, 88, 89, 90, 91, 92, 93, 94, 95, 96, 97, 98, 99, 100, 101, 102, 103, 104, 105, 106, 107, 108, 109, 5, 6, 7, 8, 9, 10, 11, 110, 111, 112, 113, 114, 115, 116, 117, 118, 119, 120, 121, 122, 131, 132, 133, 141, 142, 143, 144, 145, 146, 147, 148, 149, 150, 151, 152, 153, 154, 155, 134, 135, 136] (by decide +kernel) (by decide +kernel)
set_option maxRecDepth 20000 in
theorem gX11_firstVerdictInText_X1_verdictOfCall : GoodIn wsX11_firstVerdictInText (wsV RX11 219 RX1 yX1_verdictOfCall wsX1_verdictOfCall) := goodIn_app (goodIn_of _ (by decide +kernel)) ggX11_firstVerdictInText_X1_verdictOfCall
theorem dX11_firstVerdictInText_0 : decode cX11_firstVerdictInText 0 = .ok (.aload_n 0, 1) := by decide +kernel
theorem dX11_firstVerdictInText_1 : decode cX11_firstVerdictInText 1 = .ok (.getfield 40, 3) := by decide +kernel
theorem dX11_firstVerdictInText_4 : decode cX11_firstVerdictInText 4 = .ok (.aload_n 1, 1) := by decide +kernel
theorem dX11_firstVerdictInText_5 : decode cX11_firstVerdictInText 5 = .ok (.getfield 95, 3) := by decide +kernel
theorem dX11_firstVerdictInText_8 : decode cX11_firstVerdictInText 8 = .ok (.invokevirtual 215, 3) := by decide +kernel
theorem dX11_firstVerdictInText_11 : decode cX11_firstVerdictInText 11 = .ok (.iconst 0, 1) := by decide +kernel
theorem dX11_firstVerdictInText_12 : decode cX11_firstVerdictInText 12 = .ok (.istore_n 2, 1) := by decide +kernel
theorem dX11_firstVerdictInText_13 : decode cX11_firstVerdictInText 13 = .ok (.iload_n 2, 1) := by decide +kernel
theorem dX11_firstVerdictInText_14 : decode cX11_firstVerdictInText 14 = .ok (.aload_n 0, 1) := by decide +kernel
theorem dX11_firstVerdictInText_15 : decode cX11_firstVerdictInText 15 = .ok (.getfield 10, 3) := by decide +kernel
theorem dX11_firstVerdictInText_18 : decode cX11_firstVerdictInText 18 = .ok (.invokevirtual 57, 3) := by decide +kernel
theorem dX11_firstVerdictInText_21 : decode cX11_firstVerdictInText 21 = .ok (.if_icmp .ge 55, 3) := by decide +kernel
theorem dX11_firstVerdictInText_24 : decode cX11_firstVerdictInText 24 = .ok (.aload_n 1, 1) := by decide +kernel
theorem dX11_firstVerdictInText_25 : decode cX11_firstVerdictInText 25 = .ok (.aload_n 0, 1) := by decide +kernel
theorem dX11_firstVerdictInText_26 : decode cX11_firstVerdictInText 26 = .ok (.getfield 10, 3) := by decide +kernel
theorem dX11_firstVerdictInText_29 : decode cX11_firstVerdictInText 29 = .ok (.iload_n 2, 1) := by decide +kernel
theorem dX11_firstVerdictInText_30 : decode cX11_firstVerdictInText 30 = .ok (.invokevirtual 123, 3) := by decide +kernel
theorem dX11_firstVerdictInText_33 : decode cX11_firstVerdictInText 33 = .ok (.bipush 48, 2) := by decide +kernel
theorem dX11_firstVerdictInText_35 : decode cX11_firstVerdictInText 35 = .ok (.isub, 1) := by decide +kernel
theorem dX11_firstVerdictInText_36 : decode cX11_firstVerdictInText 36 = .ok (.aload_n 0, 1) := by decide +kernel
theorem dX11_firstVerdictInText_37 : decode cX11_firstVerdictInText 37 = .ok (.getfield 40, 3) := by decide +kernel
theorem dX11_firstVerdictInText_40 : decode cX11_firstVerdictInText 40 = .ok (.aload_n 0, 1) := by decide +kernel
theorem dX11_firstVerdictInText_41 : decode cX11_firstVerdictInText 41 = .ok (.getfield 44, 3) := by decide +kernel
theorem dX11_firstVerdictInText_44 : decode cX11_firstVerdictInText 44 = .ok (.invokevirtual 219, 3) := by decide +kernel
theorem dX11_firstVerdictInText_47 : decode cX11_firstVerdictInText 47 = .ok (.istore_n 3, 1) := by decide +kernel
theorem dX11_firstVerdictInText_48 : decode cX11_firstVerdictInText 48 = .ok (.iload_n 3, 1) := by decide +kernel
theorem dX11_firstVerdictInText_49 : decode cX11_firstVerdictInText 49 = .ok (.ifCond .eq 10, 3) := by decide +kernel
theorem dX11_firstVerdictInText_52 : decode cX11_firstVerdictInText 52 = .ok (.bipush 10, 2) := by decide +kernel
theorem dX11_firstVerdictInText_54 : decode cX11_firstVerdictInText 54 = .ok (.iload_n 2, 1) := by decide +kernel
theorem dX11_firstVerdictInText_55 : decode cX11_firstVerdictInText 55 = .ok (.imul, 1) := by decide +kernel
theorem dX11_firstVerdictInText_56 : decode cX11_firstVerdictInText 56 = .ok (.iload_n 3, 1) := by decide +kernel
theorem dX11_firstVerdictInText_57 : decode cX11_firstVerdictInText 57 = .ok (.iadd, 1) := by decide +kernel
theorem dX11_firstVerdictInText_58 : decode cX11_firstVerdictInText 58 = .ok (.ireturn, 1) := by decide +kernel
theorem dX11_firstVerdictInText_59 : decode cX11_firstVerdictInText 59 = .ok (.aload_n 0, 1) := by decide +kernel
theorem dX11_firstVerdictInText_60 : decode cX11_firstVerdictInText 60 = .ok (.getfield 40, 3) := by decide +kernel
theorem dX11_firstVerdictInText_63 : decode cX11_firstVerdictInText 63 = .ok (.aload_n 0, 1) := by decide +kernel
theorem dX11_firstVerdictInText_64 : decode cX11_firstVerdictInText 64 = .ok (.getfield 44, 3) := by decide +kernel
theorem dX11_firstVerdictInText_67 : decode cX11_firstVerdictInText 67 = .ok (.invokevirtual 215, 3) := by decide +kernel
theorem dX11_firstVerdictInText_70 : decode cX11_firstVerdictInText 70 = .ok (.iinc 2 1, 3) := by decide +kernel
theorem dX11_firstVerdictInText_73 : decode cX11_firstVerdictInText 73 = .ok (.goto (-60), 3) := by decide +kernel
theorem dX11_firstVerdictInText_76 : decode cX11_firstVerdictInText 76 = .ok (.iconst 0, 1) := by decide +kernel
theorem dX11_firstVerdictInText_77 : decode cX11_firstVerdictInText 77 = .ok (.ireturn, 1) := by decide +kernel
set_option maxRecDepth 20000 in
theorem ggX11_minimize_X9_copyFrom : GoodIn wsX11_minimize wsX9_copyFrom := goodIn_r _ [6, 7, 8, 9, 5, 10, 11, 12, 13, 14, 15, 16, 17, 18, 19, 20, 121, 122] (by decide +kernel) (by decide +kernel)
set_option maxRecDepth 20000 in
theorem gX11_minimize_X9_copyFrom : GoodIn wsX11_minimize (wsV RX11 223 RX9 yX9_copyFrom wsX9_copyFrom) := goodIn_app (goodIn_of _ (by decide +kernel)) ggX11_minimize_X9_copyFrom
set_option maxRecDepth 20000 in
theorem ggX11_minimize_X11_dropOneCall : GoodIn wsX11_minimize wsX11_dropOneCall := goodIn_r _ [25, 1, 26, 27, 8, 9, 5, 10, 11, 12, 13, 14, 15, 16, 17, 18, 19, 20, 28, 29, 30, 24, 31, 32, 33, 34, 35, 36, 37, 38, 39, 40, 41, 42, 43, 44, 45, 46, 47, 48, 49, 50, 51, 52, 53, 54, 55, 56, 57, 58, 59, 60, 61, 62, 63, 64, 65, 66, 67, 68, 69, 70, 71, 72, 73, 74, 75, 76, 77, 78, 79, 80, 81, 82, 83, 84, 85, 86, 87, 88, 89, 90, 91, 92, 93, 94, 95, 96, 97, 98, 99, 100, 101, 102, 103, 104, 105, 106, 107, 108, 109, 110, 111, 112, 2, 3, 4, 6, 7, 113, 114, 115, 116, 117, 118, 119, 120, 121, 122, 123, 124, 125, 126, 127, 128, 129, 130, 131, 132, 133, 134, 135, 136, 137, 138, 139, 140, 141, 142, 143, 144, 145, 146, 147, 148, 149, 150, 151, 152, 153, 154, 155, 156] (by decide +kernel) (by decide +kernel)
set_option maxRecDepth 20000 in
theorem gX11_minimize_X11_dropOneCall : GoodIn wsX11_minimize (wsV RX11 226 RX11 yX11_dropOneCall wsX11_dropOneCall) := goodIn_app (goodIn_of _ (by decide +kernel)) ggX11_minimize_X11_dropOneCall
theorem dX11_minimize_0 : decode cX11_minimize 0 = .ok (.aload_n 0, 1) := by decide +kernel
theorem dX11_minimize_1 : decode cX11_minimize 1 = .ok (.getfield 50, 3) := by decide +kernel
theorem dX11_minimize_4 : decode cX11_minimize 4 = .ok (.aload_n 1, 1) := by decide +kernel
theorem dX11_minimize_5 : decode cX11_minimize 5 = .ok (.invokevirtual 223, 3) := by decide +kernel
theorem dX11_minimize_8 : decode cX11_minimize 8 = .ok (.iconst 1, 1) := by decide +kernel
theorem dX11_minimize_9 : decode cX11_minimize 9 = .ok (.istore_n 3, 1) := by decide +kernel
theorem dX11_minimize_10 : decode cX11_minimize 10 = .ok (.iconst 0, 1) := by decide +kernel
theorem dX11_minimize_11 : decode cX11_minimize 11 = .ok (.istore 4, 2) := by decide +kernel
theorem dX11_minimize_13 : decode cX11_minimize 13 = .ok (.iload 4, 2) := by decide +kernel
theorem dX11_minimize_15 : decode cX11_minimize 15 = .ok (.bipush 8, 2) := by decide +kernel
theorem dX11_minimize_17 : decode cX11_minimize 17 = .ok (.if_icmp .ge 19, 3) := by decide +kernel
theorem dX11_minimize_20 : decode cX11_minimize 20 = .ok (.iload_n 3, 1) := by decide +kernel
theorem dX11_minimize_21 : decode cX11_minimize 21 = .ok (.ifCond .eq 15, 3) := by decide +kernel
theorem dX11_minimize_24 : decode cX11_minimize 24 = .ok (.aload_n 0, 1) := by decide +kernel
theorem dX11_minimize_25 : decode cX11_minimize 25 = .ok (.iload_n 2, 1) := by decide +kernel
theorem dX11_minimize_26 : decode cX11_minimize 26 = .ok (.invokevirtual 226, 3) := by decide +kernel
theorem dX11_minimize_29 : decode cX11_minimize 29 = .ok (.istore_n 3, 1) := by decide +kernel
theorem dX11_minimize_30 : decode cX11_minimize 30 = .ok (.iinc 4 1, 3) := by decide +kernel
theorem dX11_minimize_33 : decode cX11_minimize 33 = .ok (.goto (-20), 3) := by decide +kernel
theorem dX11_minimize_36 : decode cX11_minimize 36 = .ok (.return_, 1) := by decide +kernel
set_option maxRecDepth 20000 in
theorem ggX11_dropOneCall_X9_copyWithout : GoodIn wsX11_dropOneCall wsX9_copyWithout := goodIn_r _ [7, 8, 9, 10, 11, 6, 12, 13, 14, 15, 16, 17, 117, 118] (by decide +kernel) (by decide +kernel)
set_option maxRecDepth 20000 in
theorem gX11_dropOneCall_X9_copyWithout : GoodIn wsX11_dropOneCall (wsV RX11 229 RX9 yX9_copyWithout wsX9_copyWithout) := goodIn_app (goodIn_of _ (by decide +kernel)) ggX11_dropOneCall_X9_copyWithout
set_option maxRecDepth 20000 in
theorem ggX11_dropOneCall_X11_endsWithVerdict : GoodIn wsX11_dropOneCall wsX11_endsWithVerdict := goodIn_r _ [22, 23, 24, 25, 26, 27, 28, 29, 30, 31, 32, 33, 34, 10, 11, 6, 12, 8, 13, 35, 36, 37, 38, 39, 40, 41, 42, 43, 44, 45, 46, 47, 48, 49, 50, 51, 52, 53, 54, 55, 56, 57, 58, 59, 60, 61, 62, 63, 64, 65, 66, 67, 68, 69, 70, 71, 72, 73, 74, 75, 76, 77, 78, 79, 80, 81, 82, 83, 84, 85, 86, 87, 88, 89, 90, 91, 92, 93, 94, 95, 96, 97, 98, 99, 100, 101, 102, 103, 109, 110, 111, 112, 113, 114, 115, 116, 119, 120, 121, 122, 123, 124, 125, 126, 127, 128, 129, 130, 131, 132, 133, 134, 117, 118, 135, 136, 137, 138, 139, 140, 141, 142, 143, 144, 145, 146, 147, 148, 149, 150, 151, 152] (by decide +kernel) (by decide +kernel)
set_option maxRecDepth 20000 in
theorem gX11_dropOneCall_X11_endsWithVerdict : GoodIn wsX11_dropOneCall (wsV RX11 232 RX11 yX11_endsWithVerdict wsX11_endsWithVerdict) := goodIn_app (goodIn_of _ (by decide +kernel)) ggX11_dropOneCall_X11_endsWithVerdict
set_option maxRecDepth 20000 in
theorem ggX11_dropOneCall_X9_copyFrom : GoodIn wsX11_dropOneCall wsX9_copyFrom := goodIn_r _ [107, 108, 4, 5, 6, 7, 8, 9, 10, 11, 12, 13, 14, 15, 16, 17, 117, 118] (by decide +kernel) (by decide +kernel)
set_option maxRecDepth 20000 in
theorem gX11_dropOneCall_X9_copyFrom : GoodIn wsX11_dropOneCall (wsV RX11 223 RX9 yX9_copyFrom wsX9_copyFrom) := goodIn_app (goodIn_of _ (by decide +kernel)) ggX11_dropOneCall_X9_copyFrom
theorem dX11_dropOneCall_0 : decode cX11_dropOneCall 0 = .ok (.iconst 0, 1) := by decide +kernel
theorem dX11_dropOneCall_1 : decode cX11_dropOneCall 1 = .ok (.istore_n 2, 1) := by decide +kernel
theorem dX11_dropOneCall_2 : decode cX11_dropOneCall 2 = .ok (.iload_n 2, 1) := by decide +kernel
theorem dX11_dropOneCall_3 : decode cX11_dropOneCall 3 = .ok (.aload_n 0, 1) := by decide +kernel
theorem dX11_dropOneCall_4 : decode cX11_dropOneCall 4 = .ok (.getfield 50, 3) := by decide +kernel
theorem dX11_dropOneCall_7 : decode cX11_dropOneCall 7 = .ok (.getfield 181, 3) := by decide +kernel
theorem dX11_dropOneCall_10 : decode cX11_dropOneCall 10 = .ok (.iconst 1, 1) := by decide +kernel
theorem dX11_dropOneCall_11 : decode cX11_dropOneCall 11 = .ok (.isub, 1) := by decide +kernel
theorem dX11_dropOneCall_12 : decode cX11_dropOneCall 12 = .ok (.if_icmp .ge 46, 3) := by decide +kernel
theorem dX11_dropOneCall_15 : decode cX11_dropOneCall 15 = .ok (.aload_n 0, 1) := by decide +kernel
theorem dX11_dropOneCall_16 : decode cX11_dropOneCall 16 = .ok (.getfield 54, 3) := by decide +kernel
theorem dX11_dropOneCall_19 : decode cX11_dropOneCall 19 = .ok (.aload_n 0, 1) := by decide +kernel
theorem dX11_dropOneCall_20 : decode cX11_dropOneCall 20 = .ok (.getfield 50, 3) := by decide +kernel
theorem dX11_dropOneCall_23 : decode cX11_dropOneCall 23 = .ok (.iload_n 2, 1) := by decide +kernel
theorem dX11_dropOneCall_24 : decode cX11_dropOneCall 24 = .ok (.invokevirtual 229, 3) := by decide +kernel
theorem dX11_dropOneCall_27 : decode cX11_dropOneCall 27 = .ok (.aload_n 0, 1) := by decide +kernel
theorem dX11_dropOneCall_28 : decode cX11_dropOneCall 28 = .ok (.aload_n 0, 1) := by decide +kernel
theorem dX11_dropOneCall_29 : decode cX11_dropOneCall 29 = .ok (.getfield 54, 3) := by decide +kernel
theorem dX11_dropOneCall_32 : decode cX11_dropOneCall 32 = .ok (.iload_n 1, 1) := by decide +kernel
theorem dX11_dropOneCall_33 : decode cX11_dropOneCall 33 = .ok (.invokevirtual 232, 3) := by decide +kernel
theorem dX11_dropOneCall_36 : decode cX11_dropOneCall 36 = .ok (.ifCond .eq 16, 3) := by decide +kernel
theorem dX11_dropOneCall_39 : decode cX11_dropOneCall 39 = .ok (.aload_n 0, 1) := by decide +kernel
theorem dX11_dropOneCall_40 : decode cX11_dropOneCall 40 = .ok (.getfield 50, 3) := by decide +kernel
theorem dX11_dropOneCall_43 : decode cX11_dropOneCall 43 = .ok (.aload_n 0, 1) := by decide +kernel
theorem dX11_dropOneCall_44 : decode cX11_dropOneCall 44 = .ok (.getfield 54, 3) := by decide +kernel
theorem dX11_dropOneCall_47 : decode cX11_dropOneCall 47 = .ok (.invokevirtual 223, 3) := by decide +kernel
theorem dX11_dropOneCall_50 : decode cX11_dropOneCall 50 = .ok (.iconst 1, 1) := by decide +kernel
theorem dX11_dropOneCall_51 : decode cX11_dropOneCall 51 = .ok (.ireturn, 1) := by decide +kernel
theorem dX11_dropOneCall_52 : decode cX11_dropOneCall 52 = .ok (.iinc 2 1, 3) := by decide +kernel
theorem dX11_dropOneCall_55 : decode cX11_dropOneCall 55 = .ok (.goto (-53), 3) := by decide +kernel
theorem dX11_dropOneCall_58 : decode cX11_dropOneCall 58 = .ok (.iconst 0, 1) := by decide +kernel
theorem dX11_dropOneCall_59 : decode cX11_dropOneCall 59 = .ok (.ireturn, 1) := by decide +kernel
set_option maxRecDepth 20000 in
theorem ggX11_endsWithVerdict_X10_copyFrom : GoodIn wsX11_endsWithVerdict wsX10_copyFrom := goodIn_r _ [8, 9, 10, 11, 114, 115, 116] (by decide +kernel) (by decide +kernel)
set_option maxRecDepth 20000 in
theorem gX11_endsWithVerdict_X10_copyFrom : GoodIn wsX11_endsWithVerdict (wsV RX11 215 RX10 yX10_copyFrom wsX10_copyFrom) := goodIn_app (goodIn_of _ (by decide +kernel)) ggX11_endsWithVerdict_X10_copyFrom
set_option maxRecDepth 20000 in
theorem ggX11_endsWithVerdict_X9_callAt : GoodIn wsX11_endsWithVerdict wsX9_callAt := goodIn_r _ [16, 17, 18, 112, 113] (by decide +kernel) (by decide +kernel)
set_option maxRecDepth 20000 in
theorem gX11_endsWithVerdict_X9_callAt : GoodIn wsX11_endsWithVerdict (wsV RX11 183 RX9 yX9_callAt wsX9_callAt) := goodIn_app (goodIn_of _ (by decide +kernel)) ggX11_endsWithVerdict_X9_callAt
set_option maxRecDepth 20000 in
theorem ggX11_endsWithVerdict_X1_verdictOfCall : GoodIn wsX11_endsWithVerdict wsX1_verdictOfCall := goodIn_r _ [23, 24, 25, 26, 27, 28, 29, 30, 22, 31, 32, 33, 34, 35, 36, 37, 38, 39, 40, 41, 42, 43, 44, 45, 46, 47, 48, 49, 50, 51, 52, 53, 54, 55, 56, 57, 58, 59, 60, 61, 62, 63, 64, 65, 66, 67, 68, 69, 70, 71, 72, 73, 74, 5, 6, 7, 8, 9, 10, 11, 75, 76, 77, 78, 79, 80, 81, 82, 83, 84, 85, 86, 87, 109, 110, 111, 117, 118, 119, 120, 121, 122, 123, 124, 125, 126, 127, 128, 129, 130, 131, 114, 115, 116] (by decide +kernel) (by decide +kernel)
set_option maxRecDepth 20000 in
theorem gX11_endsWithVerdict_X1_verdictOfCall : GoodIn wsX11_endsWithVerdict (wsV RX11 219 RX1 yX1_verdictOfCall wsX1_verdictOfCall) := goodIn_app (goodIn_of _ (by decide +kernel)) ggX11_endsWithVerdict_X1_verdictOfCall
theorem dX11_endsWithVerdict_0 : decode cX11_endsWithVerdict 0 = .ok (.aload_n 0, 1) := by decide +kernel
theorem dX11_endsWithVerdict_1 : decode cX11_endsWithVerdict 1 = .ok (.getfield 26, 3) := by decide +kernel
theorem dX11_endsWithVerdict_4 : decode cX11_endsWithVerdict 4 = .ok (.getfield 91, 3) := by decide +kernel
theorem dX11_endsWithVerdict_7 : decode cX11_endsWithVerdict 7 = .ok (.astore_n 3, 1) := by decide +kernel
theorem dX11_endsWithVerdict_8 : decode cX11_endsWithVerdict 8 = .ok (.aload_n 0, 1) := by decide +kernel
theorem dX11_endsWithVerdict_9 : decode cX11_endsWithVerdict 9 = .ok (.getfield 40, 3) := by decide +kernel
theorem dX11_endsWithVerdict_12 : decode cX11_endsWithVerdict 12 = .ok (.aload_n 3, 1) := by decide +kernel
theorem dX11_endsWithVerdict_13 : decode cX11_endsWithVerdict 13 = .ok (.getfield 95, 3) := by decide +kernel
theorem dX11_endsWithVerdict_16 : decode cX11_endsWithVerdict 16 = .ok (.invokevirtual 215, 3) := by decide +kernel
theorem dX11_endsWithVerdict_19 : decode cX11_endsWithVerdict 19 = .ok (.aload_n 1, 1) := by decide +kernel
theorem dX11_endsWithVerdict_20 : decode cX11_endsWithVerdict 20 = .ok (.getfield 181, 3) := by decide +kernel
theorem dX11_endsWithVerdict_23 : decode cX11_endsWithVerdict 23 = .ok (.iconst 1, 1) := by decide +kernel
theorem dX11_endsWithVerdict_24 : decode cX11_endsWithVerdict 24 = .ok (.isub, 1) := by decide +kernel
theorem dX11_endsWithVerdict_25 : decode cX11_endsWithVerdict 25 = .ok (.istore 4, 2) := by decide +kernel
theorem dX11_endsWithVerdict_27 : decode cX11_endsWithVerdict 27 = .ok (.iconst 0, 1) := by decide +kernel
theorem dX11_endsWithVerdict_28 : decode cX11_endsWithVerdict 28 = .ok (.istore 5, 2) := by decide +kernel
theorem dX11_endsWithVerdict_30 : decode cX11_endsWithVerdict 30 = .ok (.iload 5, 2) := by decide +kernel
theorem dX11_endsWithVerdict_32 : decode cX11_endsWithVerdict 32 = .ok (.iload 4, 2) := by decide +kernel
theorem dX11_endsWithVerdict_34 : decode cX11_endsWithVerdict 34 = .ok (.if_icmp .ge 43, 3) := by decide +kernel
theorem dX11_endsWithVerdict_37 : decode cX11_endsWithVerdict 37 = .ok (.aload_n 3, 1) := by decide +kernel
theorem dX11_endsWithVerdict_38 : decode cX11_endsWithVerdict 38 = .ok (.aload_n 1, 1) := by decide +kernel
theorem dX11_endsWithVerdict_39 : decode cX11_endsWithVerdict 39 = .ok (.iload 5, 2) := by decide +kernel
theorem dX11_endsWithVerdict_41 : decode cX11_endsWithVerdict 41 = .ok (.invokevirtual 183, 3) := by decide +kernel
theorem dX11_endsWithVerdict_44 : decode cX11_endsWithVerdict 44 = .ok (.aload_n 0, 1) := by decide +kernel
theorem dX11_endsWithVerdict_45 : decode cX11_endsWithVerdict 45 = .ok (.getfield 40, 3) := by decide +kernel
theorem dX11_endsWithVerdict_48 : decode cX11_endsWithVerdict 48 = .ok (.aload_n 0, 1) := by decide +kernel
theorem dX11_endsWithVerdict_49 : decode cX11_endsWithVerdict 49 = .ok (.getfield 44, 3) := by decide +kernel
theorem dX11_endsWithVerdict_52 : decode cX11_endsWithVerdict 52 = .ok (.invokevirtual 219, 3) := by decide +kernel
theorem dX11_endsWithVerdict_55 : decode cX11_endsWithVerdict 55 = .ok (.ifCond .eq 5, 3) := by decide +kernel
theorem dX11_endsWithVerdict_58 : decode cX11_endsWithVerdict 58 = .ok (.iconst 0, 1) := by decide +kernel
theorem dX11_endsWithVerdict_59 : decode cX11_endsWithVerdict 59 = .ok (.ireturn, 1) := by decide +kernel
theorem dX11_endsWithVerdict_60 : decode cX11_endsWithVerdict 60 = .ok (.aload_n 0, 1) := by decide +kernel
theorem dX11_endsWithVerdict_61 : decode cX11_endsWithVerdict 61 = .ok (.getfield 40, 3) := by decide +kernel
theorem dX11_endsWithVerdict_64 : decode cX11_endsWithVerdict 64 = .ok (.aload_n 0, 1) := by decide +kernel
theorem dX11_endsWithVerdict_65 : decode cX11_endsWithVerdict 65 = .ok (.getfield 44, 3) := by decide +kernel
theorem dX11_endsWithVerdict_68 : decode cX11_endsWithVerdict 68 = .ok (.invokevirtual 215, 3) := by decide +kernel
theorem dX11_endsWithVerdict_71 : decode cX11_endsWithVerdict 71 = .ok (.iinc 5 1, 3) := by decide +kernel
theorem dX11_endsWithVerdict_74 : decode cX11_endsWithVerdict 74 = .ok (.goto (-44), 3) := by decide +kernel
theorem dX11_endsWithVerdict_77 : decode cX11_endsWithVerdict 77 = .ok (.aload_n 3, 1) := by decide +kernel
theorem dX11_endsWithVerdict_78 : decode cX11_endsWithVerdict 78 = .ok (.aload_n 1, 1) := by decide +kernel
theorem dX11_endsWithVerdict_79 : decode cX11_endsWithVerdict 79 = .ok (.iload 4, 2) := by decide +kernel
theorem dX11_endsWithVerdict_81 : decode cX11_endsWithVerdict 81 = .ok (.invokevirtual 183, 3) := by decide +kernel
theorem dX11_endsWithVerdict_84 : decode cX11_endsWithVerdict 84 = .ok (.aload_n 0, 1) := by decide +kernel
theorem dX11_endsWithVerdict_85 : decode cX11_endsWithVerdict 85 = .ok (.getfield 40, 3) := by decide +kernel
theorem dX11_endsWithVerdict_88 : decode cX11_endsWithVerdict 88 = .ok (.aload_n 0, 1) := by decide +kernel
theorem dX11_endsWithVerdict_89 : decode cX11_endsWithVerdict 89 = .ok (.getfield 44, 3) := by decide +kernel
theorem dX11_endsWithVerdict_92 : decode cX11_endsWithVerdict 92 = .ok (.invokevirtual 219, 3) := by decide +kernel
theorem dX11_endsWithVerdict_95 : decode cX11_endsWithVerdict 95 = .ok (.iload_n 2, 1) := by decide +kernel
theorem dX11_endsWithVerdict_96 : decode cX11_endsWithVerdict 96 = .ok (.if_icmp .ne 7, 3) := by decide +kernel
theorem dX11_endsWithVerdict_99 : decode cX11_endsWithVerdict 99 = .ok (.iconst 1, 1) := by decide +kernel
theorem dX11_endsWithVerdict_100 : decode cX11_endsWithVerdict 100 = .ok (.goto 4, 3) := by decide +kernel
theorem dX11_endsWithVerdict_103 : decode cX11_endsWithVerdict 103 = .ok (.iconst 0, 1) := by decide +kernel
theorem dX11_endsWithVerdict_104 : decode cX11_endsWithVerdict 104 = .ok (.ireturn, 1) := by decide +kernel
