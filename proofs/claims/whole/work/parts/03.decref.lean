set_option maxRecDepth 20000 in
theorem ggX12_init_X12_bare : GoodIn wsX12_init wsX12_bare := goodIn_r _ [17, 5, 18, 19, 20, 21, 22, 23, 24, 25, 26, 27, 28, 29, 30, 31, 32, 33] (by decide +kernel) (by decide +kernel)
set_option maxRecDepth 20000 in
theorem gX12_init_X12_bare : GoodIn wsX12_init (wsV RX12 34 RX12 yX12_bare wsX12_bare) := goodIn_app (goodIn_of _ (by decide +kernel)) ggX12_init_X12_bare
theorem dX12_init_0 : decode cX12_init 0 = .ok (.aload_n 0, 1) := by decide +kernel
theorem dX12_init_1 : decode cX12_init 1 = .ok (.invokespecial 1, 3) := by decide +kernel
theorem dX12_init_4 : decode cX12_init 4 = .ok (.aload_n 0, 1) := by decide +kernel
theorem dX12_init_5 : decode cX12_init 5 = .ok (.sipush 1178, 3) := by decide +kernel
theorem dX12_init_8 : decode cX12_init 8 = .ok (.newarray .int, 2) := by decide +kernel
theorem dX12_init_10 : decode cX12_init 10 = .ok (.putfield 7, 3) := by decide +kernel
theorem dX12_init_13 : decode cX12_init 13 = .ok (.aload_n 0, 1) := by decide +kernel
theorem dX12_init_14 : decode cX12_init 14 = .ok (.sipush 272, 3) := by decide +kernel
theorem dX12_init_17 : decode cX12_init 17 = .ok (.newarray .int, 2) := by decide +kernel
theorem dX12_init_19 : decode cX12_init 19 = .ok (.putfield 13, 3) := by decide +kernel
theorem dX12_init_22 : decode cX12_init 22 = .ok (.aload_n 0, 1) := by decide +kernel
theorem dX12_init_23 : decode cX12_init 23 = .ok (.sipush 7068, 3) := by decide +kernel
theorem dX12_init_26 : decode cX12_init 26 = .ok (.newarray .int, 2) := by decide +kernel
theorem dX12_init_28 : decode cX12_init 28 = .ok (.putfield 16, 3) := by decide +kernel
theorem dX12_init_31 : decode cX12_init 31 = .ok (.aload_n 0, 1) := by decide +kernel
theorem dX12_init_32 : decode cX12_init 32 = .ok (.sipush 200, 3) := by decide +kernel
theorem dX12_init_35 : decode cX12_init 35 = .ok (.newarray .int, 2) := by decide +kernel
theorem dX12_init_37 : decode cX12_init 37 = .ok (.putfield 19, 3) := by decide +kernel
theorem dX12_init_40 : decode cX12_init 40 = .ok (.aload_n 0, 1) := by decide +kernel
theorem dX12_init_41 : decode cX12_init 41 = .ok (.iconst 3, 1) := by decide +kernel
theorem dX12_init_42 : decode cX12_init 42 = .ok (.newarray .int, 2) := by decide +kernel
theorem dX12_init_44 : decode cX12_init 44 = .ok (.putfield 22, 3) := by decide +kernel
theorem dX12_init_47 : decode cX12_init 47 = .ok (.aload_n 0, 1) := by decide +kernel
theorem dX12_init_48 : decode cX12_init 48 = .ok (.iconst 3, 1) := by decide +kernel
theorem dX12_init_49 : decode cX12_init 49 = .ok (.newarray .int, 2) := by decide +kernel
theorem dX12_init_51 : decode cX12_init 51 = .ok (.putfield 25, 3) := by decide +kernel
theorem dX12_init_54 : decode cX12_init 54 = .ok (.aload_n 0, 1) := by decide +kernel
theorem dX12_init_55 : decode cX12_init 55 = .ok (.iconst 3, 1) := by decide +kernel
theorem dX12_init_56 : decode cX12_init 56 = .ok (.newarray .int, 2) := by decide +kernel
theorem dX12_init_58 : decode cX12_init 58 = .ok (.putfield 28, 3) := by decide +kernel
theorem dX12_init_61 : decode cX12_init 61 = .ok (.aload_n 0, 1) := by decide +kernel
theorem dX12_init_62 : decode cX12_init 62 = .ok (.bipush 9, 2) := by decide +kernel
theorem dX12_init_64 : decode cX12_init 64 = .ok (.newarray .int, 2) := by decide +kernel
theorem dX12_init_66 : decode cX12_init 66 = .ok (.putfield 31, 3) := by decide +kernel
theorem dX12_init_69 : decode cX12_init 69 = .ok (.aload_n 0, 1) := by decide +kernel
theorem dX12_init_70 : decode cX12_init 70 = .ok (.getfield 7, 3) := by decide +kernel
theorem dX12_init_73 : decode cX12_init 73 = .ok (.sipush 272, 3) := by decide +kernel
theorem dX12_init_76 : decode cX12_init 76 = .ok (.iconst 5, 1) := by decide +kernel
theorem dX12_init_77 : decode cX12_init 77 = .ok (.iastore, 1) := by decide +kernel
theorem dX12_init_78 : decode cX12_init 78 = .ok (.aload_n 0, 1) := by decide +kernel
theorem dX12_init_79 : decode cX12_init 79 = .ok (.invokevirtual 34, 3) := by decide +kernel
theorem dX12_init_82 : decode cX12_init 82 = .ok (.return_, 1) := by decide +kernel
theorem dX12_in_0 : decode cX12_in 0 = .ok (.iload_n 0, 1) := by decide +kernel
theorem dX12_in_1 : decode cX12_in 1 = .ok (.iload_n 1, 1) := by decide +kernel
theorem dX12_in_2 : decode cX12_in 2 = .ok (.if_icmp .lt 12, 3) := by decide +kernel
theorem dX12_in_5 : decode cX12_in 5 = .ok (.iload_n 0, 1) := by decide +kernel
theorem dX12_in_6 : decode cX12_in 6 = .ok (.iload_n 2, 1) := by decide +kernel
theorem dX12_in_7 : decode cX12_in 7 = .ok (.if_icmp .gt 7, 3) := by decide +kernel
theorem dX12_in_10 : decode cX12_in 10 = .ok (.iconst 1, 1) := by decide +kernel
theorem dX12_in_11 : decode cX12_in 11 = .ok (.goto 4, 3) := by decide +kernel
theorem dX12_in_14 : decode cX12_in 14 = .ok (.iconst 0, 1) := by decide +kernel
theorem dX12_in_15 : decode cX12_in 15 = .ok (.ireturn, 1) := by decide +kernel
theorem dX12_note_0 : decode cX12_note 0 = .ok (.aload_n 0, 1) := by decide +kernel
theorem dX12_note_1 : decode cX12_note 1 = .ok (.getfield 37, 3) := by decide +kernel
theorem dX12_note_4 : decode cX12_note 4 = .ok (.bipush 6, 2) := by decide +kernel
theorem dX12_note_6 : decode cX12_note 6 = .ok (.if_icmp .ne 44, 3) := by decide +kernel
theorem dX12_note_9 : decode cX12_note 9 = .ok (.iconst 0, 1) := by decide +kernel
theorem dX12_note_10 : decode cX12_note 10 = .ok (.istore_n 1, 1) := by decide +kernel
theorem dX12_note_11 : decode cX12_note 11 = .ok (.iload_n 1, 1) := by decide +kernel
theorem dX12_note_12 : decode cX12_note 12 = .ok (.sipush 5890, 3) := by decide +kernel
theorem dX12_note_15 : decode cX12_note 15 = .ok (.if_icmp .ge 25, 3) := by decide +kernel
theorem dX12_note_18 : decode cX12_note 18 = .ok (.aload_n 0, 1) := by decide +kernel
theorem dX12_note_19 : decode cX12_note 19 = .ok (.getfield 16, 3) := by decide +kernel
theorem dX12_note_22 : decode cX12_note 22 = .ok (.iload_n 1, 1) := by decide +kernel
theorem dX12_note_23 : decode cX12_note 23 = .ok (.aload_n 0, 1) := by decide +kernel
theorem dX12_note_24 : decode cX12_note 24 = .ok (.getfield 16, 3) := by decide +kernel
theorem dX12_note_27 : decode cX12_note 27 = .ok (.iload_n 1, 1) := by decide +kernel
theorem dX12_note_28 : decode cX12_note 28 = .ok (.sipush 1178, 3) := by decide +kernel
theorem dX12_note_31 : decode cX12_note 31 = .ok (.iadd, 1) := by decide +kernel
theorem dX12_note_32 : decode cX12_note 32 = .ok (.iaload, 1) := by decide +kernel
theorem dX12_note_33 : decode cX12_note 33 = .ok (.iastore, 1) := by decide +kernel
theorem dX12_note_34 : decode cX12_note 34 = .ok (.iinc 1 1, 3) := by decide +kernel
theorem dX12_note_37 : decode cX12_note 37 = .ok (.goto (-26), 3) := by decide +kernel
theorem dX12_note_40 : decode cX12_note 40 = .ok (.aload_n 0, 1) := by decide +kernel
theorem dX12_note_41 : decode cX12_note 41 = .ok (.dup, 1) := by decide +kernel
theorem dX12_note_42 : decode cX12_note 42 = .ok (.getfield 37, 3) := by decide +kernel
theorem dX12_note_45 : decode cX12_note 45 = .ok (.iconst 1, 1) := by decide +kernel
theorem dX12_note_46 : decode cX12_note 46 = .ok (.isub, 1) := by decide +kernel
theorem dX12_note_47 : decode cX12_note 47 = .ok (.putfield 37, 3) := by decide +kernel
theorem dX12_note_50 : decode cX12_note 50 = .ok (.iconst 0, 1) := by decide +kernel
theorem dX12_note_51 : decode cX12_note 51 = .ok (.istore_n 1, 1) := by decide +kernel
theorem dX12_note_52 : decode cX12_note 52 = .ok (.iload_n 1, 1) := by decide +kernel
theorem dX12_note_53 : decode cX12_note 53 = .ok (.sipush 1178, 3) := by decide +kernel
theorem dX12_note_56 : decode cX12_note 56 = .ok (.if_icmp .ge 30, 3) := by decide +kernel
theorem dX12_note_59 : decode cX12_note 59 = .ok (.aload_n 0, 1) := by decide +kernel
theorem dX12_note_60 : decode cX12_note 60 = .ok (.getfield 16, 3) := by decide +kernel
theorem dX12_note_63 : decode cX12_note 63 = .ok (.sipush 1178, 3) := by decide +kernel
theorem dX12_note_66 : decode cX12_note 66 = .ok (.aload_n 0, 1) := by decide +kernel
theorem dX12_note_67 : decode cX12_note 67 = .ok (.getfield 37, 3) := by decide +kernel
theorem dX12_note_70 : decode cX12_note 70 = .ok (.imul, 1) := by decide +kernel
theorem dX12_note_71 : decode cX12_note 71 = .ok (.iload_n 1, 1) := by decide +kernel
theorem dX12_note_72 : decode cX12_note 72 = .ok (.iadd, 1) := by decide +kernel
theorem dX12_note_73 : decode cX12_note 73 = .ok (.aload_n 0, 1) := by decide +kernel
theorem dX12_note_74 : decode cX12_note 74 = .ok (.getfield 7, 3) := by decide +kernel
theorem dX12_note_77 : decode cX12_note 77 = .ok (.iload_n 1, 1) := by decide +kernel
theorem dX12_note_78 : decode cX12_note 78 = .ok (.iaload, 1) := by decide +kernel
theorem dX12_note_79 : decode cX12_note 79 = .ok (.iastore, 1) := by decide +kernel
theorem dX12_note_80 : decode cX12_note 80 = .ok (.iinc 1 1, 3) := by decide +kernel
theorem dX12_note_83 : decode cX12_note 83 = .ok (.goto (-31), 3) := by decide +kernel
theorem dX12_note_86 : decode cX12_note 86 = .ok (.aload_n 0, 1) := by decide +kernel
theorem dX12_note_87 : decode cX12_note 87 = .ok (.dup, 1) := by decide +kernel
theorem dX12_note_88 : decode cX12_note 88 = .ok (.getfield 37, 3) := by decide +kernel
theorem dX12_note_91 : decode cX12_note 91 = .ok (.iconst 1, 1) := by decide +kernel
theorem dX12_note_92 : decode cX12_note 92 = .ok (.iadd, 1) := by decide +kernel
theorem dX12_note_93 : decode cX12_note 93 = .ok (.putfield 37, 3) := by decide +kernel
theorem dX12_note_96 : decode cX12_note 96 = .ok (.return_, 1) := by decide +kernel
theorem dX12_bare_0 : decode cX12_bare 0 = .ok (.sipush 273, 3) := by decide +kernel
theorem dX12_bare_3 : decode cX12_bare 3 = .ok (.istore_n 1, 1) := by decide +kernel
theorem dX12_bare_4 : decode cX12_bare 4 = .ok (.iload_n 1, 1) := by decide +kernel
theorem dX12_bare_5 : decode cX12_bare 5 = .ok (.sipush 1178, 3) := by decide +kernel
theorem dX12_bare_8 : decode cX12_bare 8 = .ok (.if_icmp .ge 16, 3) := by decide +kernel
theorem dX12_bare_11 : decode cX12_bare 11 = .ok (.aload_n 0, 1) := by decide +kernel
theorem dX12_bare_12 : decode cX12_bare 12 = .ok (.getfield 7, 3) := by decide +kernel
theorem dX12_bare_15 : decode cX12_bare 15 = .ok (.iload_n 1, 1) := by decide +kernel
theorem dX12_bare_16 : decode cX12_bare 16 = .ok (.iconst 0, 1) := by decide +kernel
theorem dX12_bare_17 : decode cX12_bare 17 = .ok (.iastore, 1) := by decide +kernel
theorem dX12_bare_18 : decode cX12_bare 18 = .ok (.iinc 1 1, 3) := by decide +kernel
theorem dX12_bare_21 : decode cX12_bare 21 = .ok (.goto (-17), 3) := by decide +kernel
theorem dX12_bare_24 : decode cX12_bare 24 = .ok (.aload_n 0, 1) := by decide +kernel
theorem dX12_bare_25 : decode cX12_bare 25 = .ok (.getfield 7, 3) := by decide +kernel
theorem dX12_bare_28 : decode cX12_bare 28 = .ok (.sipush 276, 3) := by decide +kernel
theorem dX12_bare_31 : decode cX12_bare 31 = .ok (.iconst 1, 1) := by decide +kernel
theorem dX12_bare_32 : decode cX12_bare 32 = .ok (.iastore, 1) := by decide +kernel
theorem dX12_bare_33 : decode cX12_bare 33 = .ok (.return_, 1) := by decide +kernel
theorem dX12_here_0 : decode cX12_here 0 = .ok (.aload_n 0, 1) := by decide +kernel
theorem dX12_here_1 : decode cX12_here 1 = .ok (.getfield 41, 3) := by decide +kernel
theorem dX12_here_4 : decode cX12_here 4 = .ok (.aload_n 0, 1) := by decide +kernel
theorem dX12_here_5 : decode cX12_here 5 = .ok (.getfield 44, 3) := by decide +kernel
theorem dX12_here_8 : decode cX12_here 8 = .ok (.if_icmp .ge 15, 3) := by decide +kernel
theorem dX12_here_11 : decode cX12_here 11 = .ok (.aload_n 0, 1) := by decide +kernel
theorem dX12_here_12 : decode cX12_here 12 = .ok (.getfield 19, 3) := by decide +kernel
theorem dX12_here_15 : decode cX12_here 15 = .ok (.aload_n 0, 1) := by decide +kernel
theorem dX12_here_16 : decode cX12_here 16 = .ok (.getfield 41, 3) := by decide +kernel
theorem dX12_here_19 : decode cX12_here 19 = .ok (.iaload, 1) := by decide +kernel
theorem dX12_here_20 : decode cX12_here 20 = .ok (.goto 4, 3) := by decide +kernel
theorem dX12_here_23 : decode cX12_here 23 = .ok (.iconst (-1), 1) := by decide +kernel
theorem dX12_here_24 : decode cX12_here 24 = .ok (.ireturn, 1) := by decide +kernel
set_option maxRecDepth 20000 in
theorem ggX12_next_X12_here : GoodIn wsX12_next wsX12_here := goodIn_r _ [9, 1, 10, 11, 15, 16, 17, 18, 19, 20, 21, 22, 23, 24, 25, 26, 27, 28, 29, 30] (by decide +kernel) (by decide +kernel)
set_option maxRecDepth 20000 in
theorem gX12_next_X12_here : GoodIn wsX12_next (wsV RX12 47 RX12 yX12_here wsX12_here) := goodIn_app (goodIn_of _ (by decide +kernel)) ggX12_next_X12_here
set_option maxRecDepth 20000 in
theorem ggX12_next_X12_in : GoodIn wsX12_next wsX12_in := goodIn_r _ [14] (by decide +kernel) (by decide +kernel)
set_option maxRecDepth 20000 in
theorem gX12_next_X12_in : GoodIn wsX12_next (va_wsS RX12 60 yX12_in wsX12_in) := goodIn_app (goodIn_of _ (by decide +kernel)) ggX12_next_X12_in
theorem dX12_next_0 : decode cX12_next 0 = .ok (.aload_n 0, 1) := by decide +kernel
theorem dX12_next_1 : decode cX12_next 1 = .ok (.invokevirtual 47, 3) := by decide +kernel
theorem dX12_next_4 : decode cX12_next 4 = .ok (.bipush 32, 2) := by decide +kernel
theorem dX12_next_6 : decode cX12_next 6 = .ok (.if_icmp .ne 16, 3) := by decide +kernel
theorem dX12_next_9 : decode cX12_next 9 = .ok (.aload_n 0, 1) := by decide +kernel
theorem dX12_next_10 : decode cX12_next 10 = .ok (.dup, 1) := by decide +kernel
theorem dX12_next_11 : decode cX12_next 11 = .ok (.getfield 41, 3) := by decide +kernel
theorem dX12_next_14 : decode cX12_next 14 = .ok (.iconst 1, 1) := by decide +kernel
theorem dX12_next_15 : decode cX12_next 15 = .ok (.iadd, 1) := by decide +kernel
theorem dX12_next_16 : decode cX12_next 16 = .ok (.putfield 41, 3) := by decide +kernel
theorem dX12_next_19 : decode cX12_next 19 = .ok (.goto (-19), 3) := by decide +kernel
theorem dX12_next_22 : decode cX12_next 22 = .ok (.aload_n 0, 1) := by decide +kernel
theorem dX12_next_23 : decode cX12_next 23 = .ok (.aload_n 0, 1) := by decide +kernel
theorem dX12_next_24 : decode cX12_next 24 = .ok (.getfield 41, 3) := by decide +kernel
theorem dX12_next_27 : decode cX12_next 27 = .ok (.putfield 51, 3) := by decide +kernel
theorem dX12_next_30 : decode cX12_next 30 = .ok (.aload_n 0, 1) := by decide +kernel
theorem dX12_next_31 : decode cX12_next 31 = .ok (.aload_n 0, 1) := by decide +kernel
theorem dX12_next_32 : decode cX12_next 32 = .ok (.invokevirtual 47, 3) := by decide +kernel
theorem dX12_next_35 : decode cX12_next 35 = .ok (.putfield 54, 3) := by decide +kernel
theorem dX12_next_38 : decode cX12_next 38 = .ok (.aload_n 0, 1) := by decide +kernel
theorem dX12_next_39 : decode cX12_next 39 = .ok (.getfield 54, 3) := by decide +kernel
theorem dX12_next_42 : decode cX12_next 42 = .ok (.ifCond .ge 11, 3) := by decide +kernel
theorem dX12_next_45 : decode cX12_next 45 = .ok (.aload_n 0, 1) := by decide +kernel
theorem dX12_next_46 : decode cX12_next 46 = .ok (.iconst 0, 1) := by decide +kernel
theorem dX12_next_47 : decode cX12_next 47 = .ok (.putfield 57, 3) := by decide +kernel
theorem dX12_next_50 : decode cX12_next 50 = .ok (.goto 156, 3) := by decide +kernel
theorem dX12_next_53 : decode cX12_next 53 = .ok (.aload_n 0, 1) := by decide +kernel
theorem dX12_next_54 : decode cX12_next 54 = .ok (.getfield 54, 3) := by decide +kernel
theorem dX12_next_57 : decode cX12_next 57 = .ok (.bipush 97, 2) := by decide +kernel
theorem dX12_next_59 : decode cX12_next 59 = .ok (.bipush 122, 2) := by decide +kernel
theorem dX12_next_61 : decode cX12_next 61 = .ok (.invokestatic 60, 3) := by decide +kernel
theorem dX12_next_64 : decode cX12_next 64 = .ok (.ifCond .eq 38, 3) := by decide +kernel
theorem dX12_next_67 : decode cX12_next 67 = .ok (.aload_n 0, 1) := by decide +kernel
theorem dX12_next_68 : decode cX12_next 68 = .ok (.invokevirtual 47, 3) := by decide +kernel
theorem dX12_next_71 : decode cX12_next 71 = .ok (.bipush 97, 2) := by decide +kernel
theorem dX12_next_73 : decode cX12_next 73 = .ok (.bipush 122, 2) := by decide +kernel
theorem dX12_next_75 : decode cX12_next 75 = .ok (.invokestatic 60, 3) := by decide +kernel
theorem dX12_next_78 : decode cX12_next 78 = .ok (.ifCond .eq 16, 3) := by decide +kernel
theorem dX12_next_81 : decode cX12_next 81 = .ok (.aload_n 0, 1) := by decide +kernel
theorem dX12_next_82 : decode cX12_next 82 = .ok (.dup, 1) := by decide +kernel
theorem dX12_next_83 : decode cX12_next 83 = .ok (.getfield 41, 3) := by decide +kernel
theorem dX12_next_86 : decode cX12_next 86 = .ok (.iconst 1, 1) := by decide +kernel
theorem dX12_next_87 : decode cX12_next 87 = .ok (.iadd, 1) := by decide +kernel
theorem dX12_next_88 : decode cX12_next 88 = .ok (.putfield 41, 3) := by decide +kernel
theorem dX12_next_91 : decode cX12_next 91 = .ok (.goto (-24), 3) := by decide +kernel
theorem dX12_next_94 : decode cX12_next 94 = .ok (.aload_n 0, 1) := by decide +kernel
theorem dX12_next_95 : decode cX12_next 95 = .ok (.iconst 1, 1) := by decide +kernel
theorem dX12_next_96 : decode cX12_next 96 = .ok (.putfield 57, 3) := by decide +kernel
theorem dX12_next_99 : decode cX12_next 99 = .ok (.goto 107, 3) := by decide +kernel
theorem dX12_next_102 : decode cX12_next 102 = .ok (.aload_n 0, 1) := by decide +kernel
theorem dX12_next_103 : decode cX12_next 103 = .ok (.getfield 54, 3) := by decide +kernel
theorem dX12_next_106 : decode cX12_next 106 = .ok (.bipush 48, 2) := by decide +kernel
theorem dX12_next_108 : decode cX12_next 108 = .ok (.bipush 57, 2) := by decide +kernel
theorem dX12_next_110 : decode cX12_next 110 = .ok (.invokestatic 60, 3) := by decide +kernel
theorem dX12_next_113 : decode cX12_next 113 = .ok (.ifCond .eq 78, 3) := by decide +kernel
theorem dX12_next_116 : decode cX12_next 116 = .ok (.aload_n 0, 1) := by decide +kernel
theorem dX12_next_117 : decode cX12_next 117 = .ok (.iconst 0, 1) := by decide +kernel
theorem dX12_next_118 : decode cX12_next 118 = .ok (.putfield 54, 3) := by decide +kernel
theorem dX12_next_121 : decode cX12_next 121 = .ok (.aload_n 0, 1) := by decide +kernel
theorem dX12_next_122 : decode cX12_next 122 = .ok (.invokevirtual 47, 3) := by decide +kernel
theorem dX12_next_125 : decode cX12_next 125 = .ok (.bipush 48, 2) := by decide +kernel
theorem dX12_next_127 : decode cX12_next 127 = .ok (.bipush 57, 2) := by decide +kernel
theorem dX12_next_129 : decode cX12_next 129 = .ok (.invokestatic 60, 3) := by decide +kernel
theorem dX12_next_132 : decode cX12_next 132 = .ok (.ifCond .eq 51, 3) := by decide +kernel
theorem dX12_next_135 : decode cX12_next 135 = .ok (.aload_n 0, 1) := by decide +kernel
theorem dX12_next_136 : decode cX12_next 136 = .ok (.aload_n 0, 1) := by decide +kernel
theorem dX12_next_137 : decode cX12_next 137 = .ok (.getfield 54, 3) := by decide +kernel
theorem dX12_next_140 : decode cX12_next 140 = .ok (.bipush 99, 2) := by decide +kernel
theorem dX12_next_142 : decode cX12_next 142 = .ok (.if_icmp .le 10, 3) := by decide +kernel
theorem dX12_next_145 : decode cX12_next 145 = .ok (.aload_n 0, 1) := by decide +kernel
theorem dX12_next_146 : decode cX12_next 146 = .ok (.getfield 54, 3) := by decide +kernel
theorem dX12_next_149 : decode cX12_next 149 = .ok (.goto 18, 3) := by decide +kernel
theorem dX12_next_152 : decode cX12_next 152 = .ok (.bipush 10, 2) := by decide +kernel
theorem dX12_next_154 : decode cX12_next 154 = .ok (.aload_n 0, 1) := by decide +kernel
theorem dX12_next_155 : decode cX12_next 155 = .ok (.getfield 54, 3) := by decide +kernel
theorem dX12_next_158 : decode cX12_next 158 = .ok (.imul, 1) := by decide +kernel
theorem dX12_next_159 : decode cX12_next 159 = .ok (.aload_n 0, 1) := by decide +kernel
theorem dX12_next_160 : decode cX12_next 160 = .ok (.invokevirtual 47, 3) := by decide +kernel
theorem dX12_next_163 : decode cX12_next 163 = .ok (.iadd, 1) := by decide +kernel
theorem dX12_next_164 : decode cX12_next 164 = .ok (.bipush 48, 2) := by decide +kernel
theorem dX12_next_166 : decode cX12_next 166 = .ok (.isub, 1) := by decide +kernel
theorem dX12_next_167 : decode cX12_next 167 = .ok (.putfield 54, 3) := by decide +kernel
theorem dX12_next_170 : decode cX12_next 170 = .ok (.aload_n 0, 1) := by decide +kernel
theorem dX12_next_171 : decode cX12_next 171 = .ok (.dup, 1) := by decide +kernel
theorem dX12_next_172 : decode cX12_next 172 = .ok (.getfield 41, 3) := by decide +kernel
theorem dX12_next_175 : decode cX12_next 175 = .ok (.iconst 1, 1) := by decide +kernel
theorem dX12_next_176 : decode cX12_next 176 = .ok (.iadd, 1) := by decide +kernel
theorem dX12_next_177 : decode cX12_next 177 = .ok (.putfield 41, 3) := by decide +kernel
theorem dX12_next_180 : decode cX12_next 180 = .ok (.goto (-59), 3) := by decide +kernel
theorem dX12_next_183 : decode cX12_next 183 = .ok (.aload_n 0, 1) := by decide +kernel
theorem dX12_next_184 : decode cX12_next 184 = .ok (.iconst 2, 1) := by decide +kernel
theorem dX12_next_185 : decode cX12_next 185 = .ok (.putfield 57, 3) := by decide +kernel
theorem dX12_next_188 : decode cX12_next 188 = .ok (.goto 18, 3) := by decide +kernel
theorem dX12_next_191 : decode cX12_next 191 = .ok (.aload_n 0, 1) := by decide +kernel
theorem dX12_next_192 : decode cX12_next 192 = .ok (.dup, 1) := by decide +kernel
theorem dX12_next_193 : decode cX12_next 193 = .ok (.getfield 41, 3) := by decide +kernel
theorem dX12_next_196 : decode cX12_next 196 = .ok (.iconst 1, 1) := by decide +kernel
theorem dX12_next_197 : decode cX12_next 197 = .ok (.iadd, 1) := by decide +kernel
theorem dX12_next_198 : decode cX12_next 198 = .ok (.putfield 41, 3) := by decide +kernel
theorem dX12_next_201 : decode cX12_next 201 = .ok (.aload_n 0, 1) := by decide +kernel
theorem dX12_next_202 : decode cX12_next 202 = .ok (.iconst 3, 1) := by decide +kernel
theorem dX12_next_203 : decode cX12_next 203 = .ok (.putfield 57, 3) := by decide +kernel
theorem dX12_next_206 : decode cX12_next 206 = .ok (.return_, 1) := by decide +kernel
theorem dX12_letter_0 : decode cX12_letter 0 = .ok (.aload_n 0, 1) := by decide +kernel
theorem dX12_letter_1 : decode cX12_letter 1 = .ok (.getfield 57, 3) := by decide +kernel
theorem dX12_letter_4 : decode cX12_letter 4 = .ok (.iconst 1, 1) := by decide +kernel
theorem dX12_letter_5 : decode cX12_letter 5 = .ok (.if_icmp .ne 30, 3) := by decide +kernel
theorem dX12_letter_8 : decode cX12_letter 8 = .ok (.aload_n 0, 1) := by decide +kernel
theorem dX12_letter_9 : decode cX12_letter 9 = .ok (.getfield 51, 3) := by decide +kernel
theorem dX12_letter_12 : decode cX12_letter 12 = .ok (.iload_n 1, 1) := by decide +kernel
theorem dX12_letter_13 : decode cX12_letter 13 = .ok (.iadd, 1) := by decide +kernel
theorem dX12_letter_14 : decode cX12_letter 14 = .ok (.aload_n 0, 1) := by decide +kernel
theorem dX12_letter_15 : decode cX12_letter 15 = .ok (.getfield 41, 3) := by decide +kernel
theorem dX12_letter_18 : decode cX12_letter 18 = .ok (.if_icmp .ge 17, 3) := by decide +kernel
theorem dX12_letter_21 : decode cX12_letter 21 = .ok (.aload_n 0, 1) := by decide +kernel
theorem dX12_letter_22 : decode cX12_letter 22 = .ok (.getfield 19, 3) := by decide +kernel
theorem dX12_letter_25 : decode cX12_letter 25 = .ok (.aload_n 0, 1) := by decide +kernel
theorem dX12_letter_26 : decode cX12_letter 26 = .ok (.getfield 51, 3) := by decide +kernel
theorem dX12_letter_29 : decode cX12_letter 29 = .ok (.iload_n 1, 1) := by decide +kernel
theorem dX12_letter_30 : decode cX12_letter 30 = .ok (.iadd, 1) := by decide +kernel
theorem dX12_letter_31 : decode cX12_letter 31 = .ok (.iaload, 1) := by decide +kernel
theorem dX12_letter_32 : decode cX12_letter 32 = .ok (.goto 4, 3) := by decide +kernel
theorem dX12_letter_35 : decode cX12_letter 35 = .ok (.iconst 0, 1) := by decide +kernel
theorem dX12_letter_36 : decode cX12_letter 36 = .ok (.ireturn, 1) := by decide +kernel
theorem dX12_isSize_0 : decode cX12_isSize 0 = .ok (.aload_n 0, 1) := by decide +kernel
theorem dX12_isSize_1 : decode cX12_isSize 1 = .ok (.getfield 57, 3) := by decide +kernel
theorem dX12_isSize_4 : decode cX12_isSize 4 = .ok (.iconst 1, 1) := by decide +kernel
theorem dX12_isSize_5 : decode cX12_isSize 5 = .ok (.if_icmp .ne 20, 3) := by decide +kernel
theorem dX12_isSize_8 : decode cX12_isSize 8 = .ok (.aload_n 0, 1) := by decide +kernel
theorem dX12_isSize_9 : decode cX12_isSize 9 = .ok (.getfield 41, 3) := by decide +kernel
theorem dX12_isSize_12 : decode cX12_isSize 12 = .ok (.aload_n 0, 1) := by decide +kernel
theorem dX12_isSize_13 : decode cX12_isSize 13 = .ok (.getfield 51, 3) := by decide +kernel
theorem dX12_isSize_16 : decode cX12_isSize 16 = .ok (.isub, 1) := by decide +kernel
theorem dX12_isSize_17 : decode cX12_isSize 17 = .ok (.iload_n 1, 1) := by decide +kernel
theorem dX12_isSize_18 : decode cX12_isSize 18 = .ok (.if_icmp .ne 7, 3) := by decide +kernel
theorem dX12_isSize_21 : decode cX12_isSize 21 = .ok (.iconst 1, 1) := by decide +kernel
theorem dX12_isSize_22 : decode cX12_isSize 22 = .ok (.goto 4, 3) := by decide +kernel
theorem dX12_isSize_25 : decode cX12_isSize 25 = .ok (.iconst 0, 1) := by decide +kernel
theorem dX12_isSize_26 : decode cX12_isSize 26 = .ok (.ireturn, 1) := by decide +kernel
set_option maxRecDepth 20000 in
theorem ggX12_isInit_X12_isSize : GoodIn wsX12_isInit wsX12_isSize := goodIn_r _ [5, 6, 7, 8, 14, 15, 16, 17, 18, 19, 20, 21, 22, 23, 24, 25, 26, 27, 28, 29] (by decide +kernel) (by decide +kernel)
set_option maxRecDepth 20000 in
theorem gX12_isInit_X12_isSize : GoodIn wsX12_isInit (wsV RX12 64 RX12 yX12_isSize wsX12_isSize) := goodIn_app (goodIn_of _ (by decide +kernel)) ggX12_isInit_X12_isSize
set_option maxRecDepth 20000 in
theorem ggX12_isInit_X12_letter : GoodIn wsX12_isInit wsX12_letter := goodIn_r _ [12, 6, 8, 7, 13, 14, 15, 16, 17, 18, 19, 20, 21, 22, 23, 24, 25, 26, 27, 28, 29] (by decide +kernel) (by decide +kernel)
set_option maxRecDepth 20000 in
theorem gX12_isInit_X12_letter : GoodIn wsX12_isInit (wsV RX12 68 RX12 yX12_letter wsX12_letter) := goodIn_app (goodIn_of _ (by decide +kernel)) ggX12_isInit_X12_letter
theorem dX12_isInit_0 : decode cX12_isInit 0 = .ok (.aload_n 0, 1) := by decide +kernel
theorem dX12_isInit_1 : decode cX12_isInit 1 = .ok (.iconst 4, 1) := by decide +kernel
theorem dX12_isInit_2 : decode cX12_isInit 2 = .ok (.invokevirtual 64, 3) := by decide +kernel
theorem dX12_isInit_5 : decode cX12_isInit 5 = .ok (.ifCond .eq 47, 3) := by decide +kernel
theorem dX12_isInit_8 : decode cX12_isInit 8 = .ok (.aload_n 0, 1) := by decide +kernel
theorem dX12_isInit_9 : decode cX12_isInit 9 = .ok (.iconst 0, 1) := by decide +kernel
theorem dX12_isInit_10 : decode cX12_isInit 10 = .ok (.invokevirtual 68, 3) := by decide +kernel
theorem dX12_isInit_13 : decode cX12_isInit 13 = .ok (.bipush 105, 2) := by decide +kernel
theorem dX12_isInit_15 : decode cX12_isInit 15 = .ok (.if_icmp .ne 37, 3) := by decide +kernel
theorem dX12_isInit_18 : decode cX12_isInit 18 = .ok (.aload_n 0, 1) := by decide +kernel
theorem dX12_isInit_19 : decode cX12_isInit 19 = .ok (.iconst 1, 1) := by decide +kernel
theorem dX12_isInit_20 : decode cX12_isInit 20 = .ok (.invokevirtual 68, 3) := by decide +kernel
theorem dX12_isInit_23 : decode cX12_isInit 23 = .ok (.bipush 110, 2) := by decide +kernel
theorem dX12_isInit_25 : decode cX12_isInit 25 = .ok (.if_icmp .ne 27, 3) := by decide +kernel
theorem dX12_isInit_28 : decode cX12_isInit 28 = .ok (.aload_n 0, 1) := by decide +kernel
theorem dX12_isInit_29 : decode cX12_isInit 29 = .ok (.iconst 2, 1) := by decide +kernel
theorem dX12_isInit_30 : decode cX12_isInit 30 = .ok (.invokevirtual 68, 3) := by decide +kernel
theorem dX12_isInit_33 : decode cX12_isInit 33 = .ok (.bipush 105, 2) := by decide +kernel
theorem dX12_isInit_35 : decode cX12_isInit 35 = .ok (.if_icmp .ne 17, 3) := by decide +kernel
theorem dX12_isInit_38 : decode cX12_isInit 38 = .ok (.aload_n 0, 1) := by decide +kernel
theorem dX12_isInit_39 : decode cX12_isInit 39 = .ok (.iconst 3, 1) := by decide +kernel
theorem dX12_isInit_40 : decode cX12_isInit 40 = .ok (.invokevirtual 68, 3) := by decide +kernel
theorem dX12_isInit_43 : decode cX12_isInit 43 = .ok (.bipush 116, 2) := by decide +kernel
theorem dX12_isInit_45 : decode cX12_isInit 45 = .ok (.if_icmp .ne 7, 3) := by decide +kernel
theorem dX12_isInit_48 : decode cX12_isInit 48 = .ok (.iconst 1, 1) := by decide +kernel
theorem dX12_isInit_49 : decode cX12_isInit 49 = .ok (.goto 4, 3) := by decide +kernel
theorem dX12_isInit_52 : decode cX12_isInit 52 = .ok (.iconst 0, 1) := by decide +kernel
theorem dX12_isInit_53 : decode cX12_isInit 53 = .ok (.ireturn, 1) := by decide +kernel
set_option maxRecDepth 20000 in
theorem ggX12_isInvariant_X12_isSize : GoodIn wsX12_isInvariant wsX12_isSize := goodIn_r _ [5, 6, 7, 8, 14, 15, 16, 17, 18, 19, 20, 21, 22, 23, 24, 25, 26, 27, 28, 29] (by decide +kernel) (by decide +kernel)
set_option maxRecDepth 20000 in
theorem gX12_isInvariant_X12_isSize : GoodIn wsX12_isInvariant (wsV RX12 64 RX12 yX12_isSize wsX12_isSize) := goodIn_app (goodIn_of _ (by decide +kernel)) ggX12_isInvariant_X12_isSize
set_option maxRecDepth 20000 in
theorem ggX12_isInvariant_X12_letter : GoodIn wsX12_isInvariant wsX12_letter := goodIn_r _ [12, 6, 8, 7, 13, 14, 15, 16, 17, 18, 19, 20, 21, 22, 23, 24, 25, 26, 27, 28, 29] (by decide +kernel) (by decide +kernel)
set_option maxRecDepth 20000 in
theorem gX12_isInvariant_X12_letter : GoodIn wsX12_isInvariant (wsV RX12 68 RX12 yX12_letter wsX12_letter) := goodIn_app (goodIn_of _ (by decide +kernel)) ggX12_isInvariant_X12_letter
theorem dX12_isInvariant_0 : decode cX12_isInvariant 0 = .ok (.aload_n 0, 1) := by decide +kernel
theorem dX12_isInvariant_1 : decode cX12_isInvariant 1 = .ok (.bipush 9, 2) := by decide +kernel
theorem dX12_isInvariant_3 : decode cX12_isInvariant 3 = .ok (.invokevirtual 64, 3) := by decide +kernel
theorem dX12_isInvariant_6 : decode cX12_isInvariant 6 = .ok (.ifCond .eq 57, 3) := by decide +kernel
theorem dX12_isInvariant_9 : decode cX12_isInvariant 9 = .ok (.aload_n 0, 1) := by decide +kernel
theorem dX12_isInvariant_10 : decode cX12_isInvariant 10 = .ok (.iconst 0, 1) := by decide +kernel
theorem dX12_isInvariant_11 : decode cX12_isInvariant 11 = .ok (.invokevirtual 68, 3) := by decide +kernel
theorem dX12_isInvariant_14 : decode cX12_isInvariant 14 = .ok (.bipush 105, 2) := by decide +kernel
theorem dX12_isInvariant_16 : decode cX12_isInvariant 16 = .ok (.if_icmp .ne 47, 3) := by decide +kernel
theorem dX12_isInvariant_19 : decode cX12_isInvariant 19 = .ok (.aload_n 0, 1) := by decide +kernel
theorem dX12_isInvariant_20 : decode cX12_isInvariant 20 = .ok (.iconst 1, 1) := by decide +kernel
theorem dX12_isInvariant_21 : decode cX12_isInvariant 21 = .ok (.invokevirtual 68, 3) := by decide +kernel
theorem dX12_isInvariant_24 : decode cX12_isInvariant 24 = .ok (.bipush 110, 2) := by decide +kernel
theorem dX12_isInvariant_26 : decode cX12_isInvariant 26 = .ok (.if_icmp .ne 37, 3) := by decide +kernel
theorem dX12_isInvariant_29 : decode cX12_isInvariant 29 = .ok (.aload_n 0, 1) := by decide +kernel
theorem dX12_isInvariant_30 : decode cX12_isInvariant 30 = .ok (.iconst 2, 1) := by decide +kernel
theorem dX12_isInvariant_31 : decode cX12_isInvariant 31 = .ok (.invokevirtual 68, 3) := by decide +kernel
theorem dX12_isInvariant_34 : decode cX12_isInvariant 34 = .ok (.bipush 118, 2) := by decide +kernel
theorem dX12_isInvariant_36 : decode cX12_isInvariant 36 = .ok (.if_icmp .ne 27, 3) := by decide +kernel
theorem dX12_isInvariant_39 : decode cX12_isInvariant 39 = .ok (.aload_n 0, 1) := by decide +kernel
theorem dX12_isInvariant_40 : decode cX12_isInvariant 40 = .ok (.iconst 3, 1) := by decide +kernel
theorem dX12_isInvariant_41 : decode cX12_isInvariant 41 = .ok (.invokevirtual 68, 3) := by decide +kernel
theorem dX12_isInvariant_44 : decode cX12_isInvariant 44 = .ok (.bipush 97, 2) := by decide +kernel
theorem dX12_isInvariant_46 : decode cX12_isInvariant 46 = .ok (.if_icmp .ne 17, 3) := by decide +kernel
theorem dX12_isInvariant_49 : decode cX12_isInvariant 49 = .ok (.aload_n 0, 1) := by decide +kernel
theorem dX12_isInvariant_50 : decode cX12_isInvariant 50 = .ok (.iconst 4, 1) := by decide +kernel
theorem dX12_isInvariant_51 : decode cX12_isInvariant 51 = .ok (.invokevirtual 68, 3) := by decide +kernel
theorem dX12_isInvariant_54 : decode cX12_isInvariant 54 = .ok (.bipush 114, 2) := by decide +kernel
theorem dX12_isInvariant_56 : decode cX12_isInvariant 56 = .ok (.if_icmp .ne 7, 3) := by decide +kernel
theorem dX12_isInvariant_59 : decode cX12_isInvariant 59 = .ok (.iconst 1, 1) := by decide +kernel
theorem dX12_isInvariant_60 : decode cX12_isInvariant 60 = .ok (.goto 4, 3) := by decide +kernel
theorem dX12_isInvariant_63 : decode cX12_isInvariant 63 = .ok (.iconst 0, 1) := by decide +kernel
theorem dX12_isInvariant_64 : decode cX12_isInvariant 64 = .ok (.istore_n 1, 1) := by decide +kernel
theorem dX12_isInvariant_65 : decode cX12_isInvariant 65 = .ok (.iload_n 1, 1) := by decide +kernel
theorem dX12_isInvariant_66 : decode cX12_isInvariant 66 = .ok (.ifCond .eq 50, 3) := by decide +kernel
theorem dX12_isInvariant_69 : decode cX12_isInvariant 69 = .ok (.aload_n 0, 1) := by decide +kernel
theorem dX12_isInvariant_70 : decode cX12_isInvariant 70 = .ok (.iconst 5, 1) := by decide +kernel
theorem dX12_isInvariant_71 : decode cX12_isInvariant 71 = .ok (.invokevirtual 68, 3) := by decide +kernel
theorem dX12_isInvariant_74 : decode cX12_isInvariant 74 = .ok (.bipush 105, 2) := by decide +kernel
theorem dX12_isInvariant_76 : decode cX12_isInvariant 76 = .ok (.if_icmp .ne 40, 3) := by decide +kernel
theorem dX12_isInvariant_79 : decode cX12_isInvariant 79 = .ok (.aload_n 0, 1) := by decide +kernel
theorem dX12_isInvariant_80 : decode cX12_isInvariant 80 = .ok (.bipush 6, 2) := by decide +kernel
theorem dX12_isInvariant_82 : decode cX12_isInvariant 82 = .ok (.invokevirtual 68, 3) := by decide +kernel
theorem dX12_isInvariant_85 : decode cX12_isInvariant 85 = .ok (.bipush 97, 2) := by decide +kernel
theorem dX12_isInvariant_87 : decode cX12_isInvariant 87 = .ok (.if_icmp .ne 29, 3) := by decide +kernel
theorem dX12_isInvariant_90 : decode cX12_isInvariant 90 = .ok (.aload_n 0, 1) := by decide +kernel
theorem dX12_isInvariant_91 : decode cX12_isInvariant 91 = .ok (.bipush 7, 2) := by decide +kernel
theorem dX12_isInvariant_93 : decode cX12_isInvariant 93 = .ok (.invokevirtual 68, 3) := by decide +kernel
theorem dX12_isInvariant_96 : decode cX12_isInvariant 96 = .ok (.bipush 110, 2) := by decide +kernel
theorem dX12_isInvariant_98 : decode cX12_isInvariant 98 = .ok (.if_icmp .ne 18, 3) := by decide +kernel
theorem dX12_isInvariant_101 : decode cX12_isInvariant 101 = .ok (.aload_n 0, 1) := by decide +kernel
theorem dX12_isInvariant_102 : decode cX12_isInvariant 102 = .ok (.bipush 8, 2) := by decide +kernel
theorem dX12_isInvariant_104 : decode cX12_isInvariant 104 = .ok (.invokevirtual 68, 3) := by decide +kernel
theorem dX12_isInvariant_107 : decode cX12_isInvariant 107 = .ok (.bipush 116, 2) := by decide +kernel
theorem dX12_isInvariant_109 : decode cX12_isInvariant 109 = .ok (.if_icmp .ne 7, 3) := by decide +kernel
theorem dX12_isInvariant_112 : decode cX12_isInvariant 112 = .ok (.iconst 1, 1) := by decide +kernel
theorem dX12_isInvariant_113 : decode cX12_isInvariant 113 = .ok (.goto 4, 3) := by decide +kernel
theorem dX12_isInvariant_116 : decode cX12_isInvariant 116 = .ok (.iconst 0, 1) := by decide +kernel
theorem dX12_isInvariant_117 : decode cX12_isInvariant 117 = .ok (.ireturn, 1) := by decide +kernel
set_option maxRecDepth 20000 in
theorem ggX12_isMethod_X12_isSize : GoodIn wsX12_isMethod wsX12_isSize := goodIn_r _ [5, 6, 7, 8, 14, 15, 16, 17, 18, 19, 20, 21, 22, 23, 24, 25, 26, 27, 28, 29] (by decide +kernel) (by decide +kernel)
set_option maxRecDepth 20000 in
theorem gX12_isMethod_X12_isSize : GoodIn wsX12_isMethod (wsV RX12 64 RX12 yX12_isSize wsX12_isSize) := goodIn_app (goodIn_of _ (by decide +kernel)) ggX12_isMethod_X12_isSize
set_option maxRecDepth 20000 in
theorem ggX12_isMethod_X12_letter : GoodIn wsX12_isMethod wsX12_letter := goodIn_r _ [12, 6, 8, 7, 13, 14, 15, 16, 17, 18, 19, 20, 21, 22, 23, 24, 25, 26, 27, 28, 29] (by decide +kernel) (by decide +kernel)
set_option maxRecDepth 20000 in
theorem gX12_isMethod_X12_letter : GoodIn wsX12_isMethod (wsV RX12 68 RX12 yX12_letter wsX12_letter) := goodIn_app (goodIn_of _ (by decide +kernel)) ggX12_isMethod_X12_letter
theorem dX12_isMethod_0 : decode cX12_isMethod 0 = .ok (.aload_n 0, 1) := by decide +kernel
theorem dX12_isMethod_1 : decode cX12_isMethod 1 = .ok (.bipush 6, 2) := by decide +kernel
theorem dX12_isMethod_3 : decode cX12_isMethod 3 = .ok (.invokevirtual 64, 3) := by decide +kernel
theorem dX12_isMethod_6 : decode cX12_isMethod 6 = .ok (.ifCond .eq 67, 3) := by decide +kernel
theorem dX12_isMethod_9 : decode cX12_isMethod 9 = .ok (.aload_n 0, 1) := by decide +kernel
theorem dX12_isMethod_10 : decode cX12_isMethod 10 = .ok (.iconst 0, 1) := by decide +kernel
theorem dX12_isMethod_11 : decode cX12_isMethod 11 = .ok (.invokevirtual 68, 3) := by decide +kernel
theorem dX12_isMethod_14 : decode cX12_isMethod 14 = .ok (.bipush 109, 2) := by decide +kernel
theorem dX12_isMethod_16 : decode cX12_isMethod 16 = .ok (.if_icmp .ne 57, 3) := by decide +kernel
theorem dX12_isMethod_19 : decode cX12_isMethod 19 = .ok (.aload_n 0, 1) := by decide +kernel
theorem dX12_isMethod_20 : decode cX12_isMethod 20 = .ok (.iconst 1, 1) := by decide +kernel
theorem dX12_isMethod_21 : decode cX12_isMethod 21 = .ok (.invokevirtual 68, 3) := by decide +kernel
theorem dX12_isMethod_24 : decode cX12_isMethod 24 = .ok (.bipush 101, 2) := by decide +kernel
theorem dX12_isMethod_26 : decode cX12_isMethod 26 = .ok (.if_icmp .ne 47, 3) := by decide +kernel
theorem dX12_isMethod_29 : decode cX12_isMethod 29 = .ok (.aload_n 0, 1) := by decide +kernel
theorem dX12_isMethod_30 : decode cX12_isMethod 30 = .ok (.iconst 2, 1) := by decide +kernel
theorem dX12_isMethod_31 : decode cX12_isMethod 31 = .ok (.invokevirtual 68, 3) := by decide +kernel
theorem dX12_isMethod_34 : decode cX12_isMethod 34 = .ok (.bipush 116, 2) := by decide +kernel
theorem dX12_isMethod_36 : decode cX12_isMethod 36 = .ok (.if_icmp .ne 37, 3) := by decide +kernel
theorem dX12_isMethod_39 : decode cX12_isMethod 39 = .ok (.aload_n 0, 1) := by decide +kernel
theorem dX12_isMethod_40 : decode cX12_isMethod 40 = .ok (.iconst 3, 1) := by decide +kernel
theorem dX12_isMethod_41 : decode cX12_isMethod 41 = .ok (.invokevirtual 68, 3) := by decide +kernel
theorem dX12_isMethod_44 : decode cX12_isMethod 44 = .ok (.bipush 104, 2) := by decide +kernel
theorem dX12_isMethod_46 : decode cX12_isMethod 46 = .ok (.if_icmp .ne 27, 3) := by decide +kernel
theorem dX12_isMethod_49 : decode cX12_isMethod 49 = .ok (.aload_n 0, 1) := by decide +kernel
theorem dX12_isMethod_50 : decode cX12_isMethod 50 = .ok (.iconst 4, 1) := by decide +kernel
theorem dX12_isMethod_51 : decode cX12_isMethod 51 = .ok (.invokevirtual 68, 3) := by decide +kernel
theorem dX12_isMethod_54 : decode cX12_isMethod 54 = .ok (.bipush 111, 2) := by decide +kernel
theorem dX12_isMethod_56 : decode cX12_isMethod 56 = .ok (.if_icmp .ne 17, 3) := by decide +kernel
theorem dX12_isMethod_59 : decode cX12_isMethod 59 = .ok (.aload_n 0, 1) := by decide +kernel
theorem dX12_isMethod_60 : decode cX12_isMethod 60 = .ok (.iconst 5, 1) := by decide +kernel
theorem dX12_isMethod_61 : decode cX12_isMethod 61 = .ok (.invokevirtual 68, 3) := by decide +kernel
theorem dX12_isMethod_64 : decode cX12_isMethod 64 = .ok (.bipush 100, 2) := by decide +kernel
theorem dX12_isMethod_66 : decode cX12_isMethod 66 = .ok (.if_icmp .ne 7, 3) := by decide +kernel
theorem dX12_isMethod_69 : decode cX12_isMethod 69 = .ok (.iconst 1, 1) := by decide +kernel
theorem dX12_isMethod_70 : decode cX12_isMethod 70 = .ok (.goto 4, 3) := by decide +kernel
theorem dX12_isMethod_73 : decode cX12_isMethod 73 = .ok (.iconst 0, 1) := by decide +kernel
theorem dX12_isMethod_74 : decode cX12_isMethod 74 = .ok (.ireturn, 1) := by decide +kernel
set_option maxRecDepth 20000 in
theorem ggX12_isRequire_X12_isSize : GoodIn wsX12_isRequire wsX12_isSize := goodIn_r _ [5, 6, 7, 8, 14, 15, 16, 17, 18, 19, 20, 21, 22, 23, 24, 25, 26, 27, 28, 29] (by decide +kernel) (by decide +kernel)
set_option maxRecDepth 20000 in
theorem gX12_isRequire_X12_isSize : GoodIn wsX12_isRequire (wsV RX12 64 RX12 yX12_isSize wsX12_isSize) := goodIn_app (goodIn_of _ (by decide +kernel)) ggX12_isRequire_X12_isSize
set_option maxRecDepth 20000 in
theorem ggX12_isRequire_X12_letter : GoodIn wsX12_isRequire wsX12_letter := goodIn_r _ [12, 6, 8, 7, 13, 14, 15, 16, 17, 18, 19, 20, 21, 22, 23, 24, 25, 26, 27, 28, 29] (by decide +kernel) (by decide +kernel)
set_option maxRecDepth 20000 in
theorem gX12_isRequire_X12_letter : GoodIn wsX12_isRequire (wsV RX12 68 RX12 yX12_letter wsX12_letter) := goodIn_app (goodIn_of _ (by decide +kernel)) ggX12_isRequire_X12_letter
theorem dX12_isRequire_0 : decode cX12_isRequire 0 = .ok (.aload_n 0, 1) := by decide +kernel
theorem dX12_isRequire_1 : decode cX12_isRequire 1 = .ok (.bipush 7, 2) := by decide +kernel
theorem dX12_isRequire_3 : decode cX12_isRequire 3 = .ok (.invokevirtual 64, 3) := by decide +kernel
theorem dX12_isRequire_6 : decode cX12_isRequire 6 = .ok (.ifCond .eq 47, 3) := by decide +kernel
theorem dX12_isRequire_9 : decode cX12_isRequire 9 = .ok (.aload_n 0, 1) := by decide +kernel
theorem dX12_isRequire_10 : decode cX12_isRequire 10 = .ok (.iconst 0, 1) := by decide +kernel
theorem dX12_isRequire_11 : decode cX12_isRequire 11 = .ok (.invokevirtual 68, 3) := by decide +kernel
theorem dX12_isRequire_14 : decode cX12_isRequire 14 = .ok (.bipush 114, 2) := by decide +kernel
theorem dX12_isRequire_16 : decode cX12_isRequire 16 = .ok (.if_icmp .ne 37, 3) := by decide +kernel
theorem dX12_isRequire_19 : decode cX12_isRequire 19 = .ok (.aload_n 0, 1) := by decide +kernel
theorem dX12_isRequire_20 : decode cX12_isRequire 20 = .ok (.iconst 1, 1) := by decide +kernel
theorem dX12_isRequire_21 : decode cX12_isRequire 21 = .ok (.invokevirtual 68, 3) := by decide +kernel
theorem dX12_isRequire_24 : decode cX12_isRequire 24 = .ok (.bipush 101, 2) := by decide +kernel
theorem dX12_isRequire_26 : decode cX12_isRequire 26 = .ok (.if_icmp .ne 27, 3) := by decide +kernel
theorem dX12_isRequire_29 : decode cX12_isRequire 29 = .ok (.aload_n 0, 1) := by decide +kernel
theorem dX12_isRequire_30 : decode cX12_isRequire 30 = .ok (.iconst 2, 1) := by decide +kernel
theorem dX12_isRequire_31 : decode cX12_isRequire 31 = .ok (.invokevirtual 68, 3) := by decide +kernel
theorem dX12_isRequire_34 : decode cX12_isRequire 34 = .ok (.bipush 113, 2) := by decide +kernel
theorem dX12_isRequire_36 : decode cX12_isRequire 36 = .ok (.if_icmp .ne 17, 3) := by decide +kernel
theorem dX12_isRequire_39 : decode cX12_isRequire 39 = .ok (.aload_n 0, 1) := by decide +kernel
theorem dX12_isRequire_40 : decode cX12_isRequire 40 = .ok (.iconst 3, 1) := by decide +kernel
theorem dX12_isRequire_41 : decode cX12_isRequire 41 = .ok (.invokevirtual 68, 3) := by decide +kernel
theorem dX12_isRequire_44 : decode cX12_isRequire 44 = .ok (.bipush 117, 2) := by decide +kernel
theorem dX12_isRequire_46 : decode cX12_isRequire 46 = .ok (.if_icmp .ne 7, 3) := by decide +kernel
theorem dX12_isRequire_49 : decode cX12_isRequire 49 = .ok (.iconst 1, 1) := by decide +kernel
theorem dX12_isRequire_50 : decode cX12_isRequire 50 = .ok (.goto 4, 3) := by decide +kernel
theorem dX12_isRequire_53 : decode cX12_isRequire 53 = .ok (.iconst 0, 1) := by decide +kernel
theorem dX12_isRequire_54 : decode cX12_isRequire 54 = .ok (.istore_n 1, 1) := by decide +kernel
theorem dX12_isRequire_55 : decode cX12_isRequire 55 = .ok (.iload_n 1, 1) := by decide +kernel
theorem dX12_isRequire_56 : decode cX12_isRequire 56 = .ok (.ifCond .eq 38, 3) := by decide +kernel
theorem dX12_isRequire_59 : decode cX12_isRequire 59 = .ok (.aload_n 0, 1) := by decide +kernel
theorem dX12_isRequire_60 : decode cX12_isRequire 60 = .ok (.iconst 4, 1) := by decide +kernel
theorem dX12_isRequire_61 : decode cX12_isRequire 61 = .ok (.invokevirtual 68, 3) := by decide +kernel
theorem dX12_isRequire_64 : decode cX12_isRequire 64 = .ok (.bipush 105, 2) := by decide +kernel
theorem dX12_isRequire_66 : decode cX12_isRequire 66 = .ok (.if_icmp .ne 28, 3) := by decide +kernel
theorem dX12_isRequire_69 : decode cX12_isRequire 69 = .ok (.aload_n 0, 1) := by decide +kernel
theorem dX12_isRequire_70 : decode cX12_isRequire 70 = .ok (.iconst 5, 1) := by decide +kernel
theorem dX12_isRequire_71 : decode cX12_isRequire 71 = .ok (.invokevirtual 68, 3) := by decide +kernel
theorem dX12_isRequire_74 : decode cX12_isRequire 74 = .ok (.bipush 114, 2) := by decide +kernel
theorem dX12_isRequire_76 : decode cX12_isRequire 76 = .ok (.if_icmp .ne 18, 3) := by decide +kernel
theorem dX12_isRequire_79 : decode cX12_isRequire 79 = .ok (.aload_n 0, 1) := by decide +kernel
theorem dX12_isRequire_80 : decode cX12_isRequire 80 = .ok (.bipush 6, 2) := by decide +kernel
theorem dX12_isRequire_82 : decode cX12_isRequire 82 = .ok (.invokevirtual 68, 3) := by decide +kernel
theorem dX12_isRequire_85 : decode cX12_isRequire 85 = .ok (.bipush 101, 2) := by decide +kernel
theorem dX12_isRequire_87 : decode cX12_isRequire 87 = .ok (.if_icmp .ne 7, 3) := by decide +kernel
theorem dX12_isRequire_90 : decode cX12_isRequire 90 = .ok (.iconst 1, 1) := by decide +kernel
theorem dX12_isRequire_91 : decode cX12_isRequire 91 = .ok (.goto 4, 3) := by decide +kernel
theorem dX12_isRequire_94 : decode cX12_isRequire 94 = .ok (.iconst 0, 1) := by decide +kernel
theorem dX12_isRequire_95 : decode cX12_isRequire 95 = .ok (.ireturn, 1) := by decide +kernel
set_option maxRecDepth 20000 in
theorem ggX12_isDo_X12_isSize : GoodIn wsX12_isDo wsX12_isSize := goodIn_r _ [5, 6, 7, 8, 14, 15, 16, 17, 18, 19, 20, 21, 22, 23, 24, 25, 26, 27, 28, 29] (by decide +kernel) (by decide +kernel)
set_option maxRecDepth 20000 in
theorem gX12_isDo_X12_isSize : GoodIn wsX12_isDo (wsV RX12 64 RX12 yX12_isSize wsX12_isSize) := goodIn_app (goodIn_of _ (by decide +kernel)) ggX12_isDo_X12_isSize
set_option maxRecDepth 20000 in
theorem ggX12_isDo_X12_letter : GoodIn wsX12_isDo wsX12_letter := goodIn_r _ [12, 6, 8, 7, 13, 14, 15, 16, 17, 18, 19, 20, 21, 22, 23, 24, 25, 26, 27, 28, 29] (by decide +kernel) (by decide +kernel)
set_option maxRecDepth 20000 in
theorem gX12_isDo_X12_letter : GoodIn wsX12_isDo (wsV RX12 68 RX12 yX12_letter wsX12_letter) := goodIn_app (goodIn_of _ (by decide +kernel)) ggX12_isDo_X12_letter
theorem dX12_isDo_0 : decode cX12_isDo 0 = .ok (.aload_n 0, 1) := by decide +kernel
theorem dX12_isDo_1 : decode cX12_isDo 1 = .ok (.iconst 2, 1) := by decide +kernel
theorem dX12_isDo_2 : decode cX12_isDo 2 = .ok (.invokevirtual 64, 3) := by decide +kernel
theorem dX12_isDo_5 : decode cX12_isDo 5 = .ok (.ifCond .eq 27, 3) := by decide +kernel
theorem dX12_isDo_8 : decode cX12_isDo 8 = .ok (.aload_n 0, 1) := by decide +kernel
theorem dX12_isDo_9 : decode cX12_isDo 9 = .ok (.iconst 0, 1) := by decide +kernel
theorem dX12_isDo_10 : decode cX12_isDo 10 = .ok (.invokevirtual 68, 3) := by decide +kernel
theorem dX12_isDo_13 : decode cX12_isDo 13 = .ok (.bipush 100, 2) := by decide +kernel
theorem dX12_isDo_15 : decode cX12_isDo 15 = .ok (.if_icmp .ne 17, 3) := by decide +kernel
theorem dX12_isDo_18 : decode cX12_isDo 18 = .ok (.aload_n 0, 1) := by decide +kernel
theorem dX12_isDo_19 : decode cX12_isDo 19 = .ok (.iconst 1, 1) := by decide +kernel
theorem dX12_isDo_20 : decode cX12_isDo 20 = .ok (.invokevirtual 68, 3) := by decide +kernel
theorem dX12_isDo_23 : decode cX12_isDo 23 = .ok (.bipush 111, 2) := by decide +kernel
theorem dX12_isDo_25 : decode cX12_isDo 25 = .ok (.if_icmp .ne 7, 3) := by decide +kernel
theorem dX12_isDo_28 : decode cX12_isDo 28 = .ok (.iconst 1, 1) := by decide +kernel
theorem dX12_isDo_29 : decode cX12_isDo 29 = .ok (.goto 4, 3) := by decide +kernel
theorem dX12_isDo_32 : decode cX12_isDo 32 = .ok (.iconst 0, 1) := by decide +kernel
theorem dX12_isDo_33 : decode cX12_isDo 33 = .ok (.ireturn, 1) := by decide +kernel
set_option maxRecDepth 20000 in
theorem ggX12_isEnsure_X12_isSize : GoodIn wsX12_isEnsure wsX12_isSize := goodIn_r _ [5, 6, 7, 8, 14, 15, 16, 17, 18, 19, 20, 21, 22, 23, 24, 25, 26, 27, 28, 29] (by decide +kernel) (by decide +kernel)
set_option maxRecDepth 20000 in
theorem gX12_isEnsure_X12_isSize : GoodIn wsX12_isEnsure (wsV RX12 64 RX12 yX12_isSize wsX12_isSize) := goodIn_app (goodIn_of _ (by decide +kernel)) ggX12_isEnsure_X12_isSize
set_option maxRecDepth 20000 in
theorem ggX12_isEnsure_X12_letter : GoodIn wsX12_isEnsure wsX12_letter := goodIn_r _ [12, 6, 8, 7, 13, 14, 15, 16, 17, 18, 19, 20, 21, 22, 23, 24, 25, 26, 27, 28, 29] (by decide +kernel) (by decide +kernel)
set_option maxRecDepth 20000 in
theorem gX12_isEnsure_X12_letter : GoodIn wsX12_isEnsure (wsV RX12 68 RX12 yX12_letter wsX12_letter) := goodIn_app (goodIn_of _ (by decide +kernel)) ggX12_isEnsure_X12_letter
theorem dX12_isEnsure_0 : decode cX12_isEnsure 0 = .ok (.aload_n 0, 1) := by decide +kernel
theorem dX12_isEnsure_1 : decode cX12_isEnsure 1 = .ok (.bipush 6, 2) := by decide +kernel
theorem dX12_isEnsure_3 : decode cX12_isEnsure 3 = .ok (.invokevirtual 64, 3) := by decide +kernel
theorem dX12_isEnsure_6 : decode cX12_isEnsure 6 = .ok (.ifCond .eq 67, 3) := by decide +kernel
theorem dX12_isEnsure_9 : decode cX12_isEnsure 9 = .ok (.aload_n 0, 1) := by decide +kernel
theorem dX12_isEnsure_10 : decode cX12_isEnsure 10 = .ok (.iconst 0, 1) := by decide +kernel
theorem dX12_isEnsure_11 : decode cX12_isEnsure 11 = .ok (.invokevirtual 68, 3) := by decide +kernel
theorem dX12_isEnsure_14 : decode cX12_isEnsure 14 = .ok (.bipush 101, 2) := by decide +kernel
theorem dX12_isEnsure_16 : decode cX12_isEnsure 16 = .ok (.if_icmp .ne 57, 3) := by decide +kernel
theorem dX12_isEnsure_19 : decode cX12_isEnsure 19 = .ok (.aload_n 0, 1) := by decide +kernel
theorem dX12_isEnsure_20 : decode cX12_isEnsure 20 = .ok (.iconst 1, 1) := by decide +kernel
theorem dX12_isEnsure_21 : decode cX12_isEnsure 21 = .ok (.invokevirtual 68, 3) := by decide +kernel
theorem dX12_isEnsure_24 : decode cX12_isEnsure 24 = .ok (.bipush 110, 2) := by decide +kernel
theorem dX12_isEnsure_26 : decode cX12_isEnsure 26 = .ok (.if_icmp .ne 47, 3) := by decide +kernel
theorem dX12_isEnsure_29 : decode cX12_isEnsure 29 = .ok (.aload_n 0, 1) := by decide +kernel
theorem dX12_isEnsure_30 : decode cX12_isEnsure 30 = .ok (.iconst 2, 1) := by decide +kernel
theorem dX12_isEnsure_31 : decode cX12_isEnsure 31 = .ok (.invokevirtual 68, 3) := by decide +kernel
theorem dX12_isEnsure_34 : decode cX12_isEnsure 34 = .ok (.bipush 115, 2) := by decide +kernel
theorem dX12_isEnsure_36 : decode cX12_isEnsure 36 = .ok (.if_icmp .ne 37, 3) := by decide +kernel
theorem dX12_isEnsure_39 : decode cX12_isEnsure 39 = .ok (.aload_n 0, 1) := by decide +kernel
theorem dX12_isEnsure_40 : decode cX12_isEnsure 40 = .ok (.iconst 3, 1) := by decide +kernel
theorem dX12_isEnsure_41 : decode cX12_isEnsure 41 = .ok (.invokevirtual 68, 3) := by decide +kernel
theorem dX12_isEnsure_44 : decode cX12_isEnsure 44 = .ok (.bipush 117, 2) := by decide +kernel
theorem dX12_isEnsure_46 : decode cX12_isEnsure 46 = .ok (.if_icmp .ne 27, 3) := by decide +kernel
theorem dX12_isEnsure_49 : decode cX12_isEnsure 49 = .ok (.aload_n 0, 1) := by decide +kernel
theorem dX12_isEnsure_50 : decode cX12_isEnsure 50 = .ok (.iconst 4, 1) := by decide +kernel
theorem dX12_isEnsure_51 : decode cX12_isEnsure 51 = .ok (.invokevirtual 68, 3) := by decide +kernel
theorem dX12_isEnsure_54 : decode cX12_isEnsure 54 = .ok (.bipush 114, 2) := by decide +kernel
theorem dX12_isEnsure_56 : decode cX12_isEnsure 56 = .ok (.if_icmp .ne 17, 3) := by decide +kernel
theorem dX12_isEnsure_59 : decode cX12_isEnsure 59 = .ok (.aload_n 0, 1) := by decide +kernel
theorem dX12_isEnsure_60 : decode cX12_isEnsure 60 = .ok (.iconst 5, 1) := by decide +kernel
theorem dX12_isEnsure_61 : decode cX12_isEnsure 61 = .ok (.invokevirtual 68, 3) := by decide +kernel
theorem dX12_isEnsure_64 : decode cX12_isEnsure 64 = .ok (.bipush 101, 2) := by decide +kernel
theorem dX12_isEnsure_66 : decode cX12_isEnsure 66 = .ok (.if_icmp .ne 7, 3) := by decide +kernel
theorem dX12_isEnsure_69 : decode cX12_isEnsure 69 = .ok (.iconst 1, 1) := by decide +kernel
theorem dX12_isEnsure_70 : decode cX12_isEnsure 70 = .ok (.goto 4, 3) := by decide +kernel
theorem dX12_isEnsure_73 : decode cX12_isEnsure 73 = .ok (.iconst 0, 1) := by decide +kernel
theorem dX12_isEnsure_74 : decode cX12_isEnsure 74 = .ok (.ireturn, 1) := by decide +kernel
set_option maxRecDepth 20000 in
theorem ggX12_isOld_X12_isSize : GoodIn wsX12_isOld wsX12_isSize := goodIn_r _ [5, 6, 7, 8, 14, 15, 16, 17, 18, 19, 20, 21, 22, 23, 24, 25, 26, 27, 28, 29] (by decide +kernel) (by decide +kernel)
set_option maxRecDepth 20000 in
theorem gX12_isOld_X12_isSize : GoodIn wsX12_isOld (wsV RX12 64 RX12 yX12_isSize wsX12_isSize) := goodIn_app (goodIn_of _ (by decide +kernel)) ggX12_isOld_X12_isSize
set_option maxRecDepth 20000 in
theorem ggX12_isOld_X12_letter : GoodIn wsX12_isOld wsX12_letter := goodIn_r _ [12, 6, 8, 7, 13, 14, 15, 16, 17, 18, 19, 20, 21, 22, 23, 24, 25, 26, 27, 28, 29] (by decide +kernel) (by decide +kernel)
set_option maxRecDepth 20000 in
theorem gX12_isOld_X12_letter : GoodIn wsX12_isOld (wsV RX12 68 RX12 yX12_letter wsX12_letter) := goodIn_app (goodIn_of _ (by decide +kernel)) ggX12_isOld_X12_letter
theorem dX12_isOld_0 : decode cX12_isOld 0 = .ok (.aload_n 0, 1) := by decide +kernel
theorem dX12_isOld_1 : decode cX12_isOld 1 = .ok (.iconst 3, 1) := by decide +kernel
theorem dX12_isOld_2 : decode cX12_isOld 2 = .ok (.invokevirtual 64, 3) := by decide +kernel
theorem dX12_isOld_5 : decode cX12_isOld 5 = .ok (.ifCond .eq 37, 3) := by decide +kernel
theorem dX12_isOld_8 : decode cX12_isOld 8 = .ok (.aload_n 0, 1) := by decide +kernel
theorem dX12_isOld_9 : decode cX12_isOld 9 = .ok (.iconst 0, 1) := by decide +kernel
theorem dX12_isOld_10 : decode cX12_isOld 10 = .ok (.invokevirtual 68, 3) := by decide +kernel
theorem dX12_isOld_13 : decode cX12_isOld 13 = .ok (.bipush 111, 2) := by decide +kernel
theorem dX12_isOld_15 : decode cX12_isOld 15 = .ok (.if_icmp .ne 27, 3) := by decide +kernel
theorem dX12_isOld_18 : decode cX12_isOld 18 = .ok (.aload_n 0, 1) := by decide +kernel
theorem dX12_isOld_19 : decode cX12_isOld 19 = .ok (.iconst 1, 1) := by decide +kernel
theorem dX12_isOld_20 : decode cX12_isOld 20 = .ok (.invokevirtual 68, 3) := by decide +kernel
theorem dX12_isOld_23 : decode cX12_isOld 23 = .ok (.bipush 108, 2) := by decide +kernel
theorem dX12_isOld_25 : decode cX12_isOld 25 = .ok (.if_icmp .ne 17, 3) := by decide +kernel
theorem dX12_isOld_28 : decode cX12_isOld 28 = .ok (.aload_n 0, 1) := by decide +kernel
theorem dX12_isOld_29 : decode cX12_isOld 29 = .ok (.iconst 2, 1) := by decide +kernel
theorem dX12_isOld_30 : decode cX12_isOld 30 = .ok (.invokevirtual 68, 3) := by decide +kernel
theorem dX12_isOld_33 : decode cX12_isOld 33 = .ok (.bipush 100, 2) := by decide +kernel
theorem dX12_isOld_35 : decode cX12_isOld 35 = .ok (.if_icmp .ne 7, 3) := by decide +kernel
theorem dX12_isOld_38 : decode cX12_isOld 38 = .ok (.iconst 1, 1) := by decide +kernel
theorem dX12_isOld_39 : decode cX12_isOld 39 = .ok (.goto 4, 3) := by decide +kernel
theorem dX12_isOld_42 : decode cX12_isOld 42 = .ok (.iconst 0, 1) := by decide +kernel
theorem dX12_isOld_43 : decode cX12_isOld 43 = .ok (.ireturn, 1) := by decide +kernel
set_option maxRecDepth 20000 in
theorem ggX12_isField_X12_isSize : GoodIn wsX12_isField wsX12_isSize := goodIn_r _ [5, 6, 7, 8, 17, 18, 19, 20, 21, 22, 23, 24, 25, 26, 27, 28, 29, 30, 31, 32] (by decide +kernel) (by decide +kernel)
set_option maxRecDepth 20000 in
theorem gX12_isField_X12_isSize : GoodIn wsX12_isField (wsV RX12 64 RX12 yX12_isSize wsX12_isSize) := goodIn_app (goodIn_of _ (by decide +kernel)) ggX12_isField_X12_isSize
set_option maxRecDepth 20000 in
theorem ggX12_isField_X12_letter : GoodIn wsX12_isField wsX12_letter := goodIn_r _ [12, 6, 8, 7, 13, 17, 18, 19, 20, 21, 22, 23, 24, 25, 26, 27, 28, 29, 30, 31, 32] (by decide +kernel) (by decide +kernel)
set_option maxRecDepth 20000 in
theorem gX12_isField_X12_letter : GoodIn wsX12_isField (wsV RX12 68 RX12 yX12_letter wsX12_letter) := goodIn_app (goodIn_of _ (by decide +kernel)) ggX12_isField_X12_letter
set_option maxRecDepth 20000 in
theorem ggX12_isField_X12_in : GoodIn wsX12_isField wsX12_in := goodIn_r _ [16] (by decide +kernel) (by decide +kernel)
set_option maxRecDepth 20000 in
theorem gX12_isField_X12_in : GoodIn wsX12_isField (va_wsS RX12 60 yX12_in wsX12_in) := goodIn_app (goodIn_of _ (by decide +kernel)) ggX12_isField_X12_in
theorem dX12_isField_0 : decode cX12_isField 0 = .ok (.aload_n 0, 1) := by decide +kernel
theorem dX12_isField_1 : decode cX12_isField 1 = .ok (.iconst 1, 1) := by decide +kernel
theorem dX12_isField_2 : decode cX12_isField 2 = .ok (.invokevirtual 64, 3) := by decide +kernel
theorem dX12_isField_5 : decode cX12_isField 5 = .ok (.ifCond .eq 22, 3) := by decide +kernel
theorem dX12_isField_8 : decode cX12_isField 8 = .ok (.aload_n 0, 1) := by decide +kernel
theorem dX12_isField_9 : decode cX12_isField 9 = .ok (.iconst 0, 1) := by decide +kernel
theorem dX12_isField_10 : decode cX12_isField 10 = .ok (.invokevirtual 68, 3) := by decide +kernel
theorem dX12_isField_13 : decode cX12_isField 13 = .ok (.bipush 120, 2) := by decide +kernel
theorem dX12_isField_15 : decode cX12_isField 15 = .ok (.bipush 122, 2) := by decide +kernel
theorem dX12_isField_17 : decode cX12_isField 17 = .ok (.invokestatic 60, 3) := by decide +kernel
theorem dX12_isField_20 : decode cX12_isField 20 = .ok (.ifCond .eq 7, 3) := by decide +kernel
theorem dX12_isField_23 : decode cX12_isField 23 = .ok (.iconst 1, 1) := by decide +kernel
theorem dX12_isField_24 : decode cX12_isField 24 = .ok (.goto 4, 3) := by decide +kernel
theorem dX12_isField_27 : decode cX12_isField 27 = .ok (.iconst 0, 1) := by decide +kernel
theorem dX12_isField_28 : decode cX12_isField 28 = .ok (.ireturn, 1) := by decide +kernel
theorem dX12_isSign_0 : decode cX12_isSign 0 = .ok (.aload_n 0, 1) := by decide +kernel
theorem dX12_isSign_1 : decode cX12_isSign 1 = .ok (.getfield 57, 3) := by decide +kernel
theorem dX12_isSign_4 : decode cX12_isSign 4 = .ok (.iconst 3, 1) := by decide +kernel
theorem dX12_isSign_5 : decode cX12_isSign 5 = .ok (.if_icmp .ne 15, 3) := by decide +kernel
theorem dX12_isSign_8 : decode cX12_isSign 8 = .ok (.aload_n 0, 1) := by decide +kernel
theorem dX12_isSign_9 : decode cX12_isSign 9 = .ok (.getfield 54, 3) := by decide +kernel
theorem dX12_isSign_12 : decode cX12_isSign 12 = .ok (.iload_n 1, 1) := by decide +kernel
theorem dX12_isSign_13 : decode cX12_isSign 13 = .ok (.if_icmp .ne 7, 3) := by decide +kernel
theorem dX12_isSign_16 : decode cX12_isSign 16 = .ok (.iconst 1, 1) := by decide +kernel
theorem dX12_isSign_17 : decode cX12_isSign 17 = .ok (.goto 4, 3) := by decide +kernel
theorem dX12_isSign_20 : decode cX12_isSign 20 = .ok (.iconst 0, 1) := by decide +kernel
theorem dX12_isSign_21 : decode cX12_isSign 21 = .ok (.ireturn, 1) := by decide +kernel
set_option maxRecDepth 20000 in
theorem ggX12_take_X12_next : GoodIn wsX12_take wsX12_next := goodIn_r _ [6, 7, 8, 9, 10, 11, 12, 13, 5, 14, 15, 16, 17, 18, 19, 20, 21, 22, 23, 24, 25, 26, 27, 28, 29, 30, 31, 32, 33, 34, 35] (by decide +kernel) (by decide +kernel)
set_option maxRecDepth 20000 in
theorem gX12_take_X12_next : GoodIn wsX12_take (wsV RX12 76 RX12 yX12_next wsX12_next) := goodIn_app (goodIn_of _ (by decide +kernel)) ggX12_take_X12_next
theorem dX12_take_0 : decode cX12_take 0 = .ok (.aload_n 0, 1) := by decide +kernel
theorem dX12_take_1 : decode cX12_take 1 = .ok (.getfield 72, 3) := by decide +kernel
theorem dX12_take_4 : decode cX12_take 4 = .ok (.ifCond .ne 19, 3) := by decide +kernel
theorem dX12_take_7 : decode cX12_take 7 = .ok (.iload_n 1, 1) := by decide +kernel
theorem dX12_take_8 : decode cX12_take 8 = .ok (.ifCond .eq 10, 3) := by decide +kernel
theorem dX12_take_11 : decode cX12_take 11 = .ok (.aload_n 0, 1) := by decide +kernel
theorem dX12_take_12 : decode cX12_take 12 = .ok (.invokevirtual 76, 3) := by decide +kernel
theorem dX12_take_15 : decode cX12_take 15 = .ok (.goto 8, 3) := by decide +kernel
theorem dX12_take_18 : decode cX12_take 18 = .ok (.aload_n 0, 1) := by decide +kernel
theorem dX12_take_19 : decode cX12_take 19 = .ok (.iconst 1, 1) := by decide +kernel
theorem dX12_take_20 : decode cX12_take 20 = .ok (.putfield 72, 3) := by decide +kernel
theorem dX12_take_23 : decode cX12_take 23 = .ok (.return_, 1) := by decide +kernel
set_option maxRecDepth 20000 in
theorem ggX12_takeField_X12_letter : GoodIn wsX12_takeField wsX12_letter := goodIn_r _ [5, 6, 7, 8, 9, 36, 37, 38, 39, 40, 41, 42, 43, 44, 45, 46, 47, 48, 49, 50, 51] (by decide +kernel) (by decide +kernel)
set_option maxRecDepth 20000 in
theorem gX12_takeField_X12_letter : GoodIn wsX12_takeField (wsV RX12 68 RX12 yX12_letter wsX12_letter) := goodIn_app (goodIn_of _ (by decide +kernel)) ggX12_takeField_X12_letter
set_option maxRecDepth 20000 in
theorem ggX12_takeField_X12_isField : GoodIn wsX12_takeField wsX12_isField := goodIn_r _ [13, 14, 15, 16, 4, 17, 6, 8, 7, 1, 2, 3, 5, 9, 18, 19, 20, 36, 37, 38, 39, 40, 41, 42, 43, 44, 45, 46, 47, 48, 49, 50, 51] (by decide +kernel) (by decide +kernel)
set_option maxRecDepth 20000 in
theorem gX12_takeField_X12_isField : GoodIn wsX12_takeField (wsV RX12 79 RX12 yX12_isField wsX12_isField) := goodIn_app (goodIn_of _ (by decide +kernel)) ggX12_takeField_X12_isField
set_option maxRecDepth 20000 in
theorem ggX12_takeField_X12_take : GoodIn wsX12_takeField wsX12_take := goodIn_r _ [24, 25, 26, 27, 28, 4, 29, 8, 7, 30, 6, 31, 32, 33, 34, 35, 9, 18, 19, 20, 36, 37, 38, 39, 40, 41, 42, 43, 44, 45, 46, 47, 48, 49, 50, 51] (by decide +kernel) (by decide +kernel)
set_option maxRecDepth 20000 in
theorem gX12_takeField_X12_take : GoodIn wsX12_takeField (wsV RX12 83 RX12 yX12_take wsX12_take) := goodIn_app (goodIn_of _ (by decide +kernel)) ggX12_takeField_X12_take
theorem dX12_takeField_0 : decode cX12_takeField 0 = .ok (.aload_n 0, 1) := by decide +kernel
theorem dX12_takeField_1 : decode cX12_takeField 1 = .ok (.iconst 0, 1) := by decide +kernel
theorem dX12_takeField_2 : decode cX12_takeField 2 = .ok (.invokevirtual 68, 3) := by decide +kernel
theorem dX12_takeField_5 : decode cX12_takeField 5 = .ok (.bipush 120, 2) := by decide +kernel
theorem dX12_takeField_7 : decode cX12_takeField 7 = .ok (.isub, 1) := by decide +kernel
theorem dX12_takeField_8 : decode cX12_takeField 8 = .ok (.istore_n 1, 1) := by decide +kernel
theorem dX12_takeField_9 : decode cX12_takeField 9 = .ok (.aload_n 0, 1) := by decide +kernel
theorem dX12_takeField_10 : decode cX12_takeField 10 = .ok (.aload_n 0, 1) := by decide +kernel
theorem dX12_takeField_11 : decode cX12_takeField 11 = .ok (.invokevirtual 79, 3) := by decide +kernel
theorem dX12_takeField_14 : decode cX12_takeField 14 = .ok (.invokevirtual 83, 3) := by decide +kernel
theorem dX12_takeField_17 : decode cX12_takeField 17 = .ok (.iload_n 1, 1) := by decide +kernel
theorem dX12_takeField_18 : decode cX12_takeField 18 = .ok (.ireturn, 1) := by decide +kernel
set_option maxRecDepth 20000 in
theorem ggX12_takeNumber_X12_isSign : GoodIn wsX12_takeNumber wsX12_isSign := goodIn_r _ [9, 2, 1, 28, 29, 30, 31, 32, 33, 34, 35, 36, 37, 38, 39, 40, 41, 42, 43] (by decide +kernel) (by decide +kernel)
set_option maxRecDepth 20000 in
theorem gX12_takeNumber_X12_isSign : GoodIn wsX12_takeNumber (wsV RX12 87 RX12 yX12_isSign wsX12_isSign) := goodIn_app (goodIn_of _ (by decide +kernel)) ggX12_takeNumber_X12_isSign
set_option maxRecDepth 20000 in
theorem ggX12_takeNumber_X12_take : GoodIn wsX12_takeNumber wsX12_take := goodIn_r _ [13, 14, 15, 16, 17, 8, 18, 3, 4, 1, 2, 19, 20, 21, 22, 23, 24, 25, 26, 27, 28, 29, 30, 31, 32, 33, 34, 35, 36, 37, 38, 39, 40, 41, 42, 43] (by decide +kernel) (by decide +kernel)
set_option maxRecDepth 20000 in
theorem gX12_takeNumber_X12_take : GoodIn wsX12_takeNumber (wsV RX12 83 RX12 yX12_take wsX12_take) := goodIn_app (goodIn_of _ (by decide +kernel)) ggX12_takeNumber_X12_take
theorem dX12_takeNumber_0 : decode cX12_takeNumber 0 = .ok (.aload_n 0, 1) := by decide +kernel
theorem dX12_takeNumber_1 : decode cX12_takeNumber 1 = .ok (.bipush 45, 2) := by decide +kernel
theorem dX12_takeNumber_3 : decode cX12_takeNumber 3 = .ok (.invokevirtual 87, 3) := by decide +kernel
theorem dX12_takeNumber_6 : decode cX12_takeNumber 6 = .ok (.istore_n 1, 1) := by decide +kernel
theorem dX12_takeNumber_7 : decode cX12_takeNumber 7 = .ok (.iload_n 1, 1) := by decide +kernel
theorem dX12_takeNumber_8 : decode cX12_takeNumber 8 = .ok (.ifCond .eq 8, 3) := by decide +kernel
theorem dX12_takeNumber_11 : decode cX12_takeNumber 11 = .ok (.aload_n 0, 1) := by decide +kernel
theorem dX12_takeNumber_12 : decode cX12_takeNumber 12 = .ok (.iconst 1, 1) := by decide +kernel
theorem dX12_takeNumber_13 : decode cX12_takeNumber 13 = .ok (.invokevirtual 83, 3) := by decide +kernel
theorem dX12_takeNumber_16 : decode cX12_takeNumber 16 = .ok (.aload_n 0, 1) := by decide +kernel
theorem dX12_takeNumber_17 : decode cX12_takeNumber 17 = .ok (.getfield 54, 3) := by decide +kernel
theorem dX12_takeNumber_20 : decode cX12_takeNumber 20 = .ok (.istore_n 2, 1) := by decide +kernel
theorem dX12_takeNumber_21 : decode cX12_takeNumber 21 = .ok (.aload_n 0, 1) := by decide +kernel
theorem dX12_takeNumber_22 : decode cX12_takeNumber 22 = .ok (.aload_n 0, 1) := by decide +kernel
theorem dX12_takeNumber_23 : decode cX12_takeNumber 23 = .ok (.getfield 57, 3) := by decide +kernel
theorem dX12_takeNumber_26 : decode cX12_takeNumber 26 = .ok (.iconst 2, 1) := by decide +kernel
theorem dX12_takeNumber_27 : decode cX12_takeNumber 27 = .ok (.if_icmp .ne 20, 3) := by decide +kernel
theorem dX12_takeNumber_30 : decode cX12_takeNumber 30 = .ok (.aload_n 0, 1) := by decide +kernel
theorem dX12_takeNumber_31 : decode cX12_takeNumber 31 = .ok (.getfield 41, 3) := by decide +kernel
theorem dX12_takeNumber_34 : decode cX12_takeNumber 34 = .ok (.aload_n 0, 1) := by decide +kernel
theorem dX12_takeNumber_35 : decode cX12_takeNumber 35 = .ok (.getfield 51, 3) := by decide +kernel
theorem dX12_takeNumber_38 : decode cX12_takeNumber 38 = .ok (.isub, 1) := by decide +kernel
theorem dX12_takeNumber_39 : decode cX12_takeNumber 39 = .ok (.iconst 3, 1) := by decide +kernel
theorem dX12_takeNumber_40 : decode cX12_takeNumber 40 = .ok (.if_icmp .ge 7, 3) := by decide +kernel
theorem dX12_takeNumber_43 : decode cX12_takeNumber 43 = .ok (.iconst 1, 1) := by decide +kernel
theorem dX12_takeNumber_44 : decode cX12_takeNumber 44 = .ok (.goto 4, 3) := by decide +kernel
theorem dX12_takeNumber_47 : decode cX12_takeNumber 47 = .ok (.iconst 0, 1) := by decide +kernel
theorem dX12_takeNumber_48 : decode cX12_takeNumber 48 = .ok (.invokevirtual 83, 3) := by decide +kernel
theorem dX12_takeNumber_51 : decode cX12_takeNumber 51 = .ok (.iload_n 1, 1) := by decide +kernel
theorem dX12_takeNumber_52 : decode cX12_takeNumber 52 = .ok (.ifCond .eq 8, 3) := by decide +kernel
theorem dX12_takeNumber_55 : decode cX12_takeNumber 55 = .ok (.iload_n 2, 1) := by decide +kernel
theorem dX12_takeNumber_56 : decode cX12_takeNumber 56 = .ok (.ineg, 1) := by decide +kernel
theorem dX12_takeNumber_57 : decode cX12_takeNumber 57 = .ok (.goto 4, 3) := by decide +kernel
theorem dX12_takeNumber_60 : decode cX12_takeNumber 60 = .ok (.iload_n 2, 1) := by decide +kernel
theorem dX12_takeNumber_61 : decode cX12_takeNumber 61 = .ok (.ireturn, 1) := by decide +kernel
set_option maxRecDepth 20000 in
theorem ggX12_takeOperand_X12_isOld : GoodIn wsX12_takeOperand wsX12_isOld := goodIn_r _ [5, 6, 7, 8, 4, 9, 10, 11, 12, 13, 14, 15, 16, 17, 52, 53, 54, 55, 56, 57, 58, 59, 60, 61, 62, 63, 64, 65, 66, 67] (by decide +kernel) (by decide +kernel)
set_option maxRecDepth 20000 in
theorem gX12_takeOperand_X12_isOld : GoodIn wsX12_takeOperand (wsV RX12 90 RX12 yX12_isOld wsX12_isOld) := goodIn_app (goodIn_of _ (by decide +kernel)) ggX12_takeOperand_X12_isOld
set_option maxRecDepth 20000 in
theorem ggX12_takeOperand_X12_take : GoodIn wsX12_takeOperand wsX12_take := goodIn_r _ [21, 22, 23, 24, 25, 4, 26, 11, 12, 27, 10, 28, 29, 30, 31, 32, 17, 33, 34, 35, 52, 53, 54, 55, 56, 57, 58, 59, 60, 61, 62, 63, 64, 65, 66, 67] (by decide +kernel) (by decide +kernel)
set_option maxRecDepth 20000 in
theorem gX12_takeOperand_X12_take : GoodIn wsX12_takeOperand (wsV RX12 83 RX12 yX12_take wsX12_take) := goodIn_app (goodIn_of _ (by decide +kernel)) ggX12_takeOperand_X12_take
set_option maxRecDepth 20000 in
theorem ggX12_takeOperand_X12_takeField : GoodIn wsX12_takeOperand wsX12_takeField := goodIn_r _ [39, 13, 14, 15, 4, 16, 10, 12, 11, 17, 40, 41, 42, 43, 6, 7, 8, 9, 33, 34, 35, 18, 19, 20, 21, 22, 23, 24, 25, 26, 27, 28, 29, 30, 31, 32, 52, 53, 54, 55, 56, 57, 58, 59, 60, 61, 62, 63, 64, 65, 66, 67] (by decide +kernel) (by decide +kernel)
set_option maxRecDepth 20000 in
theorem gX12_takeOperand_X12_takeField : GoodIn wsX12_takeOperand (wsV RX12 93 RX12 yX12_takeField wsX12_takeField) := goodIn_app (goodIn_of _ (by decide +kernel)) ggX12_takeOperand_X12_takeField
set_option maxRecDepth 20000 in
theorem ggX12_takeOperand_X12_isField : GoodIn wsX12_takeOperand wsX12_isField := goodIn_r _ [43, 6, 7, 8, 4, 9, 10, 11, 12, 13, 14, 15, 16, 17, 33, 34, 35, 52, 53, 54, 55, 56, 57, 58, 59, 60, 61, 62, 63, 64, 65, 66, 67] (by decide +kernel) (by decide +kernel)
set_option maxRecDepth 20000 in
theorem gX12_takeOperand_X12_isField : GoodIn wsX12_takeOperand (wsV RX12 79 RX12 yX12_isField wsX12_isField) := goodIn_app (goodIn_of _ (by decide +kernel)) ggX12_takeOperand_X12_isField
set_option maxRecDepth 20000 in
theorem ggX12_takeOperand_X12_takeNumber : GoodIn wsX12_takeOperand wsX12_takeNumber := goodIn_r _ [47, 27, 10, 11, 12, 48, 49, 50, 4, 51, 18, 19, 20, 21, 22, 23, 24, 25, 26, 28, 29, 30, 31, 32, 17, 33, 34, 35, 52, 53, 54, 55, 56, 57, 58, 59, 60, 61, 62, 63, 64, 65, 66, 67] (by decide +kernel) (by decide +kernel)
set_option maxRecDepth 20000 in
theorem gX12_takeOperand_X12_takeNumber : GoodIn wsX12_takeOperand (wsV RX12 96 RX12 yX12_takeNumber wsX12_takeNumber) := goodIn_app (goodIn_of _ (by decide +kernel)) ggX12_takeOperand_X12_takeNumber
theorem dX12_takeOperand_0 : decode cX12_takeOperand 0 = .ok (.iload_n 1, 1) := by decide +kernel
theorem dX12_takeOperand_1 : decode cX12_takeOperand 1 = .ok (.ifCond .eq 22, 3) := by decide +kernel
theorem dX12_takeOperand_4 : decode cX12_takeOperand 4 = .ok (.aload_n 0, 1) := by decide +kernel
theorem dX12_takeOperand_5 : decode cX12_takeOperand 5 = .ok (.invokevirtual 90, 3) := by decide +kernel
theorem dX12_takeOperand_8 : decode cX12_takeOperand 8 = .ok (.ifCond .eq 15, 3) := by decide +kernel
theorem dX12_takeOperand_11 : decode cX12_takeOperand 11 = .ok (.aload_n 0, 1) := by decide +kernel
theorem dX12_takeOperand_12 : decode cX12_takeOperand 12 = .ok (.iconst 1, 1) := by decide +kernel
theorem dX12_takeOperand_13 : decode cX12_takeOperand 13 = .ok (.invokevirtual 83, 3) := by decide +kernel
theorem dX12_takeOperand_16 : decode cX12_takeOperand 16 = .ok (.iconst 3, 1) := by decide +kernel
theorem dX12_takeOperand_17 : decode cX12_takeOperand 17 = .ok (.aload_n 0, 1) := by decide +kernel
theorem dX12_takeOperand_18 : decode cX12_takeOperand 18 = .ok (.invokevirtual 93, 3) := by decide +kernel
theorem dX12_takeOperand_21 : decode cX12_takeOperand 21 = .ok (.iadd, 1) := by decide +kernel
theorem dX12_takeOperand_22 : decode cX12_takeOperand 22 = .ok (.ireturn, 1) := by decide +kernel
theorem dX12_takeOperand_23 : decode cX12_takeOperand 23 = .ok (.aload_n 0, 1) := by decide +kernel
theorem dX12_takeOperand_24 : decode cX12_takeOperand 24 = .ok (.invokevirtual 79, 3) := by decide +kernel
theorem dX12_takeOperand_27 : decode cX12_takeOperand 27 = .ok (.ifCond .eq 10, 3) := by decide +kernel
theorem dX12_takeOperand_30 : decode cX12_takeOperand 30 = .ok (.aload_n 0, 1) := by decide +kernel
theorem dX12_takeOperand_31 : decode cX12_takeOperand 31 = .ok (.invokevirtual 93, 3) := by decide +kernel
theorem dX12_takeOperand_34 : decode cX12_takeOperand 34 = .ok (.goto 11, 3) := by decide +kernel
theorem dX12_takeOperand_37 : decode cX12_takeOperand 37 = .ok (.sipush 1100, 3) := by decide +kernel
theorem dX12_takeOperand_40 : decode cX12_takeOperand 40 = .ok (.aload_n 0, 1) := by decide +kernel
theorem dX12_takeOperand_41 : decode cX12_takeOperand 41 = .ok (.invokevirtual 96, 3) := by decide +kernel
theorem dX12_takeOperand_44 : decode cX12_takeOperand 44 = .ok (.iadd, 1) := by decide +kernel
theorem dX12_takeOperand_45 : decode cX12_takeOperand 45 = .ok (.ireturn, 1) := by decide +kernel
set_option maxRecDepth 20000 in
theorem ggX12_takeRelation_X12_isSign : GoodIn wsX12_takeRelation wsX12_isSign := goodIn_r _ [5, 6, 7, 28, 29, 30, 31, 32, 33, 34, 35, 36, 37, 38, 39, 40, 41, 42, 43] (by decide +kernel) (by decide +kernel)
set_option maxRecDepth 20000 in
theorem gX12_takeRelation_X12_isSign : GoodIn wsX12_takeRelation (wsV RX12 87 RX12 yX12_isSign wsX12_isSign) := goodIn_app (goodIn_of _ (by decide +kernel)) ggX12_takeRelation_X12_isSign
set_option maxRecDepth 20000 in
theorem ggX12_takeRelation_X12_take : GoodIn wsX12_takeRelation wsX12_take := goodIn_r _ [11, 12, 13, 14, 15, 4, 16, 17, 18, 7, 6, 19, 20, 21, 22, 23, 24, 25, 26, 27, 28, 29, 30, 31, 32, 33, 34, 35, 36, 37, 38, 39, 40, 41, 42, 43] (by decide +kernel) (by decide +kernel)
set_option maxRecDepth 20000 in
theorem gX12_takeRelation_X12_take : GoodIn wsX12_takeRelation (wsV RX12 83 RX12 yX12_take wsX12_take) := goodIn_app (goodIn_of _ (by decide +kernel)) ggX12_takeRelation_X12_take
theorem dX12_takeRelation_0 : decode cX12_takeRelation 0 = .ok (.aload_n 0, 1) := by decide +kernel
theorem dX12_takeRelation_1 : decode cX12_takeRelation 1 = .ok (.bipush 60, 2) := by decide +kernel
theorem dX12_takeRelation_3 : decode cX12_takeRelation 3 = .ok (.invokevirtual 87, 3) := by decide +kernel
theorem dX12_takeRelation_6 : decode cX12_takeRelation 6 = .ok (.ifCond .eq 7, 3) := by decide +kernel
theorem dX12_takeRelation_9 : decode cX12_takeRelation 9 = .ok (.iconst 0, 1) := by decide +kernel
theorem dX12_takeRelation_10 : decode cX12_takeRelation 10 = .ok (.goto 17, 3) := by decide +kernel
theorem dX12_takeRelation_13 : decode cX12_takeRelation 13 = .ok (.aload_n 0, 1) := by decide +kernel
theorem dX12_takeRelation_14 : decode cX12_takeRelation 14 = .ok (.bipush 61, 2) := by decide +kernel
theorem dX12_takeRelation_16 : decode cX12_takeRelation 16 = .ok (.invokevirtual 87, 3) := by decide +kernel
theorem dX12_takeRelation_19 : decode cX12_takeRelation 19 = .ok (.ifCond .eq 7, 3) := by decide +kernel
theorem dX12_takeRelation_22 : decode cX12_takeRelation 22 = .ok (.iconst 1, 1) := by decide +kernel
theorem dX12_takeRelation_23 : decode cX12_takeRelation 23 = .ok (.goto 4, 3) := by decide +kernel
theorem dX12_takeRelation_26 : decode cX12_takeRelation 26 = .ok (.iconst 2, 1) := by decide +kernel
theorem dX12_takeRelation_27 : decode cX12_takeRelation 27 = .ok (.istore_n 1, 1) := by decide +kernel
theorem dX12_takeRelation_28 : decode cX12_takeRelation 28 = .ok (.aload_n 0, 1) := by decide +kernel
theorem dX12_takeRelation_29 : decode cX12_takeRelation 29 = .ok (.aload_n 0, 1) := by decide +kernel
theorem dX12_takeRelation_30 : decode cX12_takeRelation 30 = .ok (.bipush 60, 2) := by decide +kernel
theorem dX12_takeRelation_32 : decode cX12_takeRelation 32 = .ok (.invokevirtual 87, 3) := by decide +kernel
theorem dX12_takeRelation_35 : decode cX12_takeRelation 35 = .ok (.ifCond .ne 21, 3) := by decide +kernel
theorem dX12_takeRelation_38 : decode cX12_takeRelation 38 = .ok (.aload_n 0, 1) := by decide +kernel
theorem dX12_takeRelation_39 : decode cX12_takeRelation 39 = .ok (.bipush 61, 2) := by decide +kernel
theorem dX12_takeRelation_41 : decode cX12_takeRelation 41 = .ok (.invokevirtual 87, 3) := by decide +kernel
theorem dX12_takeRelation_44 : decode cX12_takeRelation 44 = .ok (.ifCond .ne 12, 3) := by decide +kernel
theorem dX12_takeRelation_47 : decode cX12_takeRelation 47 = .ok (.aload_n 0, 1) := by decide +kernel
theorem dX12_takeRelation_48 : decode cX12_takeRelation 48 = .ok (.bipush 62, 2) := by decide +kernel
theorem dX12_takeRelation_50 : decode cX12_takeRelation 50 = .ok (.invokevirtual 87, 3) := by decide +kernel
theorem dX12_takeRelation_53 : decode cX12_takeRelation 53 = .ok (.ifCond .eq 7, 3) := by decide +kernel
theorem dX12_takeRelation_56 : decode cX12_takeRelation 56 = .ok (.iconst 1, 1) := by decide +kernel
theorem dX12_takeRelation_57 : decode cX12_takeRelation 57 = .ok (.goto 4, 3) := by decide +kernel
theorem dX12_takeRelation_60 : decode cX12_takeRelation 60 = .ok (.iconst 0, 1) := by decide +kernel
theorem dX12_takeRelation_61 : decode cX12_takeRelation 61 = .ok (.invokevirtual 83, 3) := by decide +kernel
theorem dX12_takeRelation_64 : decode cX12_takeRelation 64 = .ok (.iload_n 1, 1) := by decide +kernel
theorem dX12_takeRelation_65 : decode cX12_takeRelation 65 = .ok (.ireturn, 1) := by decide +kernel
set_option maxRecDepth 20000 in
theorem ggX12_takeCondition_X12_takeOperand : GoodIn wsX12_takeCondition wsX12_takeOperand := goodIn_r _ [6, 7, 8, 9, 5, 10, 11, 12, 13, 14, 15, 16, 17, 18, 19, 20, 21, 22, 23, 24, 25, 26, 27, 28, 29, 30, 31, 32, 33, 34, 35, 36, 37, 38, 39, 40, 41, 42, 43, 44, 45, 46, 47, 48, 49, 50, 51, 52, 53, 54, 55, 56, 61, 62, 63, 64, 65, 66, 67, 68, 69, 70, 71, 72, 73, 74, 75, 76] (by decide +kernel) (by decide +kernel)
set_option maxRecDepth 20000 in
theorem gX12_takeCondition_X12_takeOperand : GoodIn wsX12_takeCondition (wsV RX12 99 RX12 yX12_takeOperand wsX12_takeOperand) := goodIn_app (goodIn_of _ (by decide +kernel)) ggX12_takeCondition_X12_takeOperand
set_option maxRecDepth 20000 in
theorem ggX12_takeCondition_X12_takeRelation : GoodIn wsX12_takeCondition wsX12_takeRelation := goodIn_r _ [60, 53, 54, 55, 5, 56, 15, 32, 23, 24, 25, 26, 27, 28, 29, 30, 31, 16, 17, 33, 34, 35, 36, 37, 22, 38, 39, 40, 61, 62, 63, 64, 65, 66, 67, 68, 69, 70, 71, 72, 73, 74, 75, 76] (by decide +kernel) (by decide +kernel)
set_option maxRecDepth 20000 in
theorem gX12_takeCondition_X12_takeRelation : GoodIn wsX12_takeCondition (wsV RX12 103 RX12 yX12_takeRelation wsX12_takeRelation) := goodIn_app (goodIn_of _ (by decide +kernel)) ggX12_takeCondition_X12_takeRelation
theorem dX12_takeCondition_0 : decode cX12_takeCondition 0 = .ok (.aload_n 0, 1) := by decide +kernel
theorem dX12_takeCondition_1 : decode cX12_takeCondition 1 = .ok (.getfield 13, 3) := by decide +kernel
theorem dX12_takeCondition_4 : decode cX12_takeCondition 4 = .ok (.iload_n 1, 1) := by decide +kernel
theorem dX12_takeCondition_5 : decode cX12_takeCondition 5 = .ok (.aload_n 0, 1) := by decide +kernel
theorem dX12_takeCondition_6 : decode cX12_takeCondition 6 = .ok (.iload_n 2, 1) := by decide +kernel
theorem dX12_takeCondition_7 : decode cX12_takeCondition 7 = .ok (.invokevirtual 99, 3) := by decide +kernel
theorem dX12_takeCondition_10 : decode cX12_takeCondition 10 = .ok (.iastore, 1) := by decide +kernel
theorem dX12_takeCondition_11 : decode cX12_takeCondition 11 = .ok (.aload_n 0, 1) := by decide +kernel
theorem dX12_takeCondition_12 : decode cX12_takeCondition 12 = .ok (.getfield 13, 3) := by decide +kernel
theorem dX12_takeCondition_15 : decode cX12_takeCondition 15 = .ok (.iload_n 1, 1) := by decide +kernel
theorem dX12_takeCondition_16 : decode cX12_takeCondition 16 = .ok (.iconst 1, 1) := by decide +kernel
theorem dX12_takeCondition_17 : decode cX12_takeCondition 17 = .ok (.iadd, 1) := by decide +kernel
theorem dX12_takeCondition_18 : decode cX12_takeCondition 18 = .ok (.aload_n 0, 1) := by decide +kernel
theorem dX12_takeCondition_19 : decode cX12_takeCondition 19 = .ok (.invokevirtual 103, 3) := by decide +kernel
theorem dX12_takeCondition_22 : decode cX12_takeCondition 22 = .ok (.iastore, 1) := by decide +kernel
theorem dX12_takeCondition_23 : decode cX12_takeCondition 23 = .ok (.aload_n 0, 1) := by decide +kernel
theorem dX12_takeCondition_24 : decode cX12_takeCondition 24 = .ok (.getfield 13, 3) := by decide +kernel
theorem dX12_takeCondition_27 : decode cX12_takeCondition 27 = .ok (.iload_n 1, 1) := by decide +kernel
theorem dX12_takeCondition_28 : decode cX12_takeCondition 28 = .ok (.iconst 2, 1) := by decide +kernel
theorem dX12_takeCondition_29 : decode cX12_takeCondition 29 = .ok (.iadd, 1) := by decide +kernel
theorem dX12_takeCondition_30 : decode cX12_takeCondition 30 = .ok (.aload_n 0, 1) := by decide +kernel
theorem dX12_takeCondition_31 : decode cX12_takeCondition 31 = .ok (.iload_n 2, 1) := by decide +kernel
theorem dX12_takeCondition_32 : decode cX12_takeCondition 32 = .ok (.invokevirtual 99, 3) := by decide +kernel
theorem dX12_takeCondition_35 : decode cX12_takeCondition 35 = .ok (.iastore, 1) := by decide +kernel
theorem dX12_takeCondition_36 : decode cX12_takeCondition 36 = .ok (.return_, 1) := by decide +kernel
set_option maxRecDepth 20000 in
theorem ggX12_takeAssignment_X12_takeField : GoodIn wsX12_takeAssignment wsX12_takeField := goodIn_r _ [7, 8, 9, 10, 6, 11, 12, 13, 14, 15, 16, 17, 18, 19, 20, 21, 22, 23, 24, 25, 26, 27, 28, 29, 30, 2, 31, 32, 33, 34, 35, 36, 37, 38, 39, 40, 57, 58, 59, 60, 61, 62, 63, 64, 65, 66, 67, 68, 69, 70, 71, 72] (by decide +kernel) (by decide +kernel)
set_option maxRecDepth 20000 in
theorem gX12_takeAssignment_X12_takeField : GoodIn wsX12_takeAssignment (wsV RX12 93 RX12 yX12_takeField wsX12_takeField) := goodIn_app (goodIn_of _ (by decide +kernel)) ggX12_takeAssignment_X12_takeField
set_option maxRecDepth 20000 in
theorem ggX12_takeAssignment_X12_isSign : GoodIn wsX12_takeAssignment wsX12_isSign := goodIn_r _ [44, 12, 35, 57, 58, 59, 60, 61, 62, 63, 64, 65, 66, 67, 68, 69, 70, 71, 72] (by decide +kernel) (by decide +kernel)
set_option maxRecDepth 20000 in
theorem gX12_takeAssignment_X12_isSign : GoodIn wsX12_takeAssignment (wsV RX12 87 RX12 yX12_isSign wsX12_isSign) := goodIn_app (goodIn_of _ (by decide +kernel)) ggX12_takeAssignment_X12_isSign
set_option maxRecDepth 20000 in
theorem ggX12_takeAssignment_X12_take : GoodIn wsX12_takeAssignment wsX12_take := goodIn_r _ [30, 2, 31, 32, 33, 6, 34, 14, 13, 35, 12, 36, 37, 38, 39, 40, 15, 24, 25, 26, 57, 58, 59, 60, 61, 62, 63, 64, 65, 66, 67, 68, 69, 70, 71, 72] (by decide +kernel) (by decide +kernel)
set_option maxRecDepth 20000 in
theorem gX12_takeAssignment_X12_take : GoodIn wsX12_takeAssignment (wsV RX12 83 RX12 yX12_take wsX12_take) := goodIn_app (goodIn_of _ (by decide +kernel)) ggX12_takeAssignment_X12_take
set_option maxRecDepth 20000 in
theorem ggX12_takeAssignment_X12_takeOperand : GoodIn wsX12_takeAssignment wsX12_takeOperand := goodIn_r _ [48, 49, 50, 51, 6, 52, 20, 21, 22, 23, 12, 14, 13, 8, 9, 10, 11, 15, 27, 28, 29, 30, 2, 31, 32, 33, 34, 35, 36, 37, 38, 39, 40, 24, 25, 26, 3, 4, 5, 7, 16, 17, 18, 19, 53, 54, 55, 56, 41, 42, 43, 44, 57, 58, 59, 60, 61, 62, 63, 64, 65, 66, 67, 68, 69, 70, 71, 72] (by decide +kernel) (by decide +kernel)
set_option maxRecDepth 20000 in
theorem gX12_takeAssignment_X12_takeOperand : GoodIn wsX12_takeAssignment (wsV RX12 99 RX12 yX12_takeOperand wsX12_takeOperand) := goodIn_app (goodIn_of _ (by decide +kernel)) ggX12_takeAssignment_X12_takeOperand
theorem dX12_takeAssignment_0 : decode cX12_takeAssignment 0 = .ok (.aload_n 0, 1) := by decide +kernel
theorem dX12_takeAssignment_1 : decode cX12_takeAssignment 1 = .ok (.getfield 13, 3) := by decide +kernel
theorem dX12_takeAssignment_4 : decode cX12_takeAssignment 4 = .ok (.iload_n 1, 1) := by decide +kernel
theorem dX12_takeAssignment_5 : decode cX12_takeAssignment 5 = .ok (.aload_n 0, 1) := by decide +kernel
theorem dX12_takeAssignment_6 : decode cX12_takeAssignment 6 = .ok (.invokevirtual 93, 3) := by decide +kernel
theorem dX12_takeAssignment_9 : decode cX12_takeAssignment 9 = .ok (.iastore, 1) := by decide +kernel
theorem dX12_takeAssignment_10 : decode cX12_takeAssignment 10 = .ok (.aload_n 0, 1) := by decide +kernel
theorem dX12_takeAssignment_11 : decode cX12_takeAssignment 11 = .ok (.aload_n 0, 1) := by decide +kernel
theorem dX12_takeAssignment_12 : decode cX12_takeAssignment 12 = .ok (.bipush 61, 2) := by decide +kernel
theorem dX12_takeAssignment_14 : decode cX12_takeAssignment 14 = .ok (.invokevirtual 87, 3) := by decide +kernel
theorem dX12_takeAssignment_17 : decode cX12_takeAssignment 17 = .ok (.invokevirtual 83, 3) := by decide +kernel
theorem dX12_takeAssignment_20 : decode cX12_takeAssignment 20 = .ok (.aload_n 0, 1) := by decide +kernel
theorem dX12_takeAssignment_21 : decode cX12_takeAssignment 21 = .ok (.getfield 13, 3) := by decide +kernel
theorem dX12_takeAssignment_24 : decode cX12_takeAssignment 24 = .ok (.iload_n 1, 1) := by decide +kernel
theorem dX12_takeAssignment_25 : decode cX12_takeAssignment 25 = .ok (.iconst 1, 1) := by decide +kernel
theorem dX12_takeAssignment_26 : decode cX12_takeAssignment 26 = .ok (.iadd, 1) := by decide +kernel
theorem dX12_takeAssignment_27 : decode cX12_takeAssignment 27 = .ok (.aload_n 0, 1) := by decide +kernel
theorem dX12_takeAssignment_28 : decode cX12_takeAssignment 28 = .ok (.iconst 0, 1) := by decide +kernel
theorem dX12_takeAssignment_29 : decode cX12_takeAssignment 29 = .ok (.invokevirtual 99, 3) := by decide +kernel
theorem dX12_takeAssignment_32 : decode cX12_takeAssignment 32 = .ok (.iastore, 1) := by decide +kernel
theorem dX12_takeAssignment_33 : decode cX12_takeAssignment 33 = .ok (.aload_n 0, 1) := by decide +kernel
theorem dX12_takeAssignment_34 : decode cX12_takeAssignment 34 = .ok (.getfield 13, 3) := by decide +kernel
theorem dX12_takeAssignment_37 : decode cX12_takeAssignment 37 = .ok (.iload_n 1, 1) := by decide +kernel
theorem dX12_takeAssignment_38 : decode cX12_takeAssignment 38 = .ok (.iconst 2, 1) := by decide +kernel
theorem dX12_takeAssignment_39 : decode cX12_takeAssignment 39 = .ok (.iadd, 1) := by decide +kernel
theorem dX12_takeAssignment_40 : decode cX12_takeAssignment 40 = .ok (.aload_n 0, 1) := by decide +kernel
theorem dX12_takeAssignment_41 : decode cX12_takeAssignment 41 = .ok (.bipush 43, 2) := by decide +kernel
theorem dX12_takeAssignment_43 : decode cX12_takeAssignment 43 = .ok (.invokevirtual 87, 3) := by decide +kernel
theorem dX12_takeAssignment_46 : decode cX12_takeAssignment 46 = .ok (.ifCond .eq 7, 3) := by decide +kernel
theorem dX12_takeAssignment_49 : decode cX12_takeAssignment 49 = .ok (.iconst 1, 1) := by decide +kernel
theorem dX12_takeAssignment_50 : decode cX12_takeAssignment 50 = .ok (.goto 17, 3) := by decide +kernel
theorem dX12_takeAssignment_53 : decode cX12_takeAssignment 53 = .ok (.aload_n 0, 1) := by decide +kernel
theorem dX12_takeAssignment_54 : decode cX12_takeAssignment 54 = .ok (.bipush 45, 2) := by decide +kernel
theorem dX12_takeAssignment_56 : decode cX12_takeAssignment 56 = .ok (.invokevirtual 87, 3) := by decide +kernel
theorem dX12_takeAssignment_59 : decode cX12_takeAssignment 59 = .ok (.ifCond .eq 7, 3) := by decide +kernel
theorem dX12_takeAssignment_62 : decode cX12_takeAssignment 62 = .ok (.iconst (-1), 1) := by decide +kernel
theorem dX12_takeAssignment_63 : decode cX12_takeAssignment 63 = .ok (.goto 4, 3) := by decide +kernel
theorem dX12_takeAssignment_66 : decode cX12_takeAssignment 66 = .ok (.iconst 0, 1) := by decide +kernel
theorem dX12_takeAssignment_67 : decode cX12_takeAssignment 67 = .ok (.iastore, 1) := by decide +kernel
theorem dX12_takeAssignment_68 : decode cX12_takeAssignment 68 = .ok (.aload_n 0, 1) := by decide +kernel
theorem dX12_takeAssignment_69 : decode cX12_takeAssignment 69 = .ok (.getfield 13, 3) := by decide +kernel
theorem dX12_takeAssignment_72 : decode cX12_takeAssignment 72 = .ok (.iload_n 1, 1) := by decide +kernel
theorem dX12_takeAssignment_73 : decode cX12_takeAssignment 73 = .ok (.iconst 3, 1) := by decide +kernel
theorem dX12_takeAssignment_74 : decode cX12_takeAssignment 74 = .ok (.iadd, 1) := by decide +kernel
theorem dX12_takeAssignment_75 : decode cX12_takeAssignment 75 = .ok (.iconst 0, 1) := by decide +kernel
theorem dX12_takeAssignment_76 : decode cX12_takeAssignment 76 = .ok (.iastore, 1) := by decide +kernel
theorem dX12_takeAssignment_77 : decode cX12_takeAssignment 77 = .ok (.aload_n 0, 1) := by decide +kernel
theorem dX12_takeAssignment_78 : decode cX12_takeAssignment 78 = .ok (.getfield 72, 3) := by decide +kernel
theorem dX12_takeAssignment_81 : decode cX12_takeAssignment 81 = .ok (.ifCond .ne 32, 3) := by decide +kernel
theorem dX12_takeAssignment_84 : decode cX12_takeAssignment 84 = .ok (.aload_n 0, 1) := by decide +kernel
theorem dX12_takeAssignment_85 : decode cX12_takeAssignment 85 = .ok (.getfield 13, 3) := by decide +kernel
theorem dX12_takeAssignment_88 : decode cX12_takeAssignment 88 = .ok (.iload_n 1, 1) := by decide +kernel
theorem dX12_takeAssignment_89 : decode cX12_takeAssignment 89 = .ok (.iconst 2, 1) := by decide +kernel
theorem dX12_takeAssignment_90 : decode cX12_takeAssignment 90 = .ok (.iadd, 1) := by decide +kernel
theorem dX12_takeAssignment_91 : decode cX12_takeAssignment 91 = .ok (.iaload, 1) := by decide +kernel
theorem dX12_takeAssignment_92 : decode cX12_takeAssignment 92 = .ok (.ifCond .eq 21, 3) := by decide +kernel
theorem dX12_takeAssignment_95 : decode cX12_takeAssignment 95 = .ok (.aload_n 0, 1) := by decide +kernel
theorem dX12_takeAssignment_96 : decode cX12_takeAssignment 96 = .ok (.iconst 1, 1) := by decide +kernel
theorem dX12_takeAssignment_97 : decode cX12_takeAssignment 97 = .ok (.invokevirtual 83, 3) := by decide +kernel
theorem dX12_takeAssignment_100 : decode cX12_takeAssignment 100 = .ok (.aload_n 0, 1) := by decide +kernel
theorem dX12_takeAssignment_101 : decode cX12_takeAssignment 101 = .ok (.getfield 13, 3) := by decide +kernel
theorem dX12_takeAssignment_104 : decode cX12_takeAssignment 104 = .ok (.iload_n 1, 1) := by decide +kernel
theorem dX12_takeAssignment_105 : decode cX12_takeAssignment 105 = .ok (.iconst 3, 1) := by decide +kernel
theorem dX12_takeAssignment_106 : decode cX12_takeAssignment 106 = .ok (.iadd, 1) := by decide +kernel
theorem dX12_takeAssignment_107 : decode cX12_takeAssignment 107 = .ok (.aload_n 0, 1) := by decide +kernel
theorem dX12_takeAssignment_108 : decode cX12_takeAssignment 108 = .ok (.iconst 0, 1) := by decide +kernel
theorem dX12_takeAssignment_109 : decode cX12_takeAssignment 109 = .ok (.invokevirtual 99, 3) := by decide +kernel
theorem dX12_takeAssignment_112 : decode cX12_takeAssignment 112 = .ok (.iastore, 1) := by decide +kernel
theorem dX12_takeAssignment_113 : decode cX12_takeAssignment 113 = .ok (.return_, 1) := by decide +kernel
set_option maxRecDepth 20000 in
theorem ggX12_takeClause_X12_take : GoodIn wsX12_takeClause wsX12_take := goodIn_r _ [6, 7, 8, 9, 10, 5, 11, 12, 13, 14, 15, 16, 17, 18, 19, 20, 21, 22, 23, 24, 69, 70, 71, 72, 73, 74, 75, 76, 77, 78, 79, 80, 81, 82, 83, 84] (by decide +kernel) (by decide +kernel)
set_option maxRecDepth 20000 in
theorem gX12_takeClause_X12_take : GoodIn wsX12_takeClause (wsV RX12 83 RX12 yX12_take wsX12_take) := goodIn_app (goodIn_of _ (by decide +kernel)) ggX12_takeClause_X12_take
set_option maxRecDepth 20000 in
theorem ggX12_takeClause_X12_takeAssignment : GoodIn wsX12_takeClause wsX12_takeAssignment := goodIn_r _ [28, 1, 7, 29, 30, 31, 5, 32, 33, 34, 35, 36, 15, 13, 12, 21, 37, 38, 39, 40, 41, 42, 43, 44, 22, 23, 24, 2, 3, 4, 6, 8, 9, 10, 11, 14, 16, 17, 18, 19, 20, 45, 46, 47, 48, 49, 50, 51, 52, 53, 54, 55, 56, 57, 58, 59, 60, 69, 70, 71, 72, 73, 74, 75, 76, 77, 78, 79, 80, 81, 82, 83, 84] (by decide +kernel) (by decide +kernel)
set_option maxRecDepth 20000 in
theorem gX12_takeClause_X12_takeAssignment : GoodIn wsX12_takeClause (wsV RX12 106 RX12 yX12_takeAssignment wsX12_takeAssignment) := goodIn_app (goodIn_of _ (by decide +kernel)) ggX12_takeClause_X12_takeAssignment
set_option maxRecDepth 20000 in
theorem ggX12_takeClause_X12_takeCondition : GoodIn wsX12_takeClause wsX12_takeCondition := goodIn_r _ [64, 1, 49, 50, 51, 5, 52, 53, 54, 55, 56, 41, 42, 43, 44, 15, 12, 13, 33, 34, 35, 36, 21, 2, 3, 4, 6, 7, 8, 9, 10, 11, 14, 16, 17, 18, 19, 20, 22, 23, 24, 29, 30, 31, 32, 37, 38, 39, 40, 57, 58, 59, 60, 45, 46, 47, 48, 65, 66, 67, 68, 69, 70, 71, 72, 73, 74, 75, 76, 77, 78, 79, 80, 81, 82, 83, 84] (by decide +kernel) (by decide +kernel)
set_option maxRecDepth 20000 in
theorem gX12_takeClause_X12_takeCondition : GoodIn wsX12_takeClause (wsV RX12 110 RX12 yX12_takeCondition wsX12_takeCondition) := goodIn_app (goodIn_of _ (by decide +kernel)) ggX12_takeClause_X12_takeCondition
theorem dX12_takeClause_0 : decode cX12_takeClause 0 = .ok (.bipush 14, 2) := by decide +kernel
theorem dX12_takeClause_2 : decode cX12_takeClause 2 = .ok (.bipush 43, 2) := by decide +kernel
theorem dX12_takeClause_4 : decode cX12_takeClause 4 = .ok (.iload_n 1, 1) := by decide +kernel
theorem dX12_takeClause_5 : decode cX12_takeClause 5 = .ok (.imul, 1) := by decide +kernel
theorem dX12_takeClause_6 : decode cX12_takeClause 6 = .ok (.iadd, 1) := by decide +kernel
theorem dX12_takeClause_7 : decode cX12_takeClause 7 = .ok (.iconst 1, 1) := by decide +kernel
theorem dX12_takeClause_8 : decode cX12_takeClause 8 = .ok (.iadd, 1) := by decide +kernel
theorem dX12_takeClause_9 : decode cX12_takeClause 9 = .ok (.bipush 6, 2) := by decide +kernel
theorem dX12_takeClause_11 : decode cX12_takeClause 11 = .ok (.aload_n 0, 1) := by decide +kernel
theorem dX12_takeClause_12 : decode cX12_takeClause 12 = .ok (.getfield 13, 3) := by decide +kernel
theorem dX12_takeClause_15 : decode cX12_takeClause 15 = .ok (.bipush 14, 2) := by decide +kernel
theorem dX12_takeClause_17 : decode cX12_takeClause 17 = .ok (.bipush 43, 2) := by decide +kernel
theorem dX12_takeClause_19 : decode cX12_takeClause 19 = .ok (.iload_n 1, 1) := by decide +kernel
theorem dX12_takeClause_20 : decode cX12_takeClause 20 = .ok (.imul, 1) := by decide +kernel
theorem dX12_takeClause_21 : decode cX12_takeClause 21 = .ok (.iadd, 1) := by decide +kernel
theorem dX12_takeClause_22 : decode cX12_takeClause 22 = .ok (.iaload, 1) := by decide +kernel
theorem dX12_takeClause_23 : decode cX12_takeClause 23 = .ok (.imul, 1) := by decide +kernel
theorem dX12_takeClause_24 : decode cX12_takeClause 24 = .ok (.iadd, 1) := by decide +kernel
theorem dX12_takeClause_25 : decode cX12_takeClause 25 = .ok (.istore_n 3, 1) := by decide +kernel
theorem dX12_takeClause_26 : decode cX12_takeClause 26 = .ok (.aload_n 0, 1) := by decide +kernel
theorem dX12_takeClause_27 : decode cX12_takeClause 27 = .ok (.getfield 13, 3) := by decide +kernel
theorem dX12_takeClause_30 : decode cX12_takeClause 30 = .ok (.iload_n 3, 1) := by decide +kernel
theorem dX12_takeClause_31 : decode cX12_takeClause 31 = .ok (.iload_n 2, 1) := by decide +kernel
theorem dX12_takeClause_32 : decode cX12_takeClause 32 = .ok (.iastore, 1) := by decide +kernel
theorem dX12_takeClause_33 : decode cX12_takeClause 33 = .ok (.aload_n 0, 1) := by decide +kernel
theorem dX12_takeClause_34 : decode cX12_takeClause 34 = .ok (.iconst 1, 1) := by decide +kernel
theorem dX12_takeClause_35 : decode cX12_takeClause 35 = .ok (.invokevirtual 83, 3) := by decide +kernel
theorem dX12_takeClause_38 : decode cX12_takeClause 38 = .ok (.iload_n 2, 1) := by decide +kernel
theorem dX12_takeClause_39 : decode cX12_takeClause 39 = .ok (.iconst 2, 1) := by decide +kernel
theorem dX12_takeClause_40 : decode cX12_takeClause 40 = .ok (.if_icmp .ne 13, 3) := by decide +kernel
theorem dX12_takeClause_43 : decode cX12_takeClause 43 = .ok (.aload_n 0, 1) := by decide +kernel
theorem dX12_takeClause_44 : decode cX12_takeClause 44 = .ok (.iload_n 3, 1) := by decide +kernel
theorem dX12_takeClause_45 : decode cX12_takeClause 45 = .ok (.iconst 1, 1) := by decide +kernel
theorem dX12_takeClause_46 : decode cX12_takeClause 46 = .ok (.iadd, 1) := by decide +kernel
theorem dX12_takeClause_47 : decode cX12_takeClause 47 = .ok (.invokevirtual 106, 3) := by decide +kernel
theorem dX12_takeClause_50 : decode cX12_takeClause 50 = .ok (.goto 20, 3) := by decide +kernel
theorem dX12_takeClause_53 : decode cX12_takeClause 53 = .ok (.aload_n 0, 1) := by decide +kernel
theorem dX12_takeClause_54 : decode cX12_takeClause 54 = .ok (.iload_n 3, 1) := by decide +kernel
theorem dX12_takeClause_55 : decode cX12_takeClause 55 = .ok (.iconst 1, 1) := by decide +kernel
theorem dX12_takeClause_56 : decode cX12_takeClause 56 = .ok (.iadd, 1) := by decide +kernel
theorem dX12_takeClause_57 : decode cX12_takeClause 57 = .ok (.iload_n 2, 1) := by decide +kernel
theorem dX12_takeClause_58 : decode cX12_takeClause 58 = .ok (.iconst 3, 1) := by decide +kernel
theorem dX12_takeClause_59 : decode cX12_takeClause 59 = .ok (.if_icmp .ne 7, 3) := by decide +kernel
theorem dX12_takeClause_62 : decode cX12_takeClause 62 = .ok (.iconst 1, 1) := by decide +kernel
theorem dX12_takeClause_63 : decode cX12_takeClause 63 = .ok (.goto 4, 3) := by decide +kernel
theorem dX12_takeClause_66 : decode cX12_takeClause 66 = .ok (.iconst 0, 1) := by decide +kernel
theorem dX12_takeClause_67 : decode cX12_takeClause 67 = .ok (.invokevirtual 110, 3) := by decide +kernel
theorem dX12_takeClause_70 : decode cX12_takeClause 70 = .ok (.aload_n 0, 1) := by decide +kernel
theorem dX12_takeClause_71 : decode cX12_takeClause 71 = .ok (.getfield 13, 3) := by decide +kernel
theorem dX12_takeClause_74 : decode cX12_takeClause 74 = .ok (.bipush 14, 2) := by decide +kernel
theorem dX12_takeClause_76 : decode cX12_takeClause 76 = .ok (.bipush 43, 2) := by decide +kernel
theorem dX12_takeClause_78 : decode cX12_takeClause 78 = .ok (.iload_n 1, 1) := by decide +kernel
theorem dX12_takeClause_79 : decode cX12_takeClause 79 = .ok (.imul, 1) := by decide +kernel
theorem dX12_takeClause_80 : decode cX12_takeClause 80 = .ok (.iadd, 1) := by decide +kernel
theorem dX12_takeClause_81 : decode cX12_takeClause 81 = .ok (.dup2, 1) := by decide +kernel
theorem dX12_takeClause_82 : decode cX12_takeClause 82 = .ok (.iaload, 1) := by decide +kernel
theorem dX12_takeClause_83 : decode cX12_takeClause 83 = .ok (.iconst 1, 1) := by decide +kernel
theorem dX12_takeClause_84 : decode cX12_takeClause 84 = .ok (.iadd, 1) := by decide +kernel
theorem dX12_takeClause_85 : decode cX12_takeClause 85 = .ok (.iastore, 1) := by decide +kernel
theorem dX12_takeClause_86 : decode cX12_takeClause 86 = .ok (.return_, 1) := by decide +kernel
set_option maxRecDepth 20000 in
theorem ggX12_takeMethod_X12_take : GoodIn wsX12_takeMethod wsX12_take := goodIn_r _ [7, 2, 8, 9, 10, 6, 11, 12, 13, 14, 15, 16, 17, 18, 19, 20, 21, 22, 23, 24, 85, 86, 87, 88, 89, 90, 91, 92, 93, 94, 95, 96, 97, 98, 99, 100] (by decide +kernel) (by decide +kernel)
set_option maxRecDepth 20000 in
theorem gX12_takeMethod_X12_take : GoodIn wsX12_takeMethod (wsV RX12 83 RX12 yX12_take wsX12_take) := goodIn_app (goodIn_of _ (by decide +kernel)) ggX12_takeMethod_X12_take
set_option maxRecDepth 20000 in
theorem ggX12_takeMethod_X12_isRequire : GoodIn wsX12_takeMethod wsX12_isRequire := goodIn_r _ [28, 29, 30, 31, 6, 32, 15, 12, 13, 33, 34, 35, 36, 21, 85, 86, 87, 88, 89, 90, 91, 92, 93, 94, 95, 96, 97, 98, 99, 100] (by decide +kernel) (by decide +kernel)
set_option maxRecDepth 20000 in
theorem gX12_takeMethod_X12_isRequire : GoodIn wsX12_takeMethod (wsV RX12 114 RX12 yX12_isRequire wsX12_isRequire) := goodIn_app (goodIn_of _ (by decide +kernel)) ggX12_takeMethod_X12_isRequire
set_option maxRecDepth 20000 in
theorem ggX12_takeMethod_X12_takeClause : GoodIn wsX12_takeMethod wsX12_takeClause := goodIn_r _ [40, 1, 3, 4, 5, 6, 7, 2, 8, 9, 10, 11, 12, 13, 14, 15, 16, 17, 18, 19, 20, 21, 22, 23, 24, 41, 42, 43, 44, 45, 46, 47, 48, 33, 34, 35, 36, 49, 50, 51, 52, 29, 30, 31, 32, 53, 54, 55, 56, 57, 58, 59, 60, 61, 62, 63, 64, 65, 66, 67, 68, 69, 70, 71, 72, 73, 74, 75, 76, 85, 86, 87, 88, 89, 90, 91, 92, 93, 94, 95, 96, 97, 98, 99, 100] (by decide +kernel) (by decide +kernel)
set_option maxRecDepth 20000 in
theorem gX12_takeMethod_X12_takeClause : GoodIn wsX12_takeMethod (wsV RX12 117 RX12 yX12_takeClause wsX12_takeClause) := goodIn_app (goodIn_of _ (by decide +kernel)) ggX12_takeMethod_X12_takeClause
set_option maxRecDepth 20000 in
theorem ggX12_takeMethod_X12_isDo : GoodIn wsX12_takeMethod wsX12_isDo := goodIn_r _ [80, 29, 30, 31, 6, 32, 15, 12, 13, 33, 34, 35, 36, 21, 85, 86, 87, 88, 89, 90, 91, 92, 93, 94, 95, 96, 97, 98, 99, 100] (by decide +kernel) (by decide +kernel)
set_option maxRecDepth 20000 in
theorem gX12_takeMethod_X12_isDo : GoodIn wsX12_takeMethod (wsV RX12 121 RX12 yX12_isDo wsX12_isDo) := goodIn_app (goodIn_of _ (by decide +kernel)) ggX12_takeMethod_X12_isDo
set_option maxRecDepth 20000 in
theorem ggX12_takeMethod_X12_isEnsure : GoodIn wsX12_takeMethod wsX12_isEnsure := goodIn_r _ [84, 29, 30, 31, 6, 32, 15, 12, 13, 33, 34, 35, 36, 21, 85, 86, 87, 88, 89, 90, 91, 92, 93, 94, 95, 96, 97, 98, 99, 100] (by decide +kernel) (by decide +kernel)
set_option maxRecDepth 20000 in
theorem gX12_takeMethod_X12_isEnsure : GoodIn wsX12_takeMethod (wsV RX12 124 RX12 yX12_isEnsure wsX12_isEnsure) := goodIn_app (goodIn_of _ (by decide +kernel)) ggX12_takeMethod_X12_isEnsure
theorem dX12_takeMethod_0 : decode cX12_takeMethod 0 = .ok (.aload_n 0, 1) := by decide +kernel
theorem dX12_takeMethod_1 : decode cX12_takeMethod 1 = .ok (.aload_n 0, 1) := by decide +kernel
theorem dX12_takeMethod_2 : decode cX12_takeMethod 2 = .ok (.getfield 13, 3) := by decide +kernel
theorem dX12_takeMethod_5 : decode cX12_takeMethod 5 = .ok (.iconst 4, 1) := by decide +kernel
theorem dX12_takeMethod_6 : decode cX12_takeMethod 6 = .ok (.iaload, 1) := by decide +kernel
theorem dX12_takeMethod_7 : decode cX12_takeMethod 7 = .ok (.bipush 6, 2) := by decide +kernel
theorem dX12_takeMethod_9 : decode cX12_takeMethod 9 = .ok (.if_icmp .ge 7, 3) := by decide +kernel
theorem dX12_takeMethod_12 : decode cX12_takeMethod 12 = .ok (.iconst 1, 1) := by decide +kernel
theorem dX12_takeMethod_13 : decode cX12_takeMethod 13 = .ok (.goto 4, 3) := by decide +kernel
theorem dX12_takeMethod_16 : decode cX12_takeMethod 16 = .ok (.iconst 0, 1) := by decide +kernel
theorem dX12_takeMethod_17 : decode cX12_takeMethod 17 = .ok (.invokevirtual 83, 3) := by decide +kernel
theorem dX12_takeMethod_20 : decode cX12_takeMethod 20 = .ok (.aload_n 0, 1) := by decide +kernel
theorem dX12_takeMethod_21 : decode cX12_takeMethod 21 = .ok (.getfield 72, 3) := by decide +kernel
theorem dX12_takeMethod_24 : decode cX12_takeMethod 24 = .ok (.ifCond .eq 4, 3) := by decide +kernel
theorem dX12_takeMethod_27 : decode cX12_takeMethod 27 = .ok (.return_, 1) := by decide +kernel
theorem dX12_takeMethod_28 : decode cX12_takeMethod 28 = .ok (.aload_n 0, 1) := by decide +kernel
theorem dX12_takeMethod_29 : decode cX12_takeMethod 29 = .ok (.getfield 13, 3) := by decide +kernel
theorem dX12_takeMethod_32 : decode cX12_takeMethod 32 = .ok (.iconst 4, 1) := by decide +kernel
theorem dX12_takeMethod_33 : decode cX12_takeMethod 33 = .ok (.iaload, 1) := by decide +kernel
theorem dX12_takeMethod_34 : decode cX12_takeMethod 34 = .ok (.istore_n 1, 1) := by decide +kernel
theorem dX12_takeMethod_35 : decode cX12_takeMethod 35 = .ok (.aload_n 0, 1) := by decide +kernel
theorem dX12_takeMethod_36 : decode cX12_takeMethod 36 = .ok (.getfield 13, 3) := by decide +kernel
theorem dX12_takeMethod_39 : decode cX12_takeMethod 39 = .ok (.bipush 14, 2) := by decide +kernel
theorem dX12_takeMethod_41 : decode cX12_takeMethod 41 = .ok (.bipush 43, 2) := by decide +kernel
theorem dX12_takeMethod_43 : decode cX12_takeMethod 43 = .ok (.iload_n 1, 1) := by decide +kernel
theorem dX12_takeMethod_44 : decode cX12_takeMethod 44 = .ok (.imul, 1) := by decide +kernel
theorem dX12_takeMethod_45 : decode cX12_takeMethod 45 = .ok (.iadd, 1) := by decide +kernel
theorem dX12_takeMethod_46 : decode cX12_takeMethod 46 = .ok (.iconst 0, 1) := by decide +kernel
theorem dX12_takeMethod_47 : decode cX12_takeMethod 47 = .ok (.iastore, 1) := by decide +kernel
theorem dX12_takeMethod_48 : decode cX12_takeMethod 48 = .ok (.iconst 0, 1) := by decide +kernel
theorem dX12_takeMethod_49 : decode cX12_takeMethod 49 = .ok (.istore_n 2, 1) := by decide +kernel
theorem dX12_takeMethod_50 : decode cX12_takeMethod 50 = .ok (.aload_n 0, 1) := by decide +kernel
theorem dX12_takeMethod_51 : decode cX12_takeMethod 51 = .ok (.getfield 72, 3) := by decide +kernel
theorem dX12_takeMethod_54 : decode cX12_takeMethod 54 = .ok (.ifCond .ne 27, 3) := by decide +kernel
theorem dX12_takeMethod_57 : decode cX12_takeMethod 57 = .ok (.aload_n 0, 1) := by decide +kernel
theorem dX12_takeMethod_58 : decode cX12_takeMethod 58 = .ok (.invokevirtual 114, 3) := by decide +kernel
theorem dX12_takeMethod_61 : decode cX12_takeMethod 61 = .ok (.ifCond .eq 20, 3) := by decide +kernel
theorem dX12_takeMethod_64 : decode cX12_takeMethod 64 = .ok (.iload_n 2, 1) := by decide +kernel
theorem dX12_takeMethod_65 : decode cX12_takeMethod 65 = .ok (.iconst 2, 1) := by decide +kernel
theorem dX12_takeMethod_66 : decode cX12_takeMethod 66 = .ok (.if_icmp .ge 15, 3) := by decide +kernel
theorem dX12_takeMethod_69 : decode cX12_takeMethod 69 = .ok (.aload_n 0, 1) := by decide +kernel
theorem dX12_takeMethod_70 : decode cX12_takeMethod 70 = .ok (.iload_n 1, 1) := by decide +kernel
theorem dX12_takeMethod_71 : decode cX12_takeMethod 71 = .ok (.iconst 1, 1) := by decide +kernel
theorem dX12_takeMethod_72 : decode cX12_takeMethod 72 = .ok (.invokevirtual 117, 3) := by decide +kernel
theorem dX12_takeMethod_75 : decode cX12_takeMethod 75 = .ok (.iinc 2 1, 3) := by decide +kernel
theorem dX12_takeMethod_78 : decode cX12_takeMethod 78 = .ok (.goto (-28), 3) := by decide +kernel
theorem dX12_takeMethod_81 : decode cX12_takeMethod 81 = .ok (.aload_n 0, 1) := by decide +kernel
theorem dX12_takeMethod_82 : decode cX12_takeMethod 82 = .ok (.getfield 72, 3) := by decide +kernel
theorem dX12_takeMethod_85 : decode cX12_takeMethod 85 = .ok (.ifCond .ne 15, 3) := by decide +kernel
theorem dX12_takeMethod_88 : decode cX12_takeMethod 88 = .ok (.aload_n 0, 1) := by decide +kernel
theorem dX12_takeMethod_89 : decode cX12_takeMethod 89 = .ok (.invokevirtual 121, 3) := by decide +kernel
theorem dX12_takeMethod_92 : decode cX12_takeMethod 92 = .ok (.ifCond .ne 8, 3) := by decide +kernel
theorem dX12_takeMethod_95 : decode cX12_takeMethod 95 = .ok (.aload_n 0, 1) := by decide +kernel
theorem dX12_takeMethod_96 : decode cX12_takeMethod 96 = .ok (.iconst 0, 1) := by decide +kernel
theorem dX12_takeMethod_97 : decode cX12_takeMethod 97 = .ok (.invokevirtual 83, 3) := by decide +kernel
theorem dX12_takeMethod_100 : decode cX12_takeMethod 100 = .ok (.iconst 0, 1) := by decide +kernel
theorem dX12_takeMethod_101 : decode cX12_takeMethod 101 = .ok (.istore_n 2, 1) := by decide +kernel
theorem dX12_takeMethod_102 : decode cX12_takeMethod 102 = .ok (.aload_n 0, 1) := by decide +kernel
theorem dX12_takeMethod_103 : decode cX12_takeMethod 103 = .ok (.getfield 72, 3) := by decide +kernel
theorem dX12_takeMethod_106 : decode cX12_takeMethod 106 = .ok (.ifCond .ne 27, 3) := by decide +kernel
theorem dX12_takeMethod_109 : decode cX12_takeMethod 109 = .ok (.aload_n 0, 1) := by decide +kernel
theorem dX12_takeMethod_110 : decode cX12_takeMethod 110 = .ok (.invokevirtual 121, 3) := by decide +kernel
theorem dX12_takeMethod_113 : decode cX12_takeMethod 113 = .ok (.ifCond .eq 20, 3) := by decide +kernel
theorem dX12_takeMethod_116 : decode cX12_takeMethod 116 = .ok (.iload_n 2, 1) := by decide +kernel
theorem dX12_takeMethod_117 : decode cX12_takeMethod 117 = .ok (.iconst 3, 1) := by decide +kernel
theorem dX12_takeMethod_118 : decode cX12_takeMethod 118 = .ok (.if_icmp .ge 15, 3) := by decide +kernel
theorem dX12_takeMethod_121 : decode cX12_takeMethod 121 = .ok (.aload_n 0, 1) := by decide +kernel
theorem dX12_takeMethod_122 : decode cX12_takeMethod 122 = .ok (.iload_n 1, 1) := by decide +kernel
theorem dX12_takeMethod_123 : decode cX12_takeMethod 123 = .ok (.iconst 2, 1) := by decide +kernel
theorem dX12_takeMethod_124 : decode cX12_takeMethod 124 = .ok (.invokevirtual 117, 3) := by decide +kernel
theorem dX12_takeMethod_127 : decode cX12_takeMethod 127 = .ok (.iinc 2 1, 3) := by decide +kernel
theorem dX12_takeMethod_130 : decode cX12_takeMethod 130 = .ok (.goto (-28), 3) := by decide +kernel
theorem dX12_takeMethod_133 : decode cX12_takeMethod 133 = .ok (.iconst 0, 1) := by decide +kernel
theorem dX12_takeMethod_134 : decode cX12_takeMethod 134 = .ok (.istore_n 2, 1) := by decide +kernel
theorem dX12_takeMethod_135 : decode cX12_takeMethod 135 = .ok (.aload_n 0, 1) := by decide +kernel
theorem dX12_takeMethod_136 : decode cX12_takeMethod 136 = .ok (.getfield 72, 3) := by decide +kernel
theorem dX12_takeMethod_139 : decode cX12_takeMethod 139 = .ok (.ifCond .ne 27, 3) := by decide +kernel
theorem dX12_takeMethod_142 : decode cX12_takeMethod 142 = .ok (.aload_n 0, 1) := by decide +kernel
theorem dX12_takeMethod_143 : decode cX12_takeMethod 143 = .ok (.invokevirtual 124, 3) := by decide +kernel
theorem dX12_takeMethod_146 : decode cX12_takeMethod 146 = .ok (.ifCond .eq 20, 3) := by decide +kernel
theorem dX12_takeMethod_149 : decode cX12_takeMethod 149 = .ok (.iload_n 2, 1) := by decide +kernel
theorem dX12_takeMethod_150 : decode cX12_takeMethod 150 = .ok (.iconst 2, 1) := by decide +kernel
theorem dX12_takeMethod_151 : decode cX12_takeMethod 151 = .ok (.if_icmp .ge 15, 3) := by decide +kernel
theorem dX12_takeMethod_154 : decode cX12_takeMethod 154 = .ok (.aload_n 0, 1) := by decide +kernel
theorem dX12_takeMethod_155 : decode cX12_takeMethod 155 = .ok (.iload_n 1, 1) := by decide +kernel
theorem dX12_takeMethod_156 : decode cX12_takeMethod 156 = .ok (.iconst 3, 1) := by decide +kernel
theorem dX12_takeMethod_157 : decode cX12_takeMethod 157 = .ok (.invokevirtual 117, 3) := by decide +kernel
theorem dX12_takeMethod_160 : decode cX12_takeMethod 160 = .ok (.iinc 2 1, 3) := by decide +kernel
theorem dX12_takeMethod_163 : decode cX12_takeMethod 163 = .ok (.goto (-28), 3) := by decide +kernel
theorem dX12_takeMethod_166 : decode cX12_takeMethod 166 = .ok (.aload_n 0, 1) := by decide +kernel
theorem dX12_takeMethod_167 : decode cX12_takeMethod 167 = .ok (.getfield 13, 3) := by decide +kernel
theorem dX12_takeMethod_170 : decode cX12_takeMethod 170 = .ok (.iconst 4, 1) := by decide +kernel
theorem dX12_takeMethod_171 : decode cX12_takeMethod 171 = .ok (.dup2, 1) := by decide +kernel
theorem dX12_takeMethod_172 : decode cX12_takeMethod 172 = .ok (.iaload, 1) := by decide +kernel
theorem dX12_takeMethod_173 : decode cX12_takeMethod 173 = .ok (.iconst 1, 1) := by decide +kernel
theorem dX12_takeMethod_174 : decode cX12_takeMethod 174 = .ok (.iadd, 1) := by decide +kernel
theorem dX12_takeMethod_175 : decode cX12_takeMethod 175 = .ok (.iastore, 1) := by decide +kernel
theorem dX12_takeMethod_176 : decode cX12_takeMethod 176 = .ok (.return_, 1) := by decide +kernel
set_option maxRecDepth 20000 in
theorem ggX12_takeInit_X12_take : GoodIn wsX12_takeInit wsX12_take := goodIn_r _ [7, 1, 8, 9, 10, 6, 11, 12, 13, 14, 15, 16, 17, 18, 19, 20, 21, 22, 23, 24, 49, 50, 51, 52, 53, 54, 55, 56, 57, 58, 59, 60, 61, 62, 63, 64] (by decide +kernel) (by decide +kernel)
set_option maxRecDepth 20000 in
theorem gX12_takeInit_X12_take : GoodIn wsX12_takeInit (wsV RX12 83 RX12 yX12_take wsX12_take) := goodIn_app (goodIn_of _ (by decide +kernel)) ggX12_takeInit_X12_take
set_option maxRecDepth 20000 in
theorem ggX12_takeInit_X12_takeField : GoodIn wsX12_takeInit wsX12_takeField := goodIn_r _ [28, 29, 30, 31, 6, 32, 15, 13, 12, 21, 33, 34, 35, 36, 37, 38, 39, 40, 22, 23, 24, 3, 4, 5, 7, 1, 8, 9, 10, 11, 14, 16, 17, 18, 19, 20, 49, 50, 51, 52, 53, 54, 55, 56, 57, 58, 59, 60, 61, 62, 63, 64] (by decide +kernel) (by decide +kernel)
set_option maxRecDepth 20000 in
theorem gX12_takeInit_X12_takeField : GoodIn wsX12_takeInit (wsV RX12 93 RX12 yX12_takeField wsX12_takeField) := goodIn_app (goodIn_of _ (by decide +kernel)) ggX12_takeInit_X12_takeField
set_option maxRecDepth 20000 in
theorem ggX12_takeInit_X12_takeNumber : GoodIn wsX12_takeInit wsX12_takeNumber := goodIn_r _ [44, 14, 15, 12, 13, 45, 46, 47, 6, 48, 3, 4, 5, 7, 1, 8, 9, 10, 11, 16, 17, 18, 19, 20, 21, 22, 23, 24, 49, 50, 51, 52, 53, 54, 55, 56, 57, 58, 59, 60, 61, 62, 63, 64] (by decide +kernel) (by decide +kernel)
set_option maxRecDepth 20000 in
theorem gX12_takeInit_X12_takeNumber : GoodIn wsX12_takeInit (wsV RX12 96 RX12 yX12_takeNumber wsX12_takeNumber) := goodIn_app (goodIn_of _ (by decide +kernel)) ggX12_takeInit_X12_takeNumber
theorem dX12_takeInit_0 : decode cX12_takeInit 0 = .ok (.aload_n 0, 1) := by decide +kernel
theorem dX12_takeInit_1 : decode cX12_takeInit 1 = .ok (.iconst 1, 1) := by decide +kernel
theorem dX12_takeInit_2 : decode cX12_takeInit 2 = .ok (.invokevirtual 83, 3) := by decide +kernel
theorem dX12_takeInit_5 : decode cX12_takeInit 5 = .ok (.aload_n 0, 1) := by decide +kernel
theorem dX12_takeInit_6 : decode cX12_takeInit 6 = .ok (.invokevirtual 93, 3) := by decide +kernel
theorem dX12_takeInit_9 : decode cX12_takeInit 9 = .ok (.istore_n 1, 1) := by decide +kernel
theorem dX12_takeInit_10 : decode cX12_takeInit 10 = .ok (.aload_n 0, 1) := by decide +kernel
theorem dX12_takeInit_11 : decode cX12_takeInit 11 = .ok (.invokevirtual 96, 3) := by decide +kernel
theorem dX12_takeInit_14 : decode cX12_takeInit 14 = .ok (.istore_n 2, 1) := by decide +kernel
theorem dX12_takeInit_15 : decode cX12_takeInit 15 = .ok (.aload_n 0, 1) := by decide +kernel
theorem dX12_takeInit_16 : decode cX12_takeInit 16 = .ok (.getfield 72, 3) := by decide +kernel
theorem dX12_takeInit_19 : decode cX12_takeInit 19 = .ok (.ifCond .ne 12, 3) := by decide +kernel
theorem dX12_takeInit_22 : decode cX12_takeInit 22 = .ok (.aload_n 0, 1) := by decide +kernel
theorem dX12_takeInit_23 : decode cX12_takeInit 23 = .ok (.getfield 13, 3) := by decide +kernel
theorem dX12_takeInit_26 : decode cX12_takeInit 26 = .ok (.iconst 0, 1) := by decide +kernel
theorem dX12_takeInit_27 : decode cX12_takeInit 27 = .ok (.iload_n 1, 1) := by decide +kernel
theorem dX12_takeInit_28 : decode cX12_takeInit 28 = .ok (.iadd, 1) := by decide +kernel
theorem dX12_takeInit_29 : decode cX12_takeInit 29 = .ok (.iload_n 2, 1) := by decide +kernel
theorem dX12_takeInit_30 : decode cX12_takeInit 30 = .ok (.iastore, 1) := by decide +kernel
theorem dX12_takeInit_31 : decode cX12_takeInit 31 = .ok (.return_, 1) := by decide +kernel
set_option maxRecDepth 20000 in
theorem ggX12_takeInvariant_X12_take : GoodIn wsX12_takeInvariant wsX12_take := goodIn_r _ [7, 2, 8, 9, 10, 6, 11, 12, 13, 14, 15, 16, 17, 18, 19, 20, 21, 22, 23, 24, 65, 66, 67, 68, 69, 70, 71, 72, 73, 74, 75, 76, 77, 78, 79, 80] (by decide +kernel) (by decide +kernel)
set_option maxRecDepth 20000 in
theorem gX12_takeInvariant_X12_take : GoodIn wsX12_takeInvariant (wsV RX12 83 RX12 yX12_take wsX12_take) := goodIn_app (goodIn_of _ (by decide +kernel)) ggX12_takeInvariant_X12_take
set_option maxRecDepth 20000 in
theorem ggX12_takeInvariant_X12_takeCondition : GoodIn wsX12_takeInvariant wsX12_takeCondition := goodIn_r _ [28, 1, 29, 30, 31, 6, 32, 33, 34, 35, 36, 37, 38, 39, 40, 15, 12, 13, 41, 42, 43, 44, 21, 3, 4, 5, 7, 2, 8, 9, 10, 11, 14, 16, 17, 18, 19, 20, 22, 23, 24, 45, 46, 47, 48, 49, 50, 51, 52, 53, 54, 55, 56, 57, 58, 59, 60, 61, 62, 63, 64, 65, 66, 67, 68, 69, 70, 71, 72, 73, 74, 75, 76, 77, 78, 79, 80] (by decide +kernel) (by decide +kernel)
set_option maxRecDepth 20000 in
theorem gX12_takeInvariant_X12_takeCondition : GoodIn wsX12_takeInvariant (wsV RX12 110 RX12 yX12_takeCondition wsX12_takeCondition) := goodIn_app (goodIn_of _ (by decide +kernel)) ggX12_takeInvariant_X12_takeCondition
theorem dX12_takeInvariant_0 : decode cX12_takeInvariant 0 = .ok (.aload_n 0, 1) := by decide +kernel
theorem dX12_takeInvariant_1 : decode cX12_takeInvariant 1 = .ok (.aload_n 0, 1) := by decide +kernel
theorem dX12_takeInvariant_2 : decode cX12_takeInvariant 2 = .ok (.getfield 13, 3) := by decide +kernel
theorem dX12_takeInvariant_5 : decode cX12_takeInvariant 5 = .ok (.iconst 3, 1) := by decide +kernel
theorem dX12_takeInvariant_6 : decode cX12_takeInvariant 6 = .ok (.iaload, 1) := by decide +kernel
theorem dX12_takeInvariant_7 : decode cX12_takeInvariant 7 = .ok (.iconst 3, 1) := by decide +kernel
theorem dX12_takeInvariant_8 : decode cX12_takeInvariant 8 = .ok (.if_icmp .ge 7, 3) := by decide +kernel
theorem dX12_takeInvariant_11 : decode cX12_takeInvariant 11 = .ok (.iconst 1, 1) := by decide +kernel
theorem dX12_takeInvariant_12 : decode cX12_takeInvariant 12 = .ok (.goto 4, 3) := by decide +kernel
theorem dX12_takeInvariant_15 : decode cX12_takeInvariant 15 = .ok (.iconst 0, 1) := by decide +kernel
theorem dX12_takeInvariant_16 : decode cX12_takeInvariant 16 = .ok (.invokevirtual 83, 3) := by decide +kernel
theorem dX12_takeInvariant_19 : decode cX12_takeInvariant 19 = .ok (.aload_n 0, 1) := by decide +kernel
theorem dX12_takeInvariant_20 : decode cX12_takeInvariant 20 = .ok (.getfield 72, 3) := by decide +kernel
theorem dX12_takeInvariant_23 : decode cX12_takeInvariant 23 = .ok (.ifCond .ne 28, 3) := by decide +kernel
theorem dX12_takeInvariant_26 : decode cX12_takeInvariant 26 = .ok (.aload_n 0, 1) := by decide +kernel
theorem dX12_takeInvariant_27 : decode cX12_takeInvariant 27 = .ok (.iconst 5, 1) := by decide +kernel
theorem dX12_takeInvariant_28 : decode cX12_takeInvariant 28 = .ok (.iconst 3, 1) := by decide +kernel
theorem dX12_takeInvariant_29 : decode cX12_takeInvariant 29 = .ok (.aload_n 0, 1) := by decide +kernel
theorem dX12_takeInvariant_30 : decode cX12_takeInvariant 30 = .ok (.getfield 13, 3) := by decide +kernel
theorem dX12_takeInvariant_33 : decode cX12_takeInvariant 33 = .ok (.iconst 3, 1) := by decide +kernel
theorem dX12_takeInvariant_34 : decode cX12_takeInvariant 34 = .ok (.iaload, 1) := by decide +kernel
theorem dX12_takeInvariant_35 : decode cX12_takeInvariant 35 = .ok (.imul, 1) := by decide +kernel
theorem dX12_takeInvariant_36 : decode cX12_takeInvariant 36 = .ok (.iadd, 1) := by decide +kernel
theorem dX12_takeInvariant_37 : decode cX12_takeInvariant 37 = .ok (.iconst 0, 1) := by decide +kernel
theorem dX12_takeInvariant_38 : decode cX12_takeInvariant 38 = .ok (.invokevirtual 110, 3) := by decide +kernel
theorem dX12_takeInvariant_41 : decode cX12_takeInvariant 41 = .ok (.aload_n 0, 1) := by decide +kernel
theorem dX12_takeInvariant_42 : decode cX12_takeInvariant 42 = .ok (.getfield 13, 3) := by decide +kernel
theorem dX12_takeInvariant_45 : decode cX12_takeInvariant 45 = .ok (.iconst 3, 1) := by decide +kernel
theorem dX12_takeInvariant_46 : decode cX12_takeInvariant 46 = .ok (.dup2, 1) := by decide +kernel
theorem dX12_takeInvariant_47 : decode cX12_takeInvariant 47 = .ok (.iaload, 1) := by decide +kernel
theorem dX12_takeInvariant_48 : decode cX12_takeInvariant 48 = .ok (.iconst 1, 1) := by decide +kernel
theorem dX12_takeInvariant_49 : decode cX12_takeInvariant 49 = .ok (.iadd, 1) := by decide +kernel
theorem dX12_takeInvariant_50 : decode cX12_takeInvariant 50 = .ok (.iastore, 1) := by decide +kernel
theorem dX12_takeInvariant_51 : decode cX12_takeInvariant 51 = .ok (.return_, 1) := by decide +kernel
set_option maxRecDepth 20000 in
theorem ggX12_readComponent_X12_next : GoodIn wsX12_readComponent wsX12_next := goodIn_r _ [9, 2, 10, 11, 4, 12, 13, 14, 8, 15, 16, 17, 18, 19, 20, 109, 110, 111, 112, 113, 114, 115, 116, 117, 118, 119, 120, 121, 122, 123, 124] (by decide +kernel) (by decide +kernel)
set_option maxRecDepth 20000 in
theorem gX12_readComponent_X12_next : GoodIn wsX12_readComponent (wsV RX12 76 RX12 yX12_next wsX12_next) := goodIn_app (goodIn_of _ (by decide +kernel)) ggX12_readComponent_X12_next
set_option maxRecDepth 20000 in
theorem ggX12_readComponent_X12_isInit : GoodIn wsX12_readComponent wsX12_isInit := goodIn_r _ [24, 25, 26, 27, 8, 28, 4, 2, 10, 29, 30, 31, 32, 17, 109, 110, 111, 112, 113, 114, 115, 116, 117, 118, 119, 120, 121, 122, 123, 124] (by decide +kernel) (by decide +kernel)
set_option maxRecDepth 20000 in
theorem gX12_readComponent_X12_isInit : GoodIn wsX12_readComponent (wsV RX12 127 RX12 yX12_isInit wsX12_isInit) := goodIn_app (goodIn_of _ (by decide +kernel)) ggX12_readComponent_X12_isInit
set_option maxRecDepth 20000 in
theorem ggX12_readComponent_X12_takeInit : GoodIn wsX12_readComponent wsX12_takeInit := goodIn_r _ [36, 3, 1, 37, 38, 39, 8, 40, 5, 6, 7, 9, 2, 10, 11, 4, 12, 13, 14, 15, 16, 17, 18, 19, 20, 41, 42, 43, 44, 29, 30, 31, 32, 45, 46, 47, 48, 25, 26, 27, 28, 49, 50, 51, 52, 53, 54, 55, 56, 109, 110, 111, 112, 113, 114, 115, 116, 117, 118, 119, 120, 121, 122, 123, 124] (by decide +kernel) (by decide +kernel)
set_option maxRecDepth 20000 in
theorem gX12_readComponent_X12_takeInit : GoodIn wsX12_readComponent (wsV RX12 130 RX12 yX12_takeInit wsX12_takeInit) := goodIn_app (goodIn_of _ (by decide +kernel)) ggX12_readComponent_X12_takeInit
set_option maxRecDepth 20000 in
theorem ggX12_readComponent_X12_isInvariant : GoodIn wsX12_readComponent wsX12_isInvariant := goodIn_r _ [60, 25, 26, 27, 8, 28, 4, 2, 10, 29, 30, 31, 32, 17, 109, 110, 111, 112, 113, 114, 115, 116, 117, 118, 119, 120, 121, 122, 123, 124] (by decide +kernel) (by decide +kernel)
set_option maxRecDepth 20000 in
theorem gX12_readComponent_X12_isInvariant : GoodIn wsX12_readComponent (wsV RX12 133 RX12 yX12_isInvariant wsX12_isInvariant) := goodIn_app (goodIn_of _ (by decide +kernel)) ggX12_readComponent_X12_isInvariant
set_option maxRecDepth 20000 in
theorem ggX12_readComponent_X12_takeInvariant : GoodIn wsX12_readComponent wsX12_takeInvariant := goodIn_r _ [64, 1, 3, 37, 38, 39, 8, 40, 5, 6, 7, 9, 2, 10, 11, 4, 12, 13, 14, 15, 16, 17, 18, 19, 20, 65, 66, 67, 68, 69, 70, 71, 72, 73, 74, 75, 76, 25, 26, 27, 28, 29, 30, 31, 32, 41, 42, 43, 44, 45, 46, 47, 48, 49, 50, 51, 52, 53, 54, 55, 56, 77, 78, 79, 80, 109, 110, 111, 112, 113, 114, 115, 116, 117, 118, 119, 120, 121, 122, 123, 124] (by decide +kernel) (by decide +kernel)
set_option maxRecDepth 20000 in
theorem gX12_readComponent_X12_takeInvariant : GoodIn wsX12_readComponent (wsV RX12 136 RX12 yX12_takeInvariant wsX12_takeInvariant) := goodIn_app (goodIn_of _ (by decide +kernel)) ggX12_readComponent_X12_takeInvariant
set_option maxRecDepth 20000 in
theorem ggX12_readComponent_X12_isMethod : GoodIn wsX12_readComponent wsX12_isMethod := goodIn_r _ [84, 25, 26, 27, 8, 28, 4, 2, 10, 29, 30, 31, 32, 17, 109, 110, 111, 112, 113, 114, 115, 116, 117, 118, 119, 120, 121, 122, 123, 124] (by decide +kernel) (by decide +kernel)
set_option maxRecDepth 20000 in
theorem gX12_readComponent_X12_isMethod : GoodIn wsX12_readComponent (wsV RX12 139 RX12 yX12_isMethod wsX12_isMethod) := goodIn_app (goodIn_of _ (by decide +kernel)) ggX12_readComponent_X12_isMethod
set_option maxRecDepth 20000 in
theorem ggX12_readComponent_X12_takeMethod : GoodIn wsX12_readComponent wsX12_takeMethod := goodIn_r _ [88, 1, 3, 37, 38, 39, 8, 40, 5, 6, 7, 9, 2, 10, 11, 4, 12, 13, 14, 15, 16, 17, 18, 19, 20, 89, 90, 91, 92, 25, 26, 27, 28, 29, 30, 31, 32, 93, 94, 95, 96, 97, 98, 99, 100, 41, 42, 43, 44, 45, 46, 47, 48, 53, 54, 55, 56, 69, 70, 71, 72, 73, 74, 75, 76, 49, 50, 51, 52, 65, 66, 67, 68, 77, 78, 79, 80, 101, 102, 103, 104, 105, 106, 107, 108, 109, 110, 111, 112, 113, 114, 115, 116, 117, 118, 119, 120, 121, 122, 123, 124] (by decide +kernel) (by decide +kernel)
set_option maxRecDepth 20000 in
theorem gX12_readComponent_X12_takeMethod : GoodIn wsX12_readComponent (wsV RX12 142 RX12 yX12_takeMethod wsX12_takeMethod) := goodIn_app (goodIn_of _ (by decide +kernel)) ggX12_readComponent_X12_takeMethod
set_option maxRecDepth 20000 in
theorem ggX12_readComponent_X12_take : GoodIn wsX12_readComponent wsX12_take := goodIn_r _ [40, 3, 5, 6, 7, 8, 9, 2, 10, 11, 4, 12, 13, 14, 15, 16, 17, 18, 19, 20, 109, 110, 111, 112, 113, 114, 115, 116, 117, 118, 119, 120, 121, 122, 123, 124] (by decide +kernel) (by decide +kernel)
set_option maxRecDepth 20000 in
theorem gX12_readComponent_X12_take : GoodIn wsX12_readComponent (wsV RX12 83 RX12 yX12_take wsX12_take) := goodIn_app (goodIn_of _ (by decide +kernel)) ggX12_readComponent_X12_take
set_option maxRecDepth 20000 in
theorem ggX12_readComponent_X12_isSign : GoodIn wsX12_readComponent wsX12_isSign := goodIn_r _ [56, 4, 11, 109, 110, 111, 112, 113, 114, 115, 116, 117, 118, 119, 120, 121, 122, 123, 124] (by decide +kernel) (by decide +kernel)
set_option maxRecDepth 20000 in
theorem gX12_readComponent_X12_isSign : GoodIn wsX12_readComponent (wsV RX12 87 RX12 yX12_isSign wsX12_isSign) := goodIn_app (goodIn_of _ (by decide +kernel)) ggX12_readComponent_X12_isSign
theorem dX12_readComponent_0 : decode cX12_readComponent 0 = .ok (.iconst 0, 1) := by decide +kernel
theorem dX12_readComponent_1 : decode cX12_readComponent 1 = .ok (.istore_n 1, 1) := by decide +kernel
theorem dX12_readComponent_2 : decode cX12_readComponent 2 = .ok (.iload_n 1, 1) := by decide +kernel
theorem dX12_readComponent_3 : decode cX12_readComponent 3 = .ok (.sipush 272, 3) := by decide +kernel
theorem dX12_readComponent_6 : decode cX12_readComponent 6 = .ok (.if_icmp .ge 16, 3) := by decide +kernel
theorem dX12_readComponent_9 : decode cX12_readComponent 9 = .ok (.aload_n 0, 1) := by decide +kernel
theorem dX12_readComponent_10 : decode cX12_readComponent 10 = .ok (.getfield 13, 3) := by decide +kernel
theorem dX12_readComponent_13 : decode cX12_readComponent 13 = .ok (.iload_n 1, 1) := by decide +kernel
theorem dX12_readComponent_14 : decode cX12_readComponent 14 = .ok (.iconst 0, 1) := by decide +kernel
theorem dX12_readComponent_15 : decode cX12_readComponent 15 = .ok (.iastore, 1) := by decide +kernel
theorem dX12_readComponent_16 : decode cX12_readComponent 16 = .ok (.iinc 1 1, 3) := by decide +kernel
theorem dX12_readComponent_19 : decode cX12_readComponent 19 = .ok (.goto (-17), 3) := by decide +kernel
theorem dX12_readComponent_22 : decode cX12_readComponent 22 = .ok (.aload_n 0, 1) := by decide +kernel
theorem dX12_readComponent_23 : decode cX12_readComponent 23 = .ok (.iconst 0, 1) := by decide +kernel
theorem dX12_readComponent_24 : decode cX12_readComponent 24 = .ok (.putfield 41, 3) := by decide +kernel
theorem dX12_readComponent_27 : decode cX12_readComponent 27 = .ok (.aload_n 0, 1) := by decide +kernel
theorem dX12_readComponent_28 : decode cX12_readComponent 28 = .ok (.iconst 0, 1) := by decide +kernel
theorem dX12_readComponent_29 : decode cX12_readComponent 29 = .ok (.putfield 72, 3) := by decide +kernel
theorem dX12_readComponent_32 : decode cX12_readComponent 32 = .ok (.aload_n 0, 1) := by decide +kernel
theorem dX12_readComponent_33 : decode cX12_readComponent 33 = .ok (.invokevirtual 76, 3) := by decide +kernel
theorem dX12_readComponent_36 : decode cX12_readComponent 36 = .ok (.aload_n 0, 1) := by decide +kernel
theorem dX12_readComponent_37 : decode cX12_readComponent 37 = .ok (.getfield 72, 3) := by decide +kernel
theorem dX12_readComponent_40 : decode cX12_readComponent 40 = .ok (.ifCond .ne 70, 3) := by decide +kernel
theorem dX12_readComponent_43 : decode cX12_readComponent 43 = .ok (.aload_n 0, 1) := by decide +kernel
theorem dX12_readComponent_44 : decode cX12_readComponent 44 = .ok (.getfield 57, 3) := by decide +kernel
theorem dX12_readComponent_47 : decode cX12_readComponent 47 = .ok (.ifCond .eq 63, 3) := by decide +kernel
theorem dX12_readComponent_50 : decode cX12_readComponent 50 = .ok (.aload_n 0, 1) := by decide +kernel
theorem dX12_readComponent_51 : decode cX12_readComponent 51 = .ok (.invokevirtual 127, 3) := by decide +kernel
theorem dX12_readComponent_54 : decode cX12_readComponent 54 = .ok (.ifCond .eq 10, 3) := by decide +kernel
theorem dX12_readComponent_57 : decode cX12_readComponent 57 = .ok (.aload_n 0, 1) := by decide +kernel
theorem dX12_readComponent_58 : decode cX12_readComponent 58 = .ok (.invokevirtual 130, 3) := by decide +kernel
theorem dX12_readComponent_61 : decode cX12_readComponent 61 = .ok (.goto 36, 3) := by decide +kernel
theorem dX12_readComponent_64 : decode cX12_readComponent 64 = .ok (.aload_n 0, 1) := by decide +kernel
theorem dX12_readComponent_65 : decode cX12_readComponent 65 = .ok (.invokevirtual 133, 3) := by decide +kernel
theorem dX12_readComponent_68 : decode cX12_readComponent 68 = .ok (.ifCond .eq 10, 3) := by decide +kernel
theorem dX12_readComponent_71 : decode cX12_readComponent 71 = .ok (.aload_n 0, 1) := by decide +kernel
theorem dX12_readComponent_72 : decode cX12_readComponent 72 = .ok (.invokevirtual 136, 3) := by decide +kernel
theorem dX12_readComponent_75 : decode cX12_readComponent 75 = .ok (.goto 22, 3) := by decide +kernel
theorem dX12_readComponent_78 : decode cX12_readComponent 78 = .ok (.aload_n 0, 1) := by decide +kernel
theorem dX12_readComponent_79 : decode cX12_readComponent 79 = .ok (.invokevirtual 139, 3) := by decide +kernel
theorem dX12_readComponent_82 : decode cX12_readComponent 82 = .ok (.ifCond .eq 10, 3) := by decide +kernel
theorem dX12_readComponent_85 : decode cX12_readComponent 85 = .ok (.aload_n 0, 1) := by decide +kernel
theorem dX12_readComponent_86 : decode cX12_readComponent 86 = .ok (.invokevirtual 142, 3) := by decide +kernel
theorem dX12_readComponent_89 : decode cX12_readComponent 89 = .ok (.goto 8, 3) := by decide +kernel
theorem dX12_readComponent_92 : decode cX12_readComponent 92 = .ok (.aload_n 0, 1) := by decide +kernel
theorem dX12_readComponent_93 : decode cX12_readComponent 93 = .ok (.iconst 0, 1) := by decide +kernel
theorem dX12_readComponent_94 : decode cX12_readComponent 94 = .ok (.invokevirtual 83, 3) := by decide +kernel
theorem dX12_readComponent_97 : decode cX12_readComponent 97 = .ok (.aload_n 0, 1) := by decide +kernel
theorem dX12_readComponent_98 : decode cX12_readComponent 98 = .ok (.aload_n 0, 1) := by decide +kernel
theorem dX12_readComponent_99 : decode cX12_readComponent 99 = .ok (.bipush 59, 2) := by decide +kernel
theorem dX12_readComponent_101 : decode cX12_readComponent 101 = .ok (.invokevirtual 87, 3) := by decide +kernel
theorem dX12_readComponent_104 : decode cX12_readComponent 104 = .ok (.invokevirtual 83, 3) := by decide +kernel
theorem dX12_readComponent_107 : decode cX12_readComponent 107 = .ok (.goto (-71), 3) := by decide +kernel
theorem dX12_readComponent_110 : decode cX12_readComponent 110 = .ok (.return_, 1) := by decide +kernel
set_option maxRecDepth 20000 in
theorem ggX12_appendCharacter_X12_in : GoodIn wsX12_appendCharacter wsX12_in := goodIn_r _ [6] (by decide +kernel) (by decide +kernel)
set_option maxRecDepth 20000 in
theorem gX12_appendCharacter_X12_in : GoodIn wsX12_appendCharacter (va_wsS RX12 60 yX12_in wsX12_in) := goodIn_app (goodIn_of _ (by decide +kernel)) ggX12_appendCharacter_X12_in
theorem dX12_appendCharacter_0 : decode cX12_appendCharacter 0 = .ok (.iload_n 1, 1) := by decide +kernel
theorem dX12_appendCharacter_1 : decode cX12_appendCharacter 1 = .ok (.iconst 0, 1) := by decide +kernel
theorem dX12_appendCharacter_2 : decode cX12_appendCharacter 2 = .ok (.sipush 255, 3) := by decide +kernel
theorem dX12_appendCharacter_5 : decode cX12_appendCharacter 5 = .ok (.invokestatic 60, 3) := by decide +kernel
theorem dX12_appendCharacter_8 : decode cX12_appendCharacter 8 = .ok (.ifCond .ne 5, 3) := by decide +kernel
theorem dX12_appendCharacter_11 : decode cX12_appendCharacter 11 = .ok (.iconst (-1), 1) := by decide +kernel
theorem dX12_appendCharacter_12 : decode cX12_appendCharacter 12 = .ok (.ireturn, 1) := by decide +kernel
theorem dX12_appendCharacter_13 : decode cX12_appendCharacter 13 = .ok (.aload_n 0, 1) := by decide +kernel
theorem dX12_appendCharacter_14 : decode cX12_appendCharacter 14 = .ok (.getfield 44, 3) := by decide +kernel
theorem dX12_appendCharacter_17 : decode cX12_appendCharacter 17 = .ok (.sipush 200, 3) := by decide +kernel
theorem dX12_appendCharacter_20 : decode cX12_appendCharacter 20 = .ok (.if_icmp .ne 6, 3) := by decide +kernel
theorem dX12_appendCharacter_23 : decode cX12_appendCharacter 23 = .ok (.bipush (-3), 2) := by decide +kernel
theorem dX12_appendCharacter_25 : decode cX12_appendCharacter 25 = .ok (.ireturn, 1) := by decide +kernel
theorem dX12_appendCharacter_26 : decode cX12_appendCharacter 26 = .ok (.aload_n 0, 1) := by decide +kernel
theorem dX12_appendCharacter_27 : decode cX12_appendCharacter 27 = .ok (.getfield 19, 3) := by decide +kernel
theorem dX12_appendCharacter_30 : decode cX12_appendCharacter 30 = .ok (.aload_n 0, 1) := by decide +kernel
theorem dX12_appendCharacter_31 : decode cX12_appendCharacter 31 = .ok (.getfield 44, 3) := by decide +kernel
theorem dX12_appendCharacter_34 : decode cX12_appendCharacter 34 = .ok (.iload_n 1, 1) := by decide +kernel
theorem dX12_appendCharacter_35 : decode cX12_appendCharacter 35 = .ok (.iastore, 1) := by decide +kernel
theorem dX12_appendCharacter_36 : decode cX12_appendCharacter 36 = .ok (.aload_n 0, 1) := by decide +kernel
theorem dX12_appendCharacter_37 : decode cX12_appendCharacter 37 = .ok (.dup, 1) := by decide +kernel
theorem dX12_appendCharacter_38 : decode cX12_appendCharacter 38 = .ok (.getfield 44, 3) := by decide +kernel
theorem dX12_appendCharacter_41 : decode cX12_appendCharacter 41 = .ok (.iconst 1, 1) := by decide +kernel
theorem dX12_appendCharacter_42 : decode cX12_appendCharacter 42 = .ok (.iadd, 1) := by decide +kernel
theorem dX12_appendCharacter_43 : decode cX12_appendCharacter 43 = .ok (.putfield 44, 3) := by decide +kernel
theorem dX12_appendCharacter_46 : decode cX12_appendCharacter 46 = .ok (.aload_n 0, 1) := by decide +kernel
theorem dX12_appendCharacter_47 : decode cX12_appendCharacter 47 = .ok (.getfield 44, 3) := by decide +kernel
theorem dX12_appendCharacter_50 : decode cX12_appendCharacter 50 = .ok (.ireturn, 1) := by decide +kernel
theorem dX12_clearText_0 : decode cX12_clearText 0 = .ok (.aload_n 0, 1) := by decide +kernel
theorem dX12_clearText_1 : decode cX12_clearText 1 = .ok (.getfield 44, 3) := by decide +kernel
theorem dX12_clearText_4 : decode cX12_clearText 4 = .ok (.istore_n 1, 1) := by decide +kernel
theorem dX12_clearText_5 : decode cX12_clearText 5 = .ok (.aload_n 0, 1) := by decide +kernel
theorem dX12_clearText_6 : decode cX12_clearText 6 = .ok (.iconst 0, 1) := by decide +kernel
theorem dX12_clearText_7 : decode cX12_clearText 7 = .ok (.putfield 44, 3) := by decide +kernel
theorem dX12_clearText_10 : decode cX12_clearText 10 = .ok (.iload_n 1, 1) := by decide +kernel
theorem dX12_clearText_11 : decode cX12_clearText 11 = .ok (.ireturn, 1) := by decide +kernel
set_option maxRecDepth 20000 in
theorem ggX12_loadComponent_X12_readComponent : GoodIn wsX12_loadComponent wsX12_readComponent := goodIn_r _ [10, 4, 11, 1, 12, 13, 14, 15, 9, 16, 2, 17, 18, 19, 20, 21, 5, 22, 23, 24, 25, 26, 27, 28, 29, 30, 31, 32, 33, 34, 35, 36, 37, 38, 39, 40, 41, 42, 43, 44, 45, 46, 47, 48, 49, 50, 51, 52, 53, 54, 55, 56, 57, 58, 59, 60, 61, 62, 63, 64, 65, 66, 67, 68, 69, 70, 71, 72, 73, 74, 75, 76, 77, 78, 79, 80, 81, 82, 83, 84, 85, 86, 87, 88, 89, 90, 91, 92, 93, 94, 95, 96, 97, 98, 99, 100, 101, 102, 103, 104, 105, 106, 107, 108, 109, 110, 111, 112, 113, 124, 125, 126, 127, 128, 129, 130, 131, 132, 133, 134, 135, 136, 137, 138, 139] (by decide +kernel) (by decide +kernel)
set_option maxRecDepth 20000 in
theorem gX12_loadComponent_X12_readComponent : GoodIn wsX12_loadComponent (wsV RX12 145 RX12 yX12_readComponent wsX12_readComponent) := goodIn_app (goodIn_of _ (by decide +kernel)) ggX12_loadComponent_X12_readComponent
set_option maxRecDepth 20000 in
theorem ggX12_loadComponent_X12_note : GoodIn wsX12_loadComponent wsX12_note := goodIn_r _ [117, 118, 119, 3, 124, 125, 126, 127, 128, 129, 130, 131, 132, 133, 134, 135, 136, 137, 138, 139] (by decide +kernel) (by decide +kernel)
set_option maxRecDepth 20000 in
theorem gX12_loadComponent_X12_note : GoodIn wsX12_loadComponent (wsV RX12 148 RX12 yX12_note wsX12_note) := goodIn_app (goodIn_of _ (by decide +kernel)) ggX12_loadComponent_X12_note
set_option maxRecDepth 20000 in
theorem ggX12_loadComponent_X12_bare : GoodIn wsX12_loadComponent wsX12_bare := goodIn_r _ [123, 3, 124, 125, 126, 127, 128, 129, 130, 131, 132, 133, 134, 135, 136, 137, 138, 139] (by decide +kernel) (by decide +kernel)
set_option maxRecDepth 20000 in
theorem gX12_loadComponent_X12_bare : GoodIn wsX12_loadComponent (wsV RX12 34 RX12 yX12_bare wsX12_bare) := goodIn_app (goodIn_of _ (by decide +kernel)) ggX12_loadComponent_X12_bare
theorem dX12_loadComponent_0 : decode cX12_loadComponent 0 = .ok (.aload_n 0, 1) := by decide +kernel
theorem dX12_loadComponent_1 : decode cX12_loadComponent 1 = .ok (.invokevirtual 145, 3) := by decide +kernel
theorem dX12_loadComponent_4 : decode cX12_loadComponent 4 = .ok (.aload_n 0, 1) := by decide +kernel
theorem dX12_loadComponent_5 : decode cX12_loadComponent 5 = .ok (.getfield 72, 3) := by decide +kernel
theorem dX12_loadComponent_8 : decode cX12_loadComponent 8 = .ok (.ifCond .eq 11, 3) := by decide +kernel
theorem dX12_loadComponent_11 : decode cX12_loadComponent 11 = .ok (.bipush (-10), 2) := by decide +kernel
theorem dX12_loadComponent_13 : decode cX12_loadComponent 13 = .ok (.aload_n 0, 1) := by decide +kernel
theorem dX12_loadComponent_14 : decode cX12_loadComponent 14 = .ok (.getfield 51, 3) := by decide +kernel
theorem dX12_loadComponent_17 : decode cX12_loadComponent 17 = .ok (.isub, 1) := by decide +kernel
theorem dX12_loadComponent_18 : decode cX12_loadComponent 18 = .ok (.ireturn, 1) := by decide +kernel
theorem dX12_loadComponent_19 : decode cX12_loadComponent 19 = .ok (.aload_n 0, 1) := by decide +kernel
theorem dX12_loadComponent_20 : decode cX12_loadComponent 20 = .ok (.invokevirtual 148, 3) := by decide +kernel
theorem dX12_loadComponent_23 : decode cX12_loadComponent 23 = .ok (.iconst 0, 1) := by decide +kernel
theorem dX12_loadComponent_24 : decode cX12_loadComponent 24 = .ok (.istore_n 1, 1) := by decide +kernel
theorem dX12_loadComponent_25 : decode cX12_loadComponent 25 = .ok (.iload_n 1, 1) := by decide +kernel
theorem dX12_loadComponent_26 : decode cX12_loadComponent 26 = .ok (.sipush 272, 3) := by decide +kernel
theorem dX12_loadComponent_29 : decode cX12_loadComponent 29 = .ok (.if_icmp .ge 21, 3) := by decide +kernel
theorem dX12_loadComponent_32 : decode cX12_loadComponent 32 = .ok (.aload_n 0, 1) := by decide +kernel
theorem dX12_loadComponent_33 : decode cX12_loadComponent 33 = .ok (.getfield 7, 3) := by decide +kernel
theorem dX12_loadComponent_36 : decode cX12_loadComponent 36 = .ok (.iload_n 1, 1) := by decide +kernel
theorem dX12_loadComponent_37 : decode cX12_loadComponent 37 = .ok (.aload_n 0, 1) := by decide +kernel
theorem dX12_loadComponent_38 : decode cX12_loadComponent 38 = .ok (.getfield 13, 3) := by decide +kernel
theorem dX12_loadComponent_41 : decode cX12_loadComponent 41 = .ok (.iload_n 1, 1) := by decide +kernel
theorem dX12_loadComponent_42 : decode cX12_loadComponent 42 = .ok (.iaload, 1) := by decide +kernel
theorem dX12_loadComponent_43 : decode cX12_loadComponent 43 = .ok (.iastore, 1) := by decide +kernel
theorem dX12_loadComponent_44 : decode cX12_loadComponent 44 = .ok (.iinc 1 1, 3) := by decide +kernel
theorem dX12_loadComponent_47 : decode cX12_loadComponent 47 = .ok (.goto (-22), 3) := by decide +kernel
theorem dX12_loadComponent_50 : decode cX12_loadComponent 50 = .ok (.aload_n 0, 1) := by decide +kernel
theorem dX12_loadComponent_51 : decode cX12_loadComponent 51 = .ok (.invokevirtual 34, 3) := by decide +kernel
theorem dX12_loadComponent_54 : decode cX12_loadComponent 54 = .ok (.aload_n 0, 1) := by decide +kernel
theorem dX12_loadComponent_55 : decode cX12_loadComponent 55 = .ok (.iconst 0, 1) := by decide +kernel
theorem dX12_loadComponent_56 : decode cX12_loadComponent 56 = .ok (.putfield 44, 3) := by decide +kernel
theorem dX12_loadComponent_59 : decode cX12_loadComponent 59 = .ok (.aload_n 0, 1) := by decide +kernel
theorem dX12_loadComponent_60 : decode cX12_loadComponent 60 = .ok (.getfield 7, 3) := by decide +kernel
theorem dX12_loadComponent_63 : decode cX12_loadComponent 63 = .ok (.iconst 4, 1) := by decide +kernel
theorem dX12_loadComponent_64 : decode cX12_loadComponent 64 = .ok (.iaload, 1) := by decide +kernel
theorem dX12_loadComponent_65 : decode cX12_loadComponent 65 = .ok (.ireturn, 1) := by decide +kernel
set_option maxRecDepth 20000 in
theorem ggX12_setInitialValue_X12_in : GoodIn wsX12_setInitialValue wsX12_in := goodIn_r _ [5] (by decide +kernel) (by decide +kernel)
set_option maxRecDepth 20000 in
theorem gX12_setInitialValue_X12_in : GoodIn wsX12_setInitialValue (va_wsS RX12 60 yX12_in wsX12_in) := goodIn_app (goodIn_of _ (by decide +kernel)) ggX12_setInitialValue_X12_in
set_option maxRecDepth 20000 in
theorem ggX12_setInitialValue_X12_note : GoodIn wsX12_setInitialValue wsX12_note := goodIn_r _ [9, 10, 11, 1, 16, 17, 18, 19, 20, 21, 22, 23, 24, 25, 26, 27, 28, 29, 30, 31] (by decide +kernel) (by decide +kernel)
set_option maxRecDepth 20000 in
theorem gX12_setInitialValue_X12_note : GoodIn wsX12_setInitialValue (wsV RX12 148 RX12 yX12_note wsX12_note) := goodIn_app (goodIn_of _ (by decide +kernel)) ggX12_setInitialValue_X12_note
set_option maxRecDepth 20000 in
theorem ggX12_setInitialValue_X12_bare : GoodIn wsX12_setInitialValue wsX12_bare := goodIn_r _ [15, 1, 16, 17, 18, 19, 20, 21, 22, 23, 24, 25, 26, 27, 28, 29, 30, 31] (by decide +kernel) (by decide +kernel)
set_option maxRecDepth 20000 in
theorem gX12_setInitialValue_X12_bare : GoodIn wsX12_setInitialValue (wsV RX12 34 RX12 yX12_bare wsX12_bare) := goodIn_app (goodIn_of _ (by decide +kernel)) ggX12_setInitialValue_X12_bare
theorem dX12_setInitialValue_0 : decode cX12_setInitialValue 0 = .ok (.iload_n 1, 1) := by decide +kernel
theorem dX12_setInitialValue_1 : decode cX12_setInitialValue 1 = .ok (.iconst 0, 1) := by decide +kernel
theorem dX12_setInitialValue_2 : decode cX12_setInitialValue 2 = .ok (.iconst 2, 1) := by decide +kernel
theorem dX12_setInitialValue_3 : decode cX12_setInitialValue 3 = .ok (.invokestatic 60, 3) := by decide +kernel
theorem dX12_setInitialValue_6 : decode cX12_setInitialValue 6 = .ok (.ifCond .eq 14, 3) := by decide +kernel
theorem dX12_setInitialValue_9 : decode cX12_setInitialValue 9 = .ok (.iload_n 2, 1) := by decide +kernel
theorem dX12_setInitialValue_10 : decode cX12_setInitialValue 10 = .ok (.bipush (-99), 2) := by decide +kernel
theorem dX12_setInitialValue_12 : decode cX12_setInitialValue 12 = .ok (.bipush 99, 2) := by decide +kernel
theorem dX12_setInitialValue_14 : decode cX12_setInitialValue 14 = .ok (.invokestatic 60, 3) := by decide +kernel
theorem dX12_setInitialValue_17 : decode cX12_setInitialValue 17 = .ok (.ifCond .ne 5, 3) := by decide +kernel
theorem dX12_setInitialValue_20 : decode cX12_setInitialValue 20 = .ok (.iconst (-1), 1) := by decide +kernel
theorem dX12_setInitialValue_21 : decode cX12_setInitialValue 21 = .ok (.ireturn, 1) := by decide +kernel
theorem dX12_setInitialValue_22 : decode cX12_setInitialValue 22 = .ok (.aload_n 0, 1) := by decide +kernel
theorem dX12_setInitialValue_23 : decode cX12_setInitialValue 23 = .ok (.invokevirtual 148, 3) := by decide +kernel
theorem dX12_setInitialValue_26 : decode cX12_setInitialValue 26 = .ok (.aload_n 0, 1) := by decide +kernel
theorem dX12_setInitialValue_27 : decode cX12_setInitialValue 27 = .ok (.getfield 7, 3) := by decide +kernel
theorem dX12_setInitialValue_30 : decode cX12_setInitialValue 30 = .ok (.iconst 0, 1) := by decide +kernel
theorem dX12_setInitialValue_31 : decode cX12_setInitialValue 31 = .ok (.iload_n 1, 1) := by decide +kernel
theorem dX12_setInitialValue_32 : decode cX12_setInitialValue 32 = .ok (.iadd, 1) := by decide +kernel
theorem dX12_setInitialValue_33 : decode cX12_setInitialValue 33 = .ok (.iaload, 1) := by decide +kernel
theorem dX12_setInitialValue_34 : decode cX12_setInitialValue 34 = .ok (.istore_n 3, 1) := by decide +kernel
theorem dX12_setInitialValue_35 : decode cX12_setInitialValue 35 = .ok (.aload_n 0, 1) := by decide +kernel
theorem dX12_setInitialValue_36 : decode cX12_setInitialValue 36 = .ok (.getfield 7, 3) := by decide +kernel
theorem dX12_setInitialValue_39 : decode cX12_setInitialValue 39 = .ok (.iconst 0, 1) := by decide +kernel
theorem dX12_setInitialValue_40 : decode cX12_setInitialValue 40 = .ok (.iload_n 1, 1) := by decide +kernel
theorem dX12_setInitialValue_41 : decode cX12_setInitialValue 41 = .ok (.iadd, 1) := by decide +kernel
theorem dX12_setInitialValue_42 : decode cX12_setInitialValue 42 = .ok (.iload_n 2, 1) := by decide +kernel
theorem dX12_setInitialValue_43 : decode cX12_setInitialValue 43 = .ok (.iastore, 1) := by decide +kernel
theorem dX12_setInitialValue_44 : decode cX12_setInitialValue 44 = .ok (.aload_n 0, 1) := by decide +kernel
theorem dX12_setInitialValue_45 : decode cX12_setInitialValue 45 = .ok (.invokevirtual 34, 3) := by decide +kernel
theorem dX12_setInitialValue_48 : decode cX12_setInitialValue 48 = .ok (.bipush 100, 2) := by decide +kernel
theorem dX12_setInitialValue_50 : decode cX12_setInitialValue 50 = .ok (.iload_n 3, 1) := by decide +kernel
theorem dX12_setInitialValue_51 : decode cX12_setInitialValue 51 = .ok (.iadd, 1) := by decide +kernel
theorem dX12_setInitialValue_52 : decode cX12_setInitialValue 52 = .ok (.ireturn, 1) := by decide +kernel
set_option maxRecDepth 20000 in
theorem ggX12_isMethodNumber_X12_in : GoodIn wsX12_isMethodNumber wsX12_in := goodIn_r _ [5] (by decide +kernel) (by decide +kernel)
set_option maxRecDepth 20000 in
theorem gX12_isMethodNumber_X12_in : GoodIn wsX12_isMethodNumber (va_wsS RX12 60 yX12_in wsX12_in) := goodIn_app (goodIn_of _ (by decide +kernel)) ggX12_isMethodNumber_X12_in
theorem dX12_isMethodNumber_0 : decode cX12_isMethodNumber 0 = .ok (.iload_n 1, 1) := by decide +kernel
theorem dX12_isMethodNumber_1 : decode cX12_isMethodNumber 1 = .ok (.iconst 0, 1) := by decide +kernel
theorem dX12_isMethodNumber_2 : decode cX12_isMethodNumber 2 = .ok (.aload_n 0, 1) := by decide +kernel
theorem dX12_isMethodNumber_3 : decode cX12_isMethodNumber 3 = .ok (.getfield 7, 3) := by decide +kernel
theorem dX12_isMethodNumber_6 : decode cX12_isMethodNumber 6 = .ok (.iconst 4, 1) := by decide +kernel
theorem dX12_isMethodNumber_7 : decode cX12_isMethodNumber 7 = .ok (.iaload, 1) := by decide +kernel
theorem dX12_isMethodNumber_8 : decode cX12_isMethodNumber 8 = .ok (.iconst 1, 1) := by decide +kernel
theorem dX12_isMethodNumber_9 : decode cX12_isMethodNumber 9 = .ok (.isub, 1) := by decide +kernel
theorem dX12_isMethodNumber_10 : decode cX12_isMethodNumber 10 = .ok (.invokestatic 60, 3) := by decide +kernel
theorem dX12_isMethodNumber_13 : decode cX12_isMethodNumber 13 = .ok (.ireturn, 1) := by decide +kernel
set_option maxRecDepth 20000 in
theorem ggX12_removeMethod_X12_isMethodNumber : GoodIn wsX12_removeMethod wsX12_isMethodNumber := goodIn_r _ [6, 1, 7, 8, 5, 9, 20, 21, 22, 23, 24, 25, 26, 27, 28, 29, 30, 31, 32, 33, 34, 35] (by decide +kernel) (by decide +kernel)
set_option maxRecDepth 20000 in
theorem gX12_removeMethod_X12_isMethodNumber : GoodIn wsX12_removeMethod (wsV RX12 151 RX12 yX12_isMethodNumber wsX12_isMethodNumber) := goodIn_app (goodIn_of _ (by decide +kernel)) ggX12_removeMethod_X12_isMethodNumber
set_option maxRecDepth 20000 in
theorem ggX12_removeMethod_X12_note : GoodIn wsX12_removeMethod wsX12_note := goodIn_r _ [13, 14, 15, 1, 20, 21, 22, 23, 24, 25, 26, 27, 28, 29, 30, 31, 32, 33, 34, 35] (by decide +kernel) (by decide +kernel)
set_option maxRecDepth 20000 in
theorem gX12_removeMethod_X12_note : GoodIn wsX12_removeMethod (wsV RX12 148 RX12 yX12_note wsX12_note) := goodIn_app (goodIn_of _ (by decide +kernel)) ggX12_removeMethod_X12_note
set_option maxRecDepth 20000 in
theorem ggX12_removeMethod_X12_bare : GoodIn wsX12_removeMethod wsX12_bare := goodIn_r _ [19, 1, 20, 21, 22, 23, 24, 25, 26, 27, 28, 29, 30, 31, 32, 33, 34, 35] (by decide +kernel) (by decide +kernel)
set_option maxRecDepth 20000 in
theorem gX12_removeMethod_X12_bare : GoodIn wsX12_removeMethod (wsV RX12 34 RX12 yX12_bare wsX12_bare) := goodIn_app (goodIn_of _ (by decide +kernel)) ggX12_removeMethod_X12_bare
theorem dX12_removeMethod_0 : decode cX12_removeMethod 0 = .ok (.aload_n 0, 1) := by decide +kernel
theorem dX12_removeMethod_1 : decode cX12_removeMethod 1 = .ok (.iload_n 1, 1) := by decide +kernel
theorem dX12_removeMethod_2 : decode cX12_removeMethod 2 = .ok (.invokevirtual 151, 3) := by decide +kernel
theorem dX12_removeMethod_5 : decode cX12_removeMethod 5 = .ok (.ifCond .ne 5, 3) := by decide +kernel
theorem dX12_removeMethod_8 : decode cX12_removeMethod 8 = .ok (.iconst (-1), 1) := by decide +kernel
theorem dX12_removeMethod_9 : decode cX12_removeMethod 9 = .ok (.ireturn, 1) := by decide +kernel
theorem dX12_removeMethod_10 : decode cX12_removeMethod 10 = .ok (.aload_n 0, 1) := by decide +kernel
theorem dX12_removeMethod_11 : decode cX12_removeMethod 11 = .ok (.invokevirtual 148, 3) := by decide +kernel
theorem dX12_removeMethod_14 : decode cX12_removeMethod 14 = .ok (.bipush 14, 2) := by decide +kernel
theorem dX12_removeMethod_16 : decode cX12_removeMethod 16 = .ok (.bipush 43, 2) := by decide +kernel
theorem dX12_removeMethod_18 : decode cX12_removeMethod 18 = .ok (.iload_n 1, 1) := by decide +kernel
theorem dX12_removeMethod_19 : decode cX12_removeMethod 19 = .ok (.imul, 1) := by decide +kernel
theorem dX12_removeMethod_20 : decode cX12_removeMethod 20 = .ok (.iadd, 1) := by decide +kernel
theorem dX12_removeMethod_21 : decode cX12_removeMethod 21 = .ok (.istore_n 2, 1) := by decide +kernel
theorem dX12_removeMethod_22 : decode cX12_removeMethod 22 = .ok (.iload_n 2, 1) := by decide +kernel
theorem dX12_removeMethod_23 : decode cX12_removeMethod 23 = .ok (.bipush 43, 2) := by decide +kernel
theorem dX12_removeMethod_25 : decode cX12_removeMethod 25 = .ok (.iadd, 1) := by decide +kernel
theorem dX12_removeMethod_26 : decode cX12_removeMethod 26 = .ok (.sipush 272, 3) := by decide +kernel
theorem dX12_removeMethod_29 : decode cX12_removeMethod 29 = .ok (.if_icmp .ge 24, 3) := by decide +kernel
theorem dX12_removeMethod_32 : decode cX12_removeMethod 32 = .ok (.aload_n 0, 1) := by decide +kernel
theorem dX12_removeMethod_33 : decode cX12_removeMethod 33 = .ok (.getfield 7, 3) := by decide +kernel
theorem dX12_removeMethod_36 : decode cX12_removeMethod 36 = .ok (.iload_n 2, 1) := by decide +kernel
theorem dX12_removeMethod_37 : decode cX12_removeMethod 37 = .ok (.aload_n 0, 1) := by decide +kernel
theorem dX12_removeMethod_38 : decode cX12_removeMethod 38 = .ok (.getfield 7, 3) := by decide +kernel
theorem dX12_removeMethod_41 : decode cX12_removeMethod 41 = .ok (.iload_n 2, 1) := by decide +kernel
theorem dX12_removeMethod_42 : decode cX12_removeMethod 42 = .ok (.bipush 43, 2) := by decide +kernel
theorem dX12_removeMethod_44 : decode cX12_removeMethod 44 = .ok (.iadd, 1) := by decide +kernel
theorem dX12_removeMethod_45 : decode cX12_removeMethod 45 = .ok (.iaload, 1) := by decide +kernel
theorem dX12_removeMethod_46 : decode cX12_removeMethod 46 = .ok (.iastore, 1) := by decide +kernel
theorem dX12_removeMethod_47 : decode cX12_removeMethod 47 = .ok (.iinc 2 1, 3) := by decide +kernel
theorem dX12_removeMethod_50 : decode cX12_removeMethod 50 = .ok (.goto (-28), 3) := by decide +kernel
theorem dX12_removeMethod_53 : decode cX12_removeMethod 53 = .ok (.aload_n 0, 1) := by decide +kernel
theorem dX12_removeMethod_54 : decode cX12_removeMethod 54 = .ok (.getfield 7, 3) := by decide +kernel
theorem dX12_removeMethod_57 : decode cX12_removeMethod 57 = .ok (.iconst 4, 1) := by decide +kernel
theorem dX12_removeMethod_58 : decode cX12_removeMethod 58 = .ok (.dup2, 1) := by decide +kernel
theorem dX12_removeMethod_59 : decode cX12_removeMethod 59 = .ok (.iaload, 1) := by decide +kernel
theorem dX12_removeMethod_60 : decode cX12_removeMethod 60 = .ok (.iconst 1, 1) := by decide +kernel
theorem dX12_removeMethod_61 : decode cX12_removeMethod 61 = .ok (.isub, 1) := by decide +kernel
theorem dX12_removeMethod_62 : decode cX12_removeMethod 62 = .ok (.iastore, 1) := by decide +kernel
theorem dX12_removeMethod_63 : decode cX12_removeMethod 63 = .ok (.aload_n 0, 1) := by decide +kernel
theorem dX12_removeMethod_64 : decode cX12_removeMethod 64 = .ok (.invokevirtual 34, 3) := by decide +kernel
theorem dX12_removeMethod_67 : decode cX12_removeMethod 67 = .ok (.aload_n 0, 1) := by decide +kernel
theorem dX12_removeMethod_68 : decode cX12_removeMethod 68 = .ok (.getfield 7, 3) := by decide +kernel
theorem dX12_removeMethod_71 : decode cX12_removeMethod 71 = .ok (.iconst 4, 1) := by decide +kernel
theorem dX12_removeMethod_72 : decode cX12_removeMethod 72 = .ok (.iaload, 1) := by decide +kernel
theorem dX12_removeMethod_73 : decode cX12_removeMethod 73 = .ok (.ireturn, 1) := by decide +kernel
theorem dX12_methodCount_0 : decode cX12_methodCount 0 = .ok (.aload_n 0, 1) := by decide +kernel
theorem dX12_methodCount_1 : decode cX12_methodCount 1 = .ok (.getfield 7, 3) := by decide +kernel
theorem dX12_methodCount_4 : decode cX12_methodCount 4 = .ok (.iconst 4, 1) := by decide +kernel
theorem dX12_methodCount_5 : decode cX12_methodCount 5 = .ok (.iaload, 1) := by decide +kernel
theorem dX12_methodCount_6 : decode cX12_methodCount 6 = .ok (.ireturn, 1) := by decide +kernel
theorem dX12_clauses_0 : decode cX12_clauses 0 = .ok (.aload_n 0, 1) := by decide +kernel
theorem dX12_clauses_1 : decode cX12_clauses 1 = .ok (.getfield 7, 3) := by decide +kernel
theorem dX12_clauses_4 : decode cX12_clauses 4 = .ok (.bipush 14, 2) := by decide +kernel
theorem dX12_clauses_6 : decode cX12_clauses 6 = .ok (.bipush 43, 2) := by decide +kernel
theorem dX12_clauses_8 : decode cX12_clauses 8 = .ok (.iload_n 1, 1) := by decide +kernel
theorem dX12_clauses_9 : decode cX12_clauses 9 = .ok (.imul, 1) := by decide +kernel
theorem dX12_clauses_10 : decode cX12_clauses 10 = .ok (.iadd, 1) := by decide +kernel
theorem dX12_clauses_11 : decode cX12_clauses 11 = .ok (.iaload, 1) := by decide +kernel
theorem dX12_clauses_12 : decode cX12_clauses 12 = .ok (.ireturn, 1) := by decide +kernel
theorem dX12_clauseAt_0 : decode cX12_clauseAt 0 = .ok (.bipush 14, 2) := by decide +kernel
theorem dX12_clauseAt_2 : decode cX12_clauseAt 2 = .ok (.bipush 43, 2) := by decide +kernel
theorem dX12_clauseAt_4 : decode cX12_clauseAt 4 = .ok (.iload_n 1, 1) := by decide +kernel
theorem dX12_clauseAt_5 : decode cX12_clauseAt 5 = .ok (.imul, 1) := by decide +kernel
theorem dX12_clauseAt_6 : decode cX12_clauseAt 6 = .ok (.iadd, 1) := by decide +kernel
theorem dX12_clauseAt_7 : decode cX12_clauseAt 7 = .ok (.iconst 1, 1) := by decide +kernel
theorem dX12_clauseAt_8 : decode cX12_clauseAt 8 = .ok (.iadd, 1) := by decide +kernel
theorem dX12_clauseAt_9 : decode cX12_clauseAt 9 = .ok (.bipush 6, 2) := by decide +kernel
theorem dX12_clauseAt_11 : decode cX12_clauseAt 11 = .ok (.iload_n 2, 1) := by decide +kernel
theorem dX12_clauseAt_12 : decode cX12_clauseAt 12 = .ok (.imul, 1) := by decide +kernel
theorem dX12_clauseAt_13 : decode cX12_clauseAt 13 = .ok (.iadd, 1) := by decide +kernel
theorem dX12_clauseAt_14 : decode cX12_clauseAt 14 = .ok (.ireturn, 1) := by decide +kernel
set_option maxRecDepth 20000 in
theorem ggX12_complexity_X12_isMethodNumber : GoodIn wsX12_complexity wsX12_isMethodNumber := goodIn_r _ [6, 1, 7, 8, 5, 9, 18, 19, 20, 21, 22, 23, 24, 25, 26, 27, 28, 29, 30, 31, 32, 33] (by decide +kernel) (by decide +kernel)
set_option maxRecDepth 20000 in
theorem gX12_complexity_X12_isMethodNumber : GoodIn wsX12_complexity (wsV RX12 151 RX12 yX12_isMethodNumber wsX12_isMethodNumber) := goodIn_app (goodIn_of _ (by decide +kernel)) ggX12_complexity_X12_isMethodNumber
set_option maxRecDepth 20000 in
theorem ggX12_complexity_X12_clauses : GoodIn wsX12_complexity wsX12_clauses := goodIn_r _ [13, 1, 18, 19, 20, 21, 22, 23, 24, 25, 26, 27, 28, 29, 30, 31, 32, 33] (by decide +kernel) (by decide +kernel)
set_option maxRecDepth 20000 in
theorem gX12_complexity_X12_clauses : GoodIn wsX12_complexity (wsV RX12 154 RX12 yX12_clauses wsX12_clauses) := goodIn_app (goodIn_of _ (by decide +kernel)) ggX12_complexity_X12_clauses
set_option maxRecDepth 20000 in
theorem ggX12_complexity_X12_clauseAt : GoodIn wsX12_complexity wsX12_clauseAt := goodIn_r _ [17] (by decide +kernel) (by decide +kernel)
set_option maxRecDepth 20000 in
theorem gX12_complexity_X12_clauseAt : GoodIn wsX12_complexity (wsV RX12 157 RX12 yX12_clauseAt wsX12_clauseAt) := goodIn_app (goodIn_of _ (by decide +kernel)) ggX12_complexity_X12_clauseAt
theorem dX12_complexity_0 : decode cX12_complexity 0 = .ok (.aload_n 0, 1) := by decide +kernel
theorem dX12_complexity_1 : decode cX12_complexity 1 = .ok (.iload_n 1, 1) := by decide +kernel
theorem dX12_complexity_2 : decode cX12_complexity 2 = .ok (.invokevirtual 151, 3) := by decide +kernel
theorem dX12_complexity_5 : decode cX12_complexity 5 = .ok (.ifCond .ne 5, 3) := by decide +kernel
theorem dX12_complexity_8 : decode cX12_complexity 8 = .ok (.iconst (-1), 1) := by decide +kernel
theorem dX12_complexity_9 : decode cX12_complexity 9 = .ok (.ireturn, 1) := by decide +kernel
theorem dX12_complexity_10 : decode cX12_complexity 10 = .ok (.aload_n 0, 1) := by decide +kernel
theorem dX12_complexity_11 : decode cX12_complexity 11 = .ok (.iload_n 1, 1) := by decide +kernel
theorem dX12_complexity_12 : decode cX12_complexity 12 = .ok (.invokevirtual 154, 3) := by decide +kernel
theorem dX12_complexity_15 : decode cX12_complexity 15 = .ok (.istore_n 2, 1) := by decide +kernel
theorem dX12_complexity_16 : decode cX12_complexity 16 = .ok (.iconst 0, 1) := by decide +kernel
theorem dX12_complexity_17 : decode cX12_complexity 17 = .ok (.istore_n 3, 1) := by decide +kernel
theorem dX12_complexity_18 : decode cX12_complexity 18 = .ok (.iload_n 3, 1) := by decide +kernel
theorem dX12_complexity_19 : decode cX12_complexity 19 = .ok (.aload_n 0, 1) := by decide +kernel
theorem dX12_complexity_20 : decode cX12_complexity 20 = .ok (.iload_n 1, 1) := by decide +kernel
theorem dX12_complexity_21 : decode cX12_complexity 21 = .ok (.invokevirtual 154, 3) := by decide +kernel
theorem dX12_complexity_24 : decode cX12_complexity 24 = .ok (.if_icmp .ge 48, 3) := by decide +kernel
theorem dX12_complexity_27 : decode cX12_complexity 27 = .ok (.aload_n 0, 1) := by decide +kernel
theorem dX12_complexity_28 : decode cX12_complexity 28 = .ok (.iload_n 1, 1) := by decide +kernel
theorem dX12_complexity_29 : decode cX12_complexity 29 = .ok (.iload_n 3, 1) := by decide +kernel
theorem dX12_complexity_30 : decode cX12_complexity 30 = .ok (.invokevirtual 157, 3) := by decide +kernel
theorem dX12_complexity_33 : decode cX12_complexity 33 = .ok (.istore 4, 2) := by decide +kernel
theorem dX12_complexity_35 : decode cX12_complexity 35 = .ok (.iload_n 2, 1) := by decide +kernel
theorem dX12_complexity_36 : decode cX12_complexity 36 = .ok (.aload_n 0, 1) := by decide +kernel
theorem dX12_complexity_37 : decode cX12_complexity 37 = .ok (.getfield 7, 3) := by decide +kernel
theorem dX12_complexity_40 : decode cX12_complexity 40 = .ok (.iload 4, 2) := by decide +kernel
theorem dX12_complexity_42 : decode cX12_complexity 42 = .ok (.iaload, 1) := by decide +kernel
theorem dX12_complexity_43 : decode cX12_complexity 43 = .ok (.iconst 2, 1) := by decide +kernel
theorem dX12_complexity_44 : decode cX12_complexity 44 = .ok (.if_icmp .ne 19, 3) := by decide +kernel
theorem dX12_complexity_47 : decode cX12_complexity 47 = .ok (.aload_n 0, 1) := by decide +kernel
theorem dX12_complexity_48 : decode cX12_complexity 48 = .ok (.getfield 7, 3) := by decide +kernel
theorem dX12_complexity_51 : decode cX12_complexity 51 = .ok (.iload 4, 2) := by decide +kernel
theorem dX12_complexity_53 : decode cX12_complexity 53 = .ok (.iconst 3, 1) := by decide +kernel
theorem dX12_complexity_54 : decode cX12_complexity 54 = .ok (.iadd, 1) := by decide +kernel
theorem dX12_complexity_55 : decode cX12_complexity 55 = .ok (.iaload, 1) := by decide +kernel
theorem dX12_complexity_56 : decode cX12_complexity 56 = .ok (.ifCond .eq 7, 3) := by decide +kernel
theorem dX12_complexity_59 : decode cX12_complexity 59 = .ok (.iconst 1, 1) := by decide +kernel
theorem dX12_complexity_60 : decode cX12_complexity 60 = .ok (.goto 4, 3) := by decide +kernel
theorem dX12_complexity_63 : decode cX12_complexity 63 = .ok (.iconst 0, 1) := by decide +kernel
theorem dX12_complexity_64 : decode cX12_complexity 64 = .ok (.iadd, 1) := by decide +kernel
theorem dX12_complexity_65 : decode cX12_complexity 65 = .ok (.istore_n 2, 1) := by decide +kernel
theorem dX12_complexity_66 : decode cX12_complexity 66 = .ok (.iinc 3 1, 3) := by decide +kernel
theorem dX12_complexity_69 : decode cX12_complexity 69 = .ok (.goto (-51), 3) := by decide +kernel
theorem dX12_complexity_72 : decode cX12_complexity 72 = .ok (.iload_n 2, 1) := by decide +kernel
theorem dX12_complexity_73 : decode cX12_complexity 73 = .ok (.ireturn, 1) := by decide +kernel
theorem dX12_valueOf_0 : decode cX12_valueOf 0 = .ok (.iload_n 1, 1) := by decide +kernel
theorem dX12_valueOf_1 : decode cX12_valueOf 1 = .ok (.sipush 500, 3) := by decide +kernel
theorem dX12_valueOf_4 : decode cX12_valueOf 4 = .ok (.if_icmp .le 11, 3) := by decide +kernel
theorem dX12_valueOf_7 : decode cX12_valueOf 7 = .ok (.iload_n 1, 1) := by decide +kernel
theorem dX12_valueOf_8 : decode cX12_valueOf 8 = .ok (.sipush 1100, 3) := by decide +kernel
theorem dX12_valueOf_11 : decode cX12_valueOf 11 = .ok (.isub, 1) := by decide +kernel
theorem dX12_valueOf_12 : decode cX12_valueOf 12 = .ok (.goto 25, 3) := by decide +kernel
theorem dX12_valueOf_15 : decode cX12_valueOf 15 = .ok (.iload_n 1, 1) := by decide +kernel
theorem dX12_valueOf_16 : decode cX12_valueOf 16 = .ok (.iconst 2, 1) := by decide +kernel
theorem dX12_valueOf_17 : decode cX12_valueOf 17 = .ok (.if_icmp .le 14, 3) := by decide +kernel
theorem dX12_valueOf_20 : decode cX12_valueOf 20 = .ok (.aload_n 0, 1) := by decide +kernel
theorem dX12_valueOf_21 : decode cX12_valueOf 21 = .ok (.getfield 25, 3) := by decide +kernel
theorem dX12_valueOf_24 : decode cX12_valueOf 24 = .ok (.iload_n 1, 1) := by decide +kernel
theorem dX12_valueOf_25 : decode cX12_valueOf 25 = .ok (.iconst 3, 1) := by decide +kernel
theorem dX12_valueOf_26 : decode cX12_valueOf 26 = .ok (.isub, 1) := by decide +kernel
theorem dX12_valueOf_27 : decode cX12_valueOf 27 = .ok (.iaload, 1) := by decide +kernel
theorem dX12_valueOf_28 : decode cX12_valueOf 28 = .ok (.goto 9, 3) := by decide +kernel
theorem dX12_valueOf_31 : decode cX12_valueOf 31 = .ok (.aload_n 0, 1) := by decide +kernel
theorem dX12_valueOf_32 : decode cX12_valueOf 32 = .ok (.getfield 22, 3) := by decide +kernel
theorem dX12_valueOf_35 : decode cX12_valueOf 35 = .ok (.iload_n 1, 1) := by decide +kernel
theorem dX12_valueOf_36 : decode cX12_valueOf 36 = .ok (.iaload, 1) := by decide +kernel
theorem dX12_valueOf_37 : decode cX12_valueOf 37 = .ok (.ireturn, 1) := by decide +kernel
set_option maxRecDepth 20000 in
theorem ggX12_holds_X12_valueOf : GoodIn wsX12_holds wsX12_valueOf := goodIn_r _ [6, 7, 8, 9, 10, 11, 12, 13, 14, 15, 16, 17, 18, 19, 20, 21, 22, 23, 24] (by decide +kernel) (by decide +kernel)
set_option maxRecDepth 20000 in
theorem gX12_holds_X12_valueOf : GoodIn wsX12_holds (wsV RX12 161 RX12 yX12_valueOf wsX12_valueOf) := goodIn_app (goodIn_of _ (by decide +kernel)) ggX12_holds_X12_valueOf
theorem dX12_holds_0 : decode cX12_holds 0 = .ok (.aload_n 0, 1) := by decide +kernel
theorem dX12_holds_1 : decode cX12_holds 1 = .ok (.aload_n 0, 1) := by decide +kernel
theorem dX12_holds_2 : decode cX12_holds 2 = .ok (.getfield 7, 3) := by decide +kernel
theorem dX12_holds_5 : decode cX12_holds 5 = .ok (.iload_n 1, 1) := by decide +kernel
theorem dX12_holds_6 : decode cX12_holds 6 = .ok (.iaload, 1) := by decide +kernel
theorem dX12_holds_7 : decode cX12_holds 7 = .ok (.invokevirtual 161, 3) := by decide +kernel
theorem dX12_holds_10 : decode cX12_holds 10 = .ok (.istore_n 2, 1) := by decide +kernel
theorem dX12_holds_11 : decode cX12_holds 11 = .ok (.aload_n 0, 1) := by decide +kernel
theorem dX12_holds_12 : decode cX12_holds 12 = .ok (.aload_n 0, 1) := by decide +kernel
theorem dX12_holds_13 : decode cX12_holds 13 = .ok (.getfield 7, 3) := by decide +kernel
theorem dX12_holds_16 : decode cX12_holds 16 = .ok (.iload_n 1, 1) := by decide +kernel
theorem dX12_holds_17 : decode cX12_holds 17 = .ok (.iconst 2, 1) := by decide +kernel
theorem dX12_holds_18 : decode cX12_holds 18 = .ok (.iadd, 1) := by decide +kernel
theorem dX12_holds_19 : decode cX12_holds 19 = .ok (.iaload, 1) := by decide +kernel
theorem dX12_holds_20 : decode cX12_holds 20 = .ok (.invokevirtual 161, 3) := by decide +kernel
theorem dX12_holds_23 : decode cX12_holds 23 = .ok (.istore_n 3, 1) := by decide +kernel
theorem dX12_holds_24 : decode cX12_holds 24 = .ok (.aload_n 0, 1) := by decide +kernel
theorem dX12_holds_25 : decode cX12_holds 25 = .ok (.getfield 7, 3) := by decide +kernel
theorem dX12_holds_28 : decode cX12_holds 28 = .ok (.iload_n 1, 1) := by decide +kernel
theorem dX12_holds_29 : decode cX12_holds 29 = .ok (.iconst 1, 1) := by decide +kernel
theorem dX12_holds_30 : decode cX12_holds 30 = .ok (.iadd, 1) := by decide +kernel
theorem dX12_holds_31 : decode cX12_holds 31 = .ok (.iaload, 1) := by decide +kernel
theorem dX12_holds_32 : decode cX12_holds 32 = .ok (.ifCond .ne 16, 3) := by decide +kernel
theorem dX12_holds_35 : decode cX12_holds 35 = .ok (.iload_n 2, 1) := by decide +kernel
theorem dX12_holds_36 : decode cX12_holds 36 = .ok (.iload_n 3, 1) := by decide +kernel
theorem dX12_holds_37 : decode cX12_holds 37 = .ok (.if_icmp .ge 7, 3) := by decide +kernel
theorem dX12_holds_40 : decode cX12_holds 40 = .ok (.iconst 1, 1) := by decide +kernel
theorem dX12_holds_41 : decode cX12_holds 41 = .ok (.goto 42, 3) := by decide +kernel
theorem dX12_holds_44 : decode cX12_holds 44 = .ok (.iconst 0, 1) := by decide +kernel
theorem dX12_holds_45 : decode cX12_holds 45 = .ok (.goto 38, 3) := by decide +kernel
theorem dX12_holds_48 : decode cX12_holds 48 = .ok (.aload_n 0, 1) := by decide +kernel
theorem dX12_holds_49 : decode cX12_holds 49 = .ok (.getfield 7, 3) := by decide +kernel
theorem dX12_holds_52 : decode cX12_holds 52 = .ok (.iload_n 1, 1) := by decide +kernel
theorem dX12_holds_53 : decode cX12_holds 53 = .ok (.iconst 1, 1) := by decide +kernel
theorem dX12_holds_54 : decode cX12_holds 54 = .ok (.iadd, 1) := by decide +kernel
theorem dX12_holds_55 : decode cX12_holds 55 = .ok (.iaload, 1) := by decide +kernel
theorem dX12_holds_56 : decode cX12_holds 56 = .ok (.iconst 1, 1) := by decide +kernel
theorem dX12_holds_57 : decode cX12_holds 57 = .ok (.if_icmp .ne 16, 3) := by decide +kernel
theorem dX12_holds_60 : decode cX12_holds 60 = .ok (.iload_n 2, 1) := by decide +kernel
theorem dX12_holds_61 : decode cX12_holds 61 = .ok (.iload_n 3, 1) := by decide +kernel
theorem dX12_holds_62 : decode cX12_holds 62 = .ok (.if_icmp .ne 7, 3) := by decide +kernel
theorem dX12_holds_65 : decode cX12_holds 65 = .ok (.iconst 1, 1) := by decide +kernel
theorem dX12_holds_66 : decode cX12_holds 66 = .ok (.goto 17, 3) := by decide +kernel
theorem dX12_holds_69 : decode cX12_holds 69 = .ok (.iconst 0, 1) := by decide +kernel
theorem dX12_holds_70 : decode cX12_holds 70 = .ok (.goto 13, 3) := by decide +kernel
theorem dX12_holds_73 : decode cX12_holds 73 = .ok (.iload_n 2, 1) := by decide +kernel
theorem dX12_holds_74 : decode cX12_holds 74 = .ok (.iload_n 3, 1) := by decide +kernel
theorem dX12_holds_75 : decode cX12_holds 75 = .ok (.if_icmp .le 7, 3) := by decide +kernel
theorem dX12_holds_78 : decode cX12_holds 78 = .ok (.iconst 1, 1) := by decide +kernel
theorem dX12_holds_79 : decode cX12_holds 79 = .ok (.goto 4, 3) := by decide +kernel
theorem dX12_holds_82 : decode cX12_holds 82 = .ok (.iconst 0, 1) := by decide +kernel
theorem dX12_holds_83 : decode cX12_holds 83 = .ok (.ireturn, 1) := by decide +kernel
set_option maxRecDepth 20000 in
theorem ggX12_areHeld_X12_clauses : GoodIn wsX12_areHeld wsX12_clauses := goodIn_r _ [6, 1, 21, 22, 23, 24, 25, 26, 27, 28, 29, 30, 31, 32, 33, 34, 35, 36] (by decide +kernel) (by decide +kernel)
set_option maxRecDepth 20000 in
theorem gX12_areHeld_X12_clauses : GoodIn wsX12_areHeld (wsV RX12 154 RX12 yX12_clauses wsX12_clauses) := goodIn_app (goodIn_of _ (by decide +kernel)) ggX12_areHeld_X12_clauses
set_option maxRecDepth 20000 in
theorem ggX12_areHeld_X12_clauseAt : GoodIn wsX12_areHeld wsX12_clauseAt := goodIn_r _ [10] (by decide +kernel) (by decide +kernel)
set_option maxRecDepth 20000 in
theorem gX12_areHeld_X12_clauseAt : GoodIn wsX12_areHeld (wsV RX12 157 RX12 yX12_clauseAt wsX12_clauseAt) := goodIn_app (goodIn_of _ (by decide +kernel)) ggX12_areHeld_X12_clauseAt
set_option maxRecDepth 20000 in
theorem ggX12_areHeld_X12_holds : GoodIn wsX12_areHeld wsX12_holds := goodIn_r _ [14, 1, 15, 16, 17, 5, 18, 19, 20, 21, 22, 23, 24, 25, 26, 27, 28, 29, 30, 31, 32, 33, 34, 35, 36] (by decide +kernel) (by decide +kernel)
set_option maxRecDepth 20000 in
theorem gX12_areHeld_X12_holds : GoodIn wsX12_areHeld (wsV RX12 164 RX12 yX12_holds wsX12_holds) := goodIn_app (goodIn_of _ (by decide +kernel)) ggX12_areHeld_X12_holds
theorem dX12_areHeld_0 : decode cX12_areHeld 0 = .ok (.iconst 1, 1) := by decide +kernel
theorem dX12_areHeld_1 : decode cX12_areHeld 1 = .ok (.istore_n 3, 1) := by decide +kernel
theorem dX12_areHeld_2 : decode cX12_areHeld 2 = .ok (.iconst 0, 1) := by decide +kernel
theorem dX12_areHeld_3 : decode cX12_areHeld 3 = .ok (.istore 4, 2) := by decide +kernel
theorem dX12_areHeld_5 : decode cX12_areHeld 5 = .ok (.iload 4, 2) := by decide +kernel
theorem dX12_areHeld_7 : decode cX12_areHeld 7 = .ok (.aload_n 0, 1) := by decide +kernel
theorem dX12_areHeld_8 : decode cX12_areHeld 8 = .ok (.iload_n 1, 1) := by decide +kernel
theorem dX12_areHeld_9 : decode cX12_areHeld 9 = .ok (.invokevirtual 154, 3) := by decide +kernel
theorem dX12_areHeld_12 : decode cX12_areHeld 12 = .ok (.if_icmp .ge 50, 3) := by decide +kernel
theorem dX12_areHeld_15 : decode cX12_areHeld 15 = .ok (.aload_n 0, 1) := by decide +kernel
theorem dX12_areHeld_16 : decode cX12_areHeld 16 = .ok (.iload_n 1, 1) := by decide +kernel
theorem dX12_areHeld_17 : decode cX12_areHeld 17 = .ok (.iload 4, 2) := by decide +kernel
theorem dX12_areHeld_19 : decode cX12_areHeld 19 = .ok (.invokevirtual 157, 3) := by decide +kernel
theorem dX12_areHeld_22 : decode cX12_areHeld 22 = .ok (.istore 5, 2) := by decide +kernel
theorem dX12_areHeld_24 : decode cX12_areHeld 24 = .ok (.iload_n 3, 1) := by decide +kernel
theorem dX12_areHeld_25 : decode cX12_areHeld 25 = .ok (.ifCond .eq 29, 3) := by decide +kernel
theorem dX12_areHeld_28 : decode cX12_areHeld 28 = .ok (.aload_n 0, 1) := by decide +kernel
theorem dX12_areHeld_29 : decode cX12_areHeld 29 = .ok (.getfield 7, 3) := by decide +kernel
theorem dX12_areHeld_32 : decode cX12_areHeld 32 = .ok (.iload 5, 2) := by decide +kernel
theorem dX12_areHeld_34 : decode cX12_areHeld 34 = .ok (.iaload, 1) := by decide +kernel
theorem dX12_areHeld_35 : decode cX12_areHeld 35 = .ok (.iload_n 2, 1) := by decide +kernel
theorem dX12_areHeld_36 : decode cX12_areHeld 36 = .ok (.if_icmp .ne 14, 3) := by decide +kernel
theorem dX12_areHeld_39 : decode cX12_areHeld 39 = .ok (.aload_n 0, 1) := by decide +kernel
theorem dX12_areHeld_40 : decode cX12_areHeld 40 = .ok (.iload 5, 2) := by decide +kernel
theorem dX12_areHeld_42 : decode cX12_areHeld 42 = .ok (.iconst 1, 1) := by decide +kernel
theorem dX12_areHeld_43 : decode cX12_areHeld 43 = .ok (.iadd, 1) := by decide +kernel
theorem dX12_areHeld_44 : decode cX12_areHeld 44 = .ok (.invokevirtual 164, 3) := by decide +kernel
theorem dX12_areHeld_47 : decode cX12_areHeld 47 = .ok (.ifCond .eq 7, 3) := by decide +kernel
theorem dX12_areHeld_50 : decode cX12_areHeld 50 = .ok (.iconst 1, 1) := by decide +kernel
theorem dX12_areHeld_51 : decode cX12_areHeld 51 = .ok (.goto 4, 3) := by decide +kernel
theorem dX12_areHeld_54 : decode cX12_areHeld 54 = .ok (.iconst 0, 1) := by decide +kernel
theorem dX12_areHeld_55 : decode cX12_areHeld 55 = .ok (.istore_n 3, 1) := by decide +kernel
theorem dX12_areHeld_56 : decode cX12_areHeld 56 = .ok (.iinc 4 1, 3) := by decide +kernel
theorem dX12_areHeld_59 : decode cX12_areHeld 59 = .ok (.goto (-54), 3) := by decide +kernel
theorem dX12_areHeld_62 : decode cX12_areHeld 62 = .ok (.iload_n 3, 1) := by decide +kernel
theorem dX12_areHeld_63 : decode cX12_areHeld 63 = .ok (.ireturn, 1) := by decide +kernel
set_option maxRecDepth 20000 in
theorem ggX12_assigns_X12_clauses : GoodIn wsX12_assigns wsX12_clauses := goodIn_r _ [7, 1, 20, 21, 22, 23, 24, 25, 26, 27, 28, 29, 30, 31, 32, 33, 34, 35] (by decide +kernel) (by decide +kernel)
set_option maxRecDepth 20000 in
theorem gX12_assigns_X12_clauses : GoodIn wsX12_assigns (wsV RX12 154 RX12 yX12_clauses wsX12_clauses) := goodIn_app (goodIn_of _ (by decide +kernel)) ggX12_assigns_X12_clauses
set_option maxRecDepth 20000 in
theorem ggX12_assigns_X12_clauseAt : GoodIn wsX12_assigns wsX12_clauseAt := goodIn_r _ [11] (by decide +kernel) (by decide +kernel)
set_option maxRecDepth 20000 in
theorem gX12_assigns_X12_clauseAt : GoodIn wsX12_assigns (wsV RX12 157 RX12 yX12_clauseAt wsX12_clauseAt) := goodIn_app (goodIn_of _ (by decide +kernel)) ggX12_assigns_X12_clauseAt
set_option maxRecDepth 20000 in
theorem ggX12_assigns_X12_valueOf : GoodIn wsX12_assigns wsX12_valueOf := goodIn_r _ [15, 16, 2, 20, 21, 22, 23, 24, 25, 26, 27, 28, 29, 30, 31, 32, 33, 34, 35] (by decide +kernel) (by decide +kernel)
set_option maxRecDepth 20000 in
theorem gX12_assigns_X12_valueOf : GoodIn wsX12_assigns (wsV RX12 161 RX12 yX12_valueOf wsX12_valueOf) := goodIn_app (goodIn_of _ (by decide +kernel)) ggX12_assigns_X12_valueOf
set_option maxRecDepth 20000 in
theorem ggX12_assigns_X12_in : GoodIn wsX12_assigns wsX12_in := goodIn_r _ [19] (by decide +kernel) (by decide +kernel)
set_option maxRecDepth 20000 in
theorem gX12_assigns_X12_in : GoodIn wsX12_assigns (va_wsS RX12 60 yX12_in wsX12_in) := goodIn_app (goodIn_of _ (by decide +kernel)) ggX12_assigns_X12_in
theorem dX12_assigns_0 : decode cX12_assigns 0 = .ok (.iconst 1, 1) := by decide +kernel
theorem dX12_assigns_1 : decode cX12_assigns 1 = .ok (.istore_n 2, 1) := by decide +kernel
theorem dX12_assigns_2 : decode cX12_assigns 2 = .ok (.iconst 0, 1) := by decide +kernel
theorem dX12_assigns_3 : decode cX12_assigns 3 = .ok (.istore_n 3, 1) := by decide +kernel
theorem dX12_assigns_4 : decode cX12_assigns 4 = .ok (.iload_n 3, 1) := by decide +kernel
theorem dX12_assigns_5 : decode cX12_assigns 5 = .ok (.aload_n 0, 1) := by decide +kernel
theorem dX12_assigns_6 : decode cX12_assigns 6 = .ok (.iload_n 1, 1) := by decide +kernel
theorem dX12_assigns_7 : decode cX12_assigns 7 = .ok (.invokevirtual 154, 3) := by decide +kernel
theorem dX12_assigns_10 : decode cX12_assigns 10 = .ok (.if_icmp .ge 117, 3) := by decide +kernel
theorem dX12_assigns_13 : decode cX12_assigns 13 = .ok (.iload_n 2, 1) := by decide +kernel
theorem dX12_assigns_14 : decode cX12_assigns 14 = .ok (.ifCond .eq 113, 3) := by decide +kernel
theorem dX12_assigns_17 : decode cX12_assigns 17 = .ok (.aload_n 0, 1) := by decide +kernel
theorem dX12_assigns_18 : decode cX12_assigns 18 = .ok (.iload_n 1, 1) := by decide +kernel
theorem dX12_assigns_19 : decode cX12_assigns 19 = .ok (.iload_n 3, 1) := by decide +kernel
theorem dX12_assigns_20 : decode cX12_assigns 20 = .ok (.invokevirtual 157, 3) := by decide +kernel
theorem dX12_assigns_23 : decode cX12_assigns 23 = .ok (.istore 4, 2) := by decide +kernel
theorem dX12_assigns_25 : decode cX12_assigns 25 = .ok (.aload_n 0, 1) := by decide +kernel
theorem dX12_assigns_26 : decode cX12_assigns 26 = .ok (.getfield 7, 3) := by decide +kernel
theorem dX12_assigns_29 : decode cX12_assigns 29 = .ok (.iload 4, 2) := by decide +kernel
theorem dX12_assigns_31 : decode cX12_assigns 31 = .ok (.iaload, 1) := by decide +kernel
theorem dX12_assigns_32 : decode cX12_assigns 32 = .ok (.iconst 2, 1) := by decide +kernel
theorem dX12_assigns_33 : decode cX12_assigns 33 = .ok (.if_icmp .ne 88, 3) := by decide +kernel
theorem dX12_assigns_36 : decode cX12_assigns 36 = .ok (.aload_n 0, 1) := by decide +kernel
theorem dX12_assigns_37 : decode cX12_assigns 37 = .ok (.aload_n 0, 1) := by decide +kernel
theorem dX12_assigns_38 : decode cX12_assigns 38 = .ok (.getfield 7, 3) := by decide +kernel
theorem dX12_assigns_41 : decode cX12_assigns 41 = .ok (.iload 4, 2) := by decide +kernel
theorem dX12_assigns_43 : decode cX12_assigns 43 = .ok (.iconst 2, 1) := by decide +kernel
theorem dX12_assigns_44 : decode cX12_assigns 44 = .ok (.iadd, 1) := by decide +kernel
theorem dX12_assigns_45 : decode cX12_assigns 45 = .ok (.iaload, 1) := by decide +kernel
theorem dX12_assigns_46 : decode cX12_assigns 46 = .ok (.invokevirtual 161, 3) := by decide +kernel
theorem dX12_assigns_49 : decode cX12_assigns 49 = .ok (.istore 5, 2) := by decide +kernel
theorem dX12_assigns_51 : decode cX12_assigns 51 = .ok (.iload 5, 2) := by decide +kernel
theorem dX12_assigns_53 : decode cX12_assigns 53 = .ok (.aload_n 0, 1) := by decide +kernel
theorem dX12_assigns_54 : decode cX12_assigns 54 = .ok (.getfield 7, 3) := by decide +kernel
theorem dX12_assigns_57 : decode cX12_assigns 57 = .ok (.iload 4, 2) := by decide +kernel
theorem dX12_assigns_59 : decode cX12_assigns 59 = .ok (.iconst 3, 1) := by decide +kernel
theorem dX12_assigns_60 : decode cX12_assigns 60 = .ok (.iadd, 1) := by decide +kernel
theorem dX12_assigns_61 : decode cX12_assigns 61 = .ok (.iaload, 1) := by decide +kernel
theorem dX12_assigns_62 : decode cX12_assigns 62 = .ok (.ifCond .ne 7, 3) := by decide +kernel
theorem dX12_assigns_65 : decode cX12_assigns 65 = .ok (.iconst 0, 1) := by decide +kernel
theorem dX12_assigns_66 : decode cX12_assigns 66 = .ok (.goto 26, 3) := by decide +kernel
theorem dX12_assigns_69 : decode cX12_assigns 69 = .ok (.aload_n 0, 1) := by decide +kernel
theorem dX12_assigns_70 : decode cX12_assigns 70 = .ok (.getfield 7, 3) := by decide +kernel
theorem dX12_assigns_73 : decode cX12_assigns 73 = .ok (.iload 4, 2) := by decide +kernel
theorem dX12_assigns_75 : decode cX12_assigns 75 = .ok (.iconst 3, 1) := by decide +kernel
theorem dX12_assigns_76 : decode cX12_assigns 76 = .ok (.iadd, 1) := by decide +kernel
theorem dX12_assigns_77 : decode cX12_assigns 77 = .ok (.iaload, 1) := by decide +kernel
theorem dX12_assigns_78 : decode cX12_assigns 78 = .ok (.aload_n 0, 1) := by decide +kernel
theorem dX12_assigns_79 : decode cX12_assigns 79 = .ok (.aload_n 0, 1) := by decide +kernel
theorem dX12_assigns_80 : decode cX12_assigns 80 = .ok (.getfield 7, 3) := by decide +kernel
theorem dX12_assigns_83 : decode cX12_assigns 83 = .ok (.iload 4, 2) := by decide +kernel
theorem dX12_assigns_85 : decode cX12_assigns 85 = .ok (.iconst 4, 1) := by decide +kernel
theorem dX12_assigns_86 : decode cX12_assigns 86 = .ok (.iadd, 1) := by decide +kernel
theorem dX12_assigns_87 : decode cX12_assigns 87 = .ok (.iaload, 1) := by decide +kernel
theorem dX12_assigns_88 : decode cX12_assigns 88 = .ok (.invokevirtual 161, 3) := by decide +kernel
theorem dX12_assigns_91 : decode cX12_assigns 91 = .ok (.imul, 1) := by decide +kernel
theorem dX12_assigns_92 : decode cX12_assigns 92 = .ok (.iadd, 1) := by decide +kernel
theorem dX12_assigns_93 : decode cX12_assigns 93 = .ok (.istore 5, 2) := by decide +kernel
theorem dX12_assigns_95 : decode cX12_assigns 95 = .ok (.iload 5, 2) := by decide +kernel
theorem dX12_assigns_97 : decode cX12_assigns 97 = .ok (.bipush (-99), 2) := by decide +kernel
theorem dX12_assigns_99 : decode cX12_assigns 99 = .ok (.bipush 99, 2) := by decide +kernel
theorem dX12_assigns_101 : decode cX12_assigns 101 = .ok (.invokestatic 60, 3) := by decide +kernel
theorem dX12_assigns_104 : decode cX12_assigns 104 = .ok (.istore_n 2, 1) := by decide +kernel
theorem dX12_assigns_105 : decode cX12_assigns 105 = .ok (.aload_n 0, 1) := by decide +kernel
theorem dX12_assigns_106 : decode cX12_assigns 106 = .ok (.getfield 22, 3) := by decide +kernel
theorem dX12_assigns_109 : decode cX12_assigns 109 = .ok (.aload_n 0, 1) := by decide +kernel
theorem dX12_assigns_110 : decode cX12_assigns 110 = .ok (.getfield 7, 3) := by decide +kernel
theorem dX12_assigns_113 : decode cX12_assigns 113 = .ok (.iload 4, 2) := by decide +kernel
theorem dX12_assigns_115 : decode cX12_assigns 115 = .ok (.iconst 1, 1) := by decide +kernel
theorem dX12_assigns_116 : decode cX12_assigns 116 = .ok (.iadd, 1) := by decide +kernel
theorem dX12_assigns_117 : decode cX12_assigns 117 = .ok (.iaload, 1) := by decide +kernel
theorem dX12_assigns_118 : decode cX12_assigns 118 = .ok (.iload 5, 2) := by decide +kernel
theorem dX12_assigns_120 : decode cX12_assigns 120 = .ok (.iastore, 1) := by decide +kernel
theorem dX12_assigns_121 : decode cX12_assigns 121 = .ok (.iinc 3 1, 3) := by decide +kernel
theorem dX12_assigns_124 : decode cX12_assigns 124 = .ok (.goto (-120), 3) := by decide +kernel
theorem dX12_assigns_127 : decode cX12_assigns 127 = .ok (.iload_n 2, 1) := by decide +kernel
theorem dX12_assigns_128 : decode cX12_assigns 128 = .ok (.ireturn, 1) := by decide +kernel
set_option maxRecDepth 20000 in
theorem ggX12_calls_X12_areHeld : GoodIn wsX12_calls wsX12_areHeld := goodIn_r _ [8, 3, 9, 10, 11, 7, 12, 13, 14, 15, 16, 17, 18, 19, 20, 21, 22, 23, 24, 1, 2, 32, 33, 34, 35, 36, 37, 38, 39, 40, 41, 42, 43, 44, 45, 46, 47] (by decide +kernel) (by decide +kernel)
set_option maxRecDepth 20000 in
theorem gX12_calls_X12_areHeld : GoodIn wsX12_calls (wsV RX12 167 RX12 yX12_areHeld wsX12_areHeld) := goodIn_app (goodIn_of _ (by decide +kernel)) ggX12_calls_X12_areHeld
set_option maxRecDepth 20000 in
theorem ggX12_calls_X12_assigns : GoodIn wsX12_calls wsX12_assigns := goodIn_r _ [28, 3, 2, 9, 10, 11, 7, 12, 13, 14, 15, 16, 21, 22, 23, 24, 1, 29, 30, 31, 32, 33, 34, 35, 36, 37, 38, 39, 40, 41, 42, 43, 44, 45, 46, 47] (by decide +kernel) (by decide +kernel)
set_option maxRecDepth 20000 in
theorem gX12_calls_X12_assigns : GoodIn wsX12_calls (wsV RX12 171 RX12 yX12_assigns wsX12_assigns) := goodIn_app (goodIn_of _ (by decide +kernel)) ggX12_calls_X12_assigns
set_option maxRecDepth 20000 in
theorem ggX12_calls_X12_holds : GoodIn wsX12_calls wsX12_holds := goodIn_r _ [20, 3, 21, 22, 23, 7, 24, 1, 2, 32, 33, 34, 35, 36, 37, 38, 39, 40, 41, 42, 43, 44, 45, 46, 47] (by decide +kernel) (by decide +kernel)
set_option maxRecDepth 20000 in
theorem gX12_calls_X12_holds : GoodIn wsX12_calls (wsV RX12 164 RX12 yX12_holds wsX12_holds) := goodIn_app (goodIn_of _ (by decide +kernel)) ggX12_calls_X12_holds
theorem dX12_calls_0 : decode cX12_calls 0 = .ok (.iconst 0, 1) := by decide +kernel
theorem dX12_calls_1 : decode cX12_calls 1 = .ok (.istore_n 2, 1) := by decide +kernel
theorem dX12_calls_2 : decode cX12_calls 2 = .ok (.iload_n 2, 1) := by decide +kernel
theorem dX12_calls_3 : decode cX12_calls 3 = .ok (.iconst 3, 1) := by decide +kernel
theorem dX12_calls_4 : decode cX12_calls 4 = .ok (.if_icmp .ge 21, 3) := by decide +kernel
theorem dX12_calls_7 : decode cX12_calls 7 = .ok (.aload_n 0, 1) := by decide +kernel
theorem dX12_calls_8 : decode cX12_calls 8 = .ok (.getfield 25, 3) := by decide +kernel
theorem dX12_calls_11 : decode cX12_calls 11 = .ok (.iload_n 2, 1) := by decide +kernel
theorem dX12_calls_12 : decode cX12_calls 12 = .ok (.aload_n 0, 1) := by decide +kernel
theorem dX12_calls_13 : decode cX12_calls 13 = .ok (.getfield 22, 3) := by decide +kernel
theorem dX12_calls_16 : decode cX12_calls 16 = .ok (.iload_n 2, 1) := by decide +kernel
theorem dX12_calls_17 : decode cX12_calls 17 = .ok (.iaload, 1) := by decide +kernel
theorem dX12_calls_18 : decode cX12_calls 18 = .ok (.iastore, 1) := by decide +kernel
theorem dX12_calls_19 : decode cX12_calls 19 = .ok (.iinc 2 1, 3) := by decide +kernel
theorem dX12_calls_22 : decode cX12_calls 22 = .ok (.goto (-20), 3) := by decide +kernel
theorem dX12_calls_25 : decode cX12_calls 25 = .ok (.aload_n 0, 1) := by decide +kernel
theorem dX12_calls_26 : decode cX12_calls 26 = .ok (.iload_n 1, 1) := by decide +kernel
theorem dX12_calls_27 : decode cX12_calls 27 = .ok (.iconst 1, 1) := by decide +kernel
theorem dX12_calls_28 : decode cX12_calls 28 = .ok (.invokevirtual 167, 3) := by decide +kernel
theorem dX12_calls_31 : decode cX12_calls 31 = .ok (.ifCond .ne 5, 3) := by decide +kernel
theorem dX12_calls_34 : decode cX12_calls 34 = .ok (.iconst 1, 1) := by decide +kernel
theorem dX12_calls_35 : decode cX12_calls 35 = .ok (.ireturn, 1) := by decide +kernel
theorem dX12_calls_36 : decode cX12_calls 36 = .ok (.aload_n 0, 1) := by decide +kernel
theorem dX12_calls_37 : decode cX12_calls 37 = .ok (.iload_n 1, 1) := by decide +kernel
theorem dX12_calls_38 : decode cX12_calls 38 = .ok (.invokevirtual 171, 3) := by decide +kernel
theorem dX12_calls_41 : decode cX12_calls 41 = .ok (.ifCond .ne 5, 3) := by decide +kernel
theorem dX12_calls_44 : decode cX12_calls 44 = .ok (.iconst 2, 1) := by decide +kernel
theorem dX12_calls_45 : decode cX12_calls 45 = .ok (.ireturn, 1) := by decide +kernel
theorem dX12_calls_46 : decode cX12_calls 46 = .ok (.aload_n 0, 1) := by decide +kernel
theorem dX12_calls_47 : decode cX12_calls 47 = .ok (.iload_n 1, 1) := by decide +kernel
theorem dX12_calls_48 : decode cX12_calls 48 = .ok (.iconst 3, 1) := by decide +kernel
theorem dX12_calls_49 : decode cX12_calls 49 = .ok (.invokevirtual 167, 3) := by decide +kernel
theorem dX12_calls_52 : decode cX12_calls 52 = .ok (.ifCond .ne 5, 3) := by decide +kernel
theorem dX12_calls_55 : decode cX12_calls 55 = .ok (.iconst 3, 1) := by decide +kernel
theorem dX12_calls_56 : decode cX12_calls 56 = .ok (.ireturn, 1) := by decide +kernel
theorem dX12_calls_57 : decode cX12_calls 57 = .ok (.iconst 1, 1) := by decide +kernel
theorem dX12_calls_58 : decode cX12_calls 58 = .ok (.istore_n 2, 1) := by decide +kernel
theorem dX12_calls_59 : decode cX12_calls 59 = .ok (.iconst 0, 1) := by decide +kernel
theorem dX12_calls_60 : decode cX12_calls 60 = .ok (.istore_n 3, 1) := by decide +kernel
theorem dX12_calls_61 : decode cX12_calls 61 = .ok (.iload_n 3, 1) := by decide +kernel
theorem dX12_calls_62 : decode cX12_calls 62 = .ok (.aload_n 0, 1) := by decide +kernel
theorem dX12_calls_63 : decode cX12_calls 63 = .ok (.getfield 7, 3) := by decide +kernel
theorem dX12_calls_66 : decode cX12_calls 66 = .ok (.iconst 3, 1) := by decide +kernel
theorem dX12_calls_67 : decode cX12_calls 67 = .ok (.iaload, 1) := by decide +kernel
theorem dX12_calls_68 : decode cX12_calls 68 = .ok (.if_icmp .ge 31, 3) := by decide +kernel
theorem dX12_calls_71 : decode cX12_calls 71 = .ok (.iload_n 2, 1) := by decide +kernel
theorem dX12_calls_72 : decode cX12_calls 72 = .ok (.ifCond .eq 19, 3) := by decide +kernel
theorem dX12_calls_75 : decode cX12_calls 75 = .ok (.aload_n 0, 1) := by decide +kernel
theorem dX12_calls_76 : decode cX12_calls 76 = .ok (.iconst 5, 1) := by decide +kernel
theorem dX12_calls_77 : decode cX12_calls 77 = .ok (.iconst 3, 1) := by decide +kernel
theorem dX12_calls_78 : decode cX12_calls 78 = .ok (.iload_n 3, 1) := by decide +kernel
theorem dX12_calls_79 : decode cX12_calls 79 = .ok (.imul, 1) := by decide +kernel
theorem dX12_calls_80 : decode cX12_calls 80 = .ok (.iadd, 1) := by decide +kernel
theorem dX12_calls_81 : decode cX12_calls 81 = .ok (.invokevirtual 164, 3) := by decide +kernel
theorem dX12_calls_84 : decode cX12_calls 84 = .ok (.ifCond .eq 7, 3) := by decide +kernel
theorem dX12_calls_87 : decode cX12_calls 87 = .ok (.iconst 1, 1) := by decide +kernel
theorem dX12_calls_88 : decode cX12_calls 88 = .ok (.goto 4, 3) := by decide +kernel
theorem dX12_calls_91 : decode cX12_calls 91 = .ok (.iconst 0, 1) := by decide +kernel
theorem dX12_calls_92 : decode cX12_calls 92 = .ok (.istore_n 2, 1) := by decide +kernel
theorem dX12_calls_93 : decode cX12_calls 93 = .ok (.iinc 3 1, 3) := by decide +kernel
theorem dX12_calls_96 : decode cX12_calls 96 = .ok (.goto (-35), 3) := by decide +kernel
theorem dX12_calls_99 : decode cX12_calls 99 = .ok (.iload_n 2, 1) := by decide +kernel
theorem dX12_calls_100 : decode cX12_calls 100 = .ok (.ifCond .eq 7, 3) := by decide +kernel
theorem dX12_calls_103 : decode cX12_calls 103 = .ok (.iconst 0, 1) := by decide +kernel
theorem dX12_calls_104 : decode cX12_calls 104 = .ok (.goto 4, 3) := by decide +kernel
theorem dX12_calls_107 : decode cX12_calls 107 = .ok (.iconst 4, 1) := by decide +kernel
theorem dX12_calls_108 : decode cX12_calls 108 = .ok (.ireturn, 1) := by decide +kernel
theorem dX12_begin_0 : decode cX12_begin 0 = .ok (.iconst 0, 1) := by decide +kernel
theorem dX12_begin_1 : decode cX12_begin 1 = .ok (.istore_n 1, 1) := by decide +kernel
theorem dX12_begin_2 : decode cX12_begin 2 = .ok (.iload_n 1, 1) := by decide +kernel
theorem dX12_begin_3 : decode cX12_begin 3 = .ok (.iconst 3, 1) := by decide +kernel
theorem dX12_begin_4 : decode cX12_begin 4 = .ok (.if_icmp .ge 23, 3) := by decide +kernel
theorem dX12_begin_7 : decode cX12_begin 7 = .ok (.aload_n 0, 1) := by decide +kernel
theorem dX12_begin_8 : decode cX12_begin 8 = .ok (.getfield 22, 3) := by decide +kernel
theorem dX12_begin_11 : decode cX12_begin 11 = .ok (.iload_n 1, 1) := by decide +kernel
theorem dX12_begin_12 : decode cX12_begin 12 = .ok (.aload_n 0, 1) := by decide +kernel
theorem dX12_begin_13 : decode cX12_begin 13 = .ok (.getfield 7, 3) := by decide +kernel
theorem dX12_begin_16 : decode cX12_begin 16 = .ok (.iconst 0, 1) := by decide +kernel
theorem dX12_begin_17 : decode cX12_begin 17 = .ok (.iload_n 1, 1) := by decide +kernel
theorem dX12_begin_18 : decode cX12_begin 18 = .ok (.iadd, 1) := by decide +kernel
theorem dX12_begin_19 : decode cX12_begin 19 = .ok (.iaload, 1) := by decide +kernel
theorem dX12_begin_20 : decode cX12_begin 20 = .ok (.iastore, 1) := by decide +kernel
theorem dX12_begin_21 : decode cX12_begin 21 = .ok (.iinc 1 1, 3) := by decide +kernel
theorem dX12_begin_24 : decode cX12_begin 24 = .ok (.goto (-22), 3) := by decide +kernel
theorem dX12_begin_27 : decode cX12_begin 27 = .ok (.return_, 1) := by decide +kernel
set_option maxRecDepth 20000 in
theorem ggX12_runText_X12_in : GoodIn wsX12_runText wsX12_in := goodIn_r _ [7] (by decide +kernel) (by decide +kernel)
set_option maxRecDepth 20000 in
theorem gX12_runText_X12_in : GoodIn wsX12_runText (va_wsS RX12 60 yX12_in wsX12_in) := goodIn_app (goodIn_of _ (by decide +kernel)) ggX12_runText_X12_in
set_option maxRecDepth 20000 in
theorem ggX12_runText_X12_begin : GoodIn wsX12_runText wsX12_begin := goodIn_r _ [11, 12, 3, 42, 43, 44, 45, 46, 47, 48, 49, 50, 51, 52, 53, 54, 55, 56, 57] (by decide +kernel) (by decide +kernel)
set_option maxRecDepth 20000 in
theorem gX12_runText_X12_begin : GoodIn wsX12_runText (wsV RX12 174 RX12 yX12_begin wsX12_begin) := goodIn_app (goodIn_of _ (by decide +kernel)) ggX12_runText_X12_begin
set_option maxRecDepth 20000 in
theorem ggX12_runText_X12_calls : GoodIn wsX12_runText wsX12_calls := goodIn_r _ [16, 17, 12, 3, 18, 19, 20, 6, 21, 22, 23, 24, 25, 26, 27, 28, 29, 30, 31, 32, 33, 34, 35, 36, 37, 38, 39, 40, 41, 4, 5, 7, 42, 43, 44, 45, 46, 47, 48, 49, 50, 51, 52, 53, 54, 55, 56, 57] (by decide +kernel) (by decide +kernel)
set_option maxRecDepth 20000 in
theorem gX12_runText_X12_calls : GoodIn wsX12_runText (wsV RX12 177 RX12 yX12_calls wsX12_calls) := goodIn_app (goodIn_of _ (by decide +kernel)) ggX12_runText_X12_calls
theorem dX12_runText_0 : decode cX12_runText 0 = .ok (.iconst 0, 1) := by decide +kernel
theorem dX12_runText_1 : decode cX12_runText 1 = .ok (.istore_n 1, 1) := by decide +kernel
theorem dX12_runText_2 : decode cX12_runText 2 = .ok (.iload_n 1, 1) := by decide +kernel
theorem dX12_runText_3 : decode cX12_runText 3 = .ok (.aload_n 0, 1) := by decide +kernel
theorem dX12_runText_4 : decode cX12_runText 4 = .ok (.getfield 44, 3) := by decide +kernel
theorem dX12_runText_7 : decode cX12_runText 7 = .ok (.if_icmp .ge 38, 3) := by decide +kernel
theorem dX12_runText_10 : decode cX12_runText 10 = .ok (.aload_n 0, 1) := by decide +kernel
theorem dX12_runText_11 : decode cX12_runText 11 = .ok (.getfield 19, 3) := by decide +kernel
theorem dX12_runText_14 : decode cX12_runText 14 = .ok (.iload_n 1, 1) := by decide +kernel
theorem dX12_runText_15 : decode cX12_runText 15 = .ok (.iaload, 1) := by decide +kernel
theorem dX12_runText_16 : decode cX12_runText 16 = .ok (.bipush 48, 2) := by decide +kernel
theorem dX12_runText_18 : decode cX12_runText 18 = .ok (.isub, 1) := by decide +kernel
theorem dX12_runText_19 : decode cX12_runText 19 = .ok (.iconst 0, 1) := by decide +kernel
theorem dX12_runText_20 : decode cX12_runText 20 = .ok (.aload_n 0, 1) := by decide +kernel
theorem dX12_runText_21 : decode cX12_runText 21 = .ok (.getfield 7, 3) := by decide +kernel
theorem dX12_runText_24 : decode cX12_runText 24 = .ok (.iconst 4, 1) := by decide +kernel
theorem dX12_runText_25 : decode cX12_runText 25 = .ok (.iaload, 1) := by decide +kernel
theorem dX12_runText_26 : decode cX12_runText 26 = .ok (.iconst 1, 1) := by decide +kernel
theorem dX12_runText_27 : decode cX12_runText 27 = .ok (.isub, 1) := by decide +kernel
theorem dX12_runText_28 : decode cX12_runText 28 = .ok (.invokestatic 60, 3) := by decide +kernel
theorem dX12_runText_31 : decode cX12_runText 31 = .ok (.ifCond .ne 8, 3) := by decide +kernel
theorem dX12_runText_34 : decode cX12_runText 34 = .ok (.bipush (-10), 2) := by decide +kernel
theorem dX12_runText_36 : decode cX12_runText 36 = .ok (.iload_n 1, 1) := by decide +kernel
theorem dX12_runText_37 : decode cX12_runText 37 = .ok (.isub, 1) := by decide +kernel
theorem dX12_runText_38 : decode cX12_runText 38 = .ok (.ireturn, 1) := by decide +kernel
theorem dX12_runText_39 : decode cX12_runText 39 = .ok (.iinc 1 1, 3) := by decide +kernel
theorem dX12_runText_42 : decode cX12_runText 42 = .ok (.goto (-40), 3) := by decide +kernel
theorem dX12_runText_45 : decode cX12_runText 45 = .ok (.aload_n 0, 1) := by decide +kernel
theorem dX12_runText_46 : decode cX12_runText 46 = .ok (.getfield 44, 3) := by decide +kernel
theorem dX12_runText_49 : decode cX12_runText 49 = .ok (.istore_n 1, 1) := by decide +kernel
theorem dX12_runText_50 : decode cX12_runText 50 = .ok (.aload_n 0, 1) := by decide +kernel
theorem dX12_runText_51 : decode cX12_runText 51 = .ok (.iconst 0, 1) := by decide +kernel
theorem dX12_runText_52 : decode cX12_runText 52 = .ok (.putfield 44, 3) := by decide +kernel
theorem dX12_runText_55 : decode cX12_runText 55 = .ok (.aload_n 0, 1) := by decide +kernel
theorem dX12_runText_56 : decode cX12_runText 56 = .ok (.invokevirtual 174, 3) := by decide +kernel
theorem dX12_runText_59 : decode cX12_runText 59 = .ok (.iconst 0, 1) := by decide +kernel
theorem dX12_runText_60 : decode cX12_runText 60 = .ok (.istore_n 2, 1) := by decide +kernel
theorem dX12_runText_61 : decode cX12_runText 61 = .ok (.iload_n 2, 1) := by decide +kernel
theorem dX12_runText_62 : decode cX12_runText 62 = .ok (.iload_n 1, 1) := by decide +kernel
theorem dX12_runText_63 : decode cX12_runText 63 = .ok (.if_icmp .ge 34, 3) := by decide +kernel
theorem dX12_runText_66 : decode cX12_runText 66 = .ok (.aload_n 0, 1) := by decide +kernel
theorem dX12_runText_67 : decode cX12_runText 67 = .ok (.aload_n 0, 1) := by decide +kernel
theorem dX12_runText_68 : decode cX12_runText 68 = .ok (.getfield 19, 3) := by decide +kernel
theorem dX12_runText_71 : decode cX12_runText 71 = .ok (.iload_n 2, 1) := by decide +kernel
theorem dX12_runText_72 : decode cX12_runText 72 = .ok (.iaload, 1) := by decide +kernel
theorem dX12_runText_73 : decode cX12_runText 73 = .ok (.bipush 48, 2) := by decide +kernel
theorem dX12_runText_75 : decode cX12_runText 75 = .ok (.isub, 1) := by decide +kernel
theorem dX12_runText_76 : decode cX12_runText 76 = .ok (.invokevirtual 177, 3) := by decide +kernel
theorem dX12_runText_79 : decode cX12_runText 79 = .ok (.istore_n 3, 1) := by decide +kernel
theorem dX12_runText_80 : decode cX12_runText 80 = .ok (.iload_n 3, 1) := by decide +kernel
theorem dX12_runText_81 : decode cX12_runText 81 = .ok (.ifCond .eq 10, 3) := by decide +kernel
theorem dX12_runText_84 : decode cX12_runText 84 = .ok (.bipush 10, 2) := by decide +kernel
theorem dX12_runText_86 : decode cX12_runText 86 = .ok (.iload_n 2, 1) := by decide +kernel
theorem dX12_runText_87 : decode cX12_runText 87 = .ok (.imul, 1) := by decide +kernel
theorem dX12_runText_88 : decode cX12_runText 88 = .ok (.iload_n 3, 1) := by decide +kernel
theorem dX12_runText_89 : decode cX12_runText 89 = .ok (.iadd, 1) := by decide +kernel
theorem dX12_runText_90 : decode cX12_runText 90 = .ok (.ireturn, 1) := by decide +kernel
theorem dX12_runText_91 : decode cX12_runText 91 = .ok (.iinc 2 1, 3) := by decide +kernel
theorem dX12_runText_94 : decode cX12_runText 94 = .ok (.goto (-33), 3) := by decide +kernel
theorem dX12_runText_97 : decode cX12_runText 97 = .ok (.iconst 0, 1) := by decide +kernel
theorem dX12_runText_98 : decode cX12_runText 98 = .ok (.ireturn, 1) := by decide +kernel
theorem dX12_lengthOf_0 : decode cX12_lengthOf 0 = .ok (.aload_n 0, 1) := by decide +kernel
theorem dX12_lengthOf_1 : decode cX12_lengthOf 1 = .ok (.getfield 7, 3) := by decide +kernel
theorem dX12_lengthOf_4 : decode cX12_lengthOf 4 = .ok (.iload_n 1, 1) := by decide +kernel
theorem dX12_lengthOf_5 : decode cX12_lengthOf 5 = .ok (.bipush 11, 2) := by decide +kernel
theorem dX12_lengthOf_7 : decode cX12_lengthOf 7 = .ok (.iload_n 2, 1) := by decide +kernel
theorem dX12_lengthOf_8 : decode cX12_lengthOf 8 = .ok (.imul, 1) := by decide +kernel
theorem dX12_lengthOf_9 : decode cX12_lengthOf 9 = .ok (.iadd, 1) := by decide +kernel
theorem dX12_lengthOf_10 : decode cX12_lengthOf 10 = .ok (.iaload, 1) := by decide +kernel
theorem dX12_lengthOf_11 : decode cX12_lengthOf 11 = .ok (.ireturn, 1) := by decide +kernel
theorem dX12_callOf_0 : decode cX12_callOf 0 = .ok (.aload_n 0, 1) := by decide +kernel
theorem dX12_callOf_1 : decode cX12_callOf 1 = .ok (.getfield 7, 3) := by decide +kernel
theorem dX12_callOf_4 : decode cX12_callOf 4 = .ok (.iload_n 1, 1) := by decide +kernel
theorem dX12_callOf_5 : decode cX12_callOf 5 = .ok (.bipush 11, 2) := by decide +kernel
theorem dX12_callOf_7 : decode cX12_callOf 7 = .ok (.iload_n 2, 1) := by decide +kernel
theorem dX12_callOf_8 : decode cX12_callOf 8 = .ok (.imul, 1) := by decide +kernel
theorem dX12_callOf_9 : decode cX12_callOf 9 = .ok (.iadd, 1) := by decide +kernel
theorem dX12_callOf_10 : decode cX12_callOf 10 = .ok (.iconst 1, 1) := by decide +kernel
theorem dX12_callOf_11 : decode cX12_callOf 11 = .ok (.iadd, 1) := by decide +kernel
theorem dX12_callOf_12 : decode cX12_callOf 12 = .ok (.iload_n 3, 1) := by decide +kernel
theorem dX12_callOf_13 : decode cX12_callOf 13 = .ok (.iadd, 1) := by decide +kernel
theorem dX12_callOf_14 : decode cX12_callOf 14 = .ok (.iaload, 1) := by decide +kernel
theorem dX12_callOf_15 : decode cX12_callOf 15 = .ok (.ireturn, 1) := by decide +kernel
set_option maxRecDepth 20000 in
theorem ggX12_execute_X12_begin : GoodIn wsX12_execute wsX12_begin := goodIn_r _ [5, 6, 7, 48, 49, 50, 51, 52, 53, 54, 55, 56, 57, 58, 59, 60, 61, 62, 63] (by decide +kernel) (by decide +kernel)
set_option maxRecDepth 20000 in
theorem gX12_execute_X12_begin : GoodIn wsX12_execute (wsV RX12 174 RX12 yX12_begin wsX12_begin) := goodIn_app (goodIn_of _ (by decide +kernel)) ggX12_execute_X12_begin
set_option maxRecDepth 20000 in
theorem ggX12_execute_X12_lengthOf : GoodIn wsX12_execute wsX12_lengthOf := goodIn_r _ [11, 7, 48, 49, 50, 51, 52, 53, 54, 55, 56, 57, 58, 59, 60, 61, 62, 63] (by decide +kernel) (by decide +kernel)
set_option maxRecDepth 20000 in
theorem gX12_execute_X12_lengthOf : GoodIn wsX12_execute (wsV RX12 180 RX12 yX12_lengthOf wsX12_lengthOf) := goodIn_app (goodIn_of _ (by decide +kernel)) ggX12_execute_X12_lengthOf
set_option maxRecDepth 20000 in
theorem ggX12_execute_X12_callOf : GoodIn wsX12_execute wsX12_callOf := goodIn_r _ [15, 7, 48, 49, 50, 51, 52, 53, 54, 55, 56, 57, 58, 59, 60, 61, 62, 63] (by decide +kernel) (by decide +kernel)
set_option maxRecDepth 20000 in
theorem gX12_execute_X12_callOf : GoodIn wsX12_execute (wsV RX12 183 RX12 yX12_callOf wsX12_callOf) := goodIn_app (goodIn_of _ (by decide +kernel)) ggX12_execute_X12_callOf
set_option maxRecDepth 20000 in
theorem ggX12_execute_X12_calls : GoodIn wsX12_execute wsX12_calls := goodIn_r _ [19, 20, 6, 7, 21, 22, 23, 4, 24, 25, 26, 27, 28, 29, 30, 31, 32, 33, 34, 35, 36, 37, 38, 39, 40, 41, 42, 43, 44, 45, 46, 47, 48, 49, 50, 51, 52, 53, 54, 55, 56, 57, 58, 59, 60, 61, 62, 63] (by decide +kernel) (by decide +kernel)
set_option maxRecDepth 20000 in
theorem gX12_execute_X12_calls : GoodIn wsX12_execute (wsV RX12 177 RX12 yX12_calls wsX12_calls) := goodIn_app (goodIn_of _ (by decide +kernel)) ggX12_execute_X12_calls
theorem dX12_execute_0 : decode cX12_execute 0 = .ok (.aload_n 0, 1) := by decide +kernel
theorem dX12_execute_1 : decode cX12_execute 1 = .ok (.invokevirtual 174, 3) := by decide +kernel
theorem dX12_execute_4 : decode cX12_execute 4 = .ok (.iconst 0, 1) := by decide +kernel
theorem dX12_execute_5 : decode cX12_execute 5 = .ok (.istore_n 2, 1) := by decide +kernel
theorem dX12_execute_6 : decode cX12_execute 6 = .ok (.iload_n 2, 1) := by decide +kernel
theorem dX12_execute_7 : decode cX12_execute 7 = .ok (.aload_n 0, 1) := by decide +kernel
theorem dX12_execute_8 : decode cX12_execute 8 = .ok (.sipush 278, 3) := by decide +kernel
theorem dX12_execute_11 : decode cX12_execute 11 = .ok (.iload_n 1, 1) := by decide +kernel
theorem dX12_execute_12 : decode cX12_execute 12 = .ok (.invokevirtual 180, 3) := by decide +kernel
theorem dX12_execute_15 : decode cX12_execute 15 = .ok (.if_icmp .ge 23, 3) := by decide +kernel
theorem dX12_execute_18 : decode cX12_execute 18 = .ok (.aload_n 0, 1) := by decide +kernel
theorem dX12_execute_19 : decode cX12_execute 19 = .ok (.aload_n 0, 1) := by decide +kernel
theorem dX12_execute_20 : decode cX12_execute 20 = .ok (.sipush 278, 3) := by decide +kernel
theorem dX12_execute_23 : decode cX12_execute 23 = .ok (.iload_n 1, 1) := by decide +kernel
theorem dX12_execute_24 : decode cX12_execute 24 = .ok (.iload_n 2, 1) := by decide +kernel
theorem dX12_execute_25 : decode cX12_execute 25 = .ok (.invokevirtual 183, 3) := by decide +kernel
theorem dX12_execute_28 : decode cX12_execute 28 = .ok (.invokevirtual 177, 3) := by decide +kernel
theorem dX12_execute_31 : decode cX12_execute 31 = .ok (.pop, 1) := by decide +kernel
theorem dX12_execute_32 : decode cX12_execute 32 = .ok (.iinc 2 1, 3) := by decide +kernel
theorem dX12_execute_35 : decode cX12_execute 35 = .ok (.goto (-29), 3) := by decide +kernel
theorem dX12_execute_38 : decode cX12_execute 38 = .ok (.return_, 1) := by decide +kernel
set_option maxRecDepth 20000 in
theorem ggX12_isOpen_X12_lengthOf : GoodIn wsX12_isOpen wsX12_lengthOf := goodIn_r _ [6, 1, 7, 8, 9, 10, 11, 12, 13, 14, 15, 16, 17, 18, 19, 20, 21, 22] (by decide +kernel) (by decide +kernel)
set_option maxRecDepth 20000 in
theorem gX12_isOpen_X12_lengthOf : GoodIn wsX12_isOpen (wsV RX12 180 RX12 yX12_lengthOf wsX12_lengthOf) := goodIn_app (goodIn_of _ (by decide +kernel)) ggX12_isOpen_X12_lengthOf
theorem dX12_isOpen_0 : decode cX12_isOpen 0 = .ok (.aload_n 0, 1) := by decide +kernel
theorem dX12_isOpen_1 : decode cX12_isOpen 1 = .ok (.getfield 7, 3) := by decide +kernel
theorem dX12_isOpen_4 : decode cX12_isOpen 4 = .ok (.sipush 938, 3) := by decide +kernel
theorem dX12_isOpen_7 : decode cX12_isOpen 7 = .ok (.bipush 6, 2) := by decide +kernel
theorem dX12_isOpen_9 : decode cX12_isOpen 9 = .ok (.iload_n 1, 1) := by decide +kernel
theorem dX12_isOpen_10 : decode cX12_isOpen 10 = .ok (.imul, 1) := by decide +kernel
theorem dX12_isOpen_11 : decode cX12_isOpen 11 = .ok (.iadd, 1) := by decide +kernel
theorem dX12_isOpen_12 : decode cX12_isOpen 12 = .ok (.iload_n 2, 1) := by decide +kernel
theorem dX12_isOpen_13 : decode cX12_isOpen 13 = .ok (.iadd, 1) := by decide +kernel
theorem dX12_isOpen_14 : decode cX12_isOpen 14 = .ok (.iaload, 1) := by decide +kernel
theorem dX12_isOpen_15 : decode cX12_isOpen 15 = .ok (.ifCond .ne 26, 3) := by decide +kernel
theorem dX12_isOpen_18 : decode cX12_isOpen 18 = .ok (.aload_n 0, 1) := by decide +kernel
theorem dX12_isOpen_19 : decode cX12_isOpen 19 = .ok (.sipush 278, 3) := by decide +kernel
theorem dX12_isOpen_22 : decode cX12_isOpen 22 = .ok (.iload_n 1, 1) := by decide +kernel
theorem dX12_isOpen_23 : decode cX12_isOpen 23 = .ok (.invokevirtual 180, 3) := by decide +kernel
theorem dX12_isOpen_26 : decode cX12_isOpen 26 = .ok (.aload_n 0, 1) := by decide +kernel
theorem dX12_isOpen_27 : decode cX12_isOpen 27 = .ok (.getfield 7, 3) := by decide +kernel
theorem dX12_isOpen_30 : decode cX12_isOpen 30 = .ok (.sipush 272, 3) := by decide +kernel
theorem dX12_isOpen_33 : decode cX12_isOpen 33 = .ok (.iaload, 1) := by decide +kernel
theorem dX12_isOpen_34 : decode cX12_isOpen 34 = .ok (.if_icmp .ge 7, 3) := by decide +kernel
theorem dX12_isOpen_37 : decode cX12_isOpen 37 = .ok (.iconst 1, 1) := by decide +kernel
theorem dX12_isOpen_38 : decode cX12_isOpen 38 = .ok (.goto 4, 3) := by decide +kernel
theorem dX12_isOpen_41 : decode cX12_isOpen 41 = .ok (.iconst 0, 1) := by decide +kernel
theorem dX12_isOpen_42 : decode cX12_isOpen 42 = .ok (.ireturn, 1) := by decide +kernel
set_option maxRecDepth 20000 in
theorem ggX12_firstOpen_X12_isOpen : GoodIn wsX12_firstOpen wsX12_isOpen := goodIn_r _ [6, 1, 7, 8, 9, 5, 10, 11, 12, 13, 14, 15, 16, 17, 18, 19, 20, 21, 22, 23, 24, 25, 26] (by decide +kernel) (by decide +kernel)
set_option maxRecDepth 20000 in
theorem gX12_firstOpen_X12_isOpen : GoodIn wsX12_firstOpen (wsV RX12 187 RX12 yX12_isOpen wsX12_isOpen) := goodIn_app (goodIn_of _ (by decide +kernel)) ggX12_firstOpen_X12_isOpen
theorem dX12_firstOpen_0 : decode cX12_firstOpen 0 = .ok (.iconst 0, 1) := by decide +kernel
theorem dX12_firstOpen_1 : decode cX12_firstOpen 1 = .ok (.istore_n 1, 1) := by decide +kernel
theorem dX12_firstOpen_2 : decode cX12_firstOpen 2 = .ok (.iload_n 1, 1) := by decide +kernel
theorem dX12_firstOpen_3 : decode cX12_firstOpen 3 = .ok (.aload_n 0, 1) := by decide +kernel
theorem dX12_firstOpen_4 : decode cX12_firstOpen 4 = .ok (.getfield 7, 3) := by decide +kernel
theorem dX12_firstOpen_7 : decode cX12_firstOpen 7 = .ok (.sipush 276, 3) := by decide +kernel
theorem dX12_firstOpen_10 : decode cX12_firstOpen 10 = .ok (.iaload, 1) := by decide +kernel
theorem dX12_firstOpen_11 : decode cX12_firstOpen 11 = .ok (.if_icmp .ge 43, 3) := by decide +kernel
theorem dX12_firstOpen_14 : decode cX12_firstOpen 14 = .ok (.iconst 0, 1) := by decide +kernel
theorem dX12_firstOpen_15 : decode cX12_firstOpen 15 = .ok (.istore_n 2, 1) := by decide +kernel
theorem dX12_firstOpen_16 : decode cX12_firstOpen 16 = .ok (.iload_n 2, 1) := by decide +kernel
theorem dX12_firstOpen_17 : decode cX12_firstOpen 17 = .ok (.aload_n 0, 1) := by decide +kernel
theorem dX12_firstOpen_18 : decode cX12_firstOpen 18 = .ok (.getfield 7, 3) := by decide +kernel
theorem dX12_firstOpen_21 : decode cX12_firstOpen 21 = .ok (.iconst 4, 1) := by decide +kernel
theorem dX12_firstOpen_22 : decode cX12_firstOpen 22 = .ok (.iaload, 1) := by decide +kernel
theorem dX12_firstOpen_23 : decode cX12_firstOpen 23 = .ok (.if_icmp .ge 25, 3) := by decide +kernel
theorem dX12_firstOpen_26 : decode cX12_firstOpen 26 = .ok (.aload_n 0, 1) := by decide +kernel
theorem dX12_firstOpen_27 : decode cX12_firstOpen 27 = .ok (.iload_n 1, 1) := by decide +kernel
theorem dX12_firstOpen_28 : decode cX12_firstOpen 28 = .ok (.iload_n 2, 1) := by decide +kernel
theorem dX12_firstOpen_29 : decode cX12_firstOpen 29 = .ok (.invokevirtual 187, 3) := by decide +kernel
theorem dX12_firstOpen_32 : decode cX12_firstOpen 32 = .ok (.ifCond .eq 10, 3) := by decide +kernel
theorem dX12_firstOpen_35 : decode cX12_firstOpen 35 = .ok (.bipush 6, 2) := by decide +kernel
theorem dX12_firstOpen_37 : decode cX12_firstOpen 37 = .ok (.iload_n 1, 1) := by decide +kernel
theorem dX12_firstOpen_38 : decode cX12_firstOpen 38 = .ok (.imul, 1) := by decide +kernel
theorem dX12_firstOpen_39 : decode cX12_firstOpen 39 = .ok (.iload_n 2, 1) := by decide +kernel
theorem dX12_firstOpen_40 : decode cX12_firstOpen 40 = .ok (.iadd, 1) := by decide +kernel
theorem dX12_firstOpen_41 : decode cX12_firstOpen 41 = .ok (.ireturn, 1) := by decide +kernel
theorem dX12_firstOpen_42 : decode cX12_firstOpen 42 = .ok (.iinc 2 1, 3) := by decide +kernel
theorem dX12_firstOpen_45 : decode cX12_firstOpen 45 = .ok (.goto (-29), 3) := by decide +kernel
theorem dX12_firstOpen_48 : decode cX12_firstOpen 48 = .ok (.iinc 1 1, 3) := by decide +kernel
theorem dX12_firstOpen_51 : decode cX12_firstOpen 51 = .ok (.goto (-49), 3) := by decide +kernel
theorem dX12_firstOpen_54 : decode cX12_firstOpen 54 = .ok (.sipush (-1000), 3) := by decide +kernel
theorem dX12_firstOpen_57 : decode cX12_firstOpen 57 = .ok (.ireturn, 1) := by decide +kernel
set_option maxRecDepth 20000 in
theorem ggX12_extend_X12_lengthOf : GoodIn wsX12_extend wsX12_lengthOf := goodIn_r _ [6, 1, 11, 12, 13, 14, 15, 16, 17, 18, 19, 20, 21, 22, 23, 24, 25, 26] (by decide +kernel) (by decide +kernel)
set_option maxRecDepth 20000 in
theorem gX12_extend_X12_lengthOf : GoodIn wsX12_extend (wsV RX12 180 RX12 yX12_lengthOf wsX12_lengthOf) := goodIn_app (goodIn_of _ (by decide +kernel)) ggX12_extend_X12_lengthOf
set_option maxRecDepth 20000 in
theorem ggX12_extend_X12_callOf : GoodIn wsX12_extend wsX12_callOf := goodIn_r _ [10, 1, 11, 12, 13, 14, 15, 16, 17, 18, 19, 20, 21, 22, 23, 24, 25, 26] (by decide +kernel) (by decide +kernel)
set_option maxRecDepth 20000 in
theorem gX12_extend_X12_callOf : GoodIn wsX12_extend (wsV RX12 183 RX12 yX12_callOf wsX12_callOf) := goodIn_app (goodIn_of _ (by decide +kernel)) ggX12_extend_X12_callOf
theorem dX12_extend_0 : decode cX12_extend 0 = .ok (.aload_n 0, 1) := by decide +kernel
theorem dX12_extend_1 : decode cX12_extend 1 = .ok (.sipush 278, 3) := by decide +kernel
theorem dX12_extend_4 : decode cX12_extend 4 = .ok (.iload_n 1, 1) := by decide +kernel
theorem dX12_extend_5 : decode cX12_extend 5 = .ok (.invokevirtual 180, 3) := by decide +kernel
theorem dX12_extend_8 : decode cX12_extend 8 = .ok (.istore 4, 2) := by decide +kernel
theorem dX12_extend_10 : decode cX12_extend 10 = .ok (.aload_n 0, 1) := by decide +kernel
theorem dX12_extend_11 : decode cX12_extend 11 = .ok (.getfield 7, 3) := by decide +kernel
theorem dX12_extend_14 : decode cX12_extend 14 = .ok (.iload_n 3, 1) := by decide +kernel
theorem dX12_extend_15 : decode cX12_extend 15 = .ok (.iload 4, 2) := by decide +kernel
theorem dX12_extend_17 : decode cX12_extend 17 = .ok (.iconst 1, 1) := by decide +kernel
theorem dX12_extend_18 : decode cX12_extend 18 = .ok (.iadd, 1) := by decide +kernel
theorem dX12_extend_19 : decode cX12_extend 19 = .ok (.iastore, 1) := by decide +kernel
theorem dX12_extend_20 : decode cX12_extend 20 = .ok (.iconst 0, 1) := by decide +kernel
theorem dX12_extend_21 : decode cX12_extend 21 = .ok (.istore 5, 2) := by decide +kernel
theorem dX12_extend_23 : decode cX12_extend 23 = .ok (.iload 5, 2) := by decide +kernel
theorem dX12_extend_25 : decode cX12_extend 25 = .ok (.iload 4, 2) := by decide +kernel
theorem dX12_extend_27 : decode cX12_extend 27 = .ok (.if_icmp .ge 30, 3) := by decide +kernel
theorem dX12_extend_30 : decode cX12_extend 30 = .ok (.aload_n 0, 1) := by decide +kernel
theorem dX12_extend_31 : decode cX12_extend 31 = .ok (.getfield 7, 3) := by decide +kernel
theorem dX12_extend_34 : decode cX12_extend 34 = .ok (.iload_n 3, 1) := by decide +kernel
theorem dX12_extend_35 : decode cX12_extend 35 = .ok (.iconst 1, 1) := by decide +kernel
theorem dX12_extend_36 : decode cX12_extend 36 = .ok (.iadd, 1) := by decide +kernel
theorem dX12_extend_37 : decode cX12_extend 37 = .ok (.iload 5, 2) := by decide +kernel
theorem dX12_extend_39 : decode cX12_extend 39 = .ok (.iadd, 1) := by decide +kernel
theorem dX12_extend_40 : decode cX12_extend 40 = .ok (.aload_n 0, 1) := by decide +kernel
theorem dX12_extend_41 : decode cX12_extend 41 = .ok (.sipush 278, 3) := by decide +kernel
theorem dX12_extend_44 : decode cX12_extend 44 = .ok (.iload_n 1, 1) := by decide +kernel
theorem dX12_extend_45 : decode cX12_extend 45 = .ok (.iload 5, 2) := by decide +kernel
theorem dX12_extend_47 : decode cX12_extend 47 = .ok (.invokevirtual 183, 3) := by decide +kernel
theorem dX12_extend_50 : decode cX12_extend 50 = .ok (.iastore, 1) := by decide +kernel
theorem dX12_extend_51 : decode cX12_extend 51 = .ok (.iinc 5 1, 3) := by decide +kernel
theorem dX12_extend_54 : decode cX12_extend 54 = .ok (.goto (-31), 3) := by decide +kernel
theorem dX12_extend_57 : decode cX12_extend 57 = .ok (.aload_n 0, 1) := by decide +kernel
theorem dX12_extend_58 : decode cX12_extend 58 = .ok (.getfield 7, 3) := by decide +kernel
theorem dX12_extend_61 : decode cX12_extend 61 = .ok (.iload_n 3, 1) := by decide +kernel
theorem dX12_extend_62 : decode cX12_extend 62 = .ok (.iconst 1, 1) := by decide +kernel
theorem dX12_extend_63 : decode cX12_extend 63 = .ok (.iadd, 1) := by decide +kernel
theorem dX12_extend_64 : decode cX12_extend 64 = .ok (.iload 4, 2) := by decide +kernel
theorem dX12_extend_66 : decode cX12_extend 66 = .ok (.iadd, 1) := by decide +kernel
theorem dX12_extend_67 : decode cX12_extend 67 = .ok (.iload_n 2, 1) := by decide +kernel
theorem dX12_extend_68 : decode cX12_extend 68 = .ok (.iastore, 1) := by decide +kernel
theorem dX12_extend_69 : decode cX12_extend 69 = .ok (.return_, 1) := by decide +kernel
set_option maxRecDepth 20000 in
theorem ggX12_findTarget_X12_execute : GoodIn wsX12_findTarget wsX12_execute := goodIn_r _ [8, 9, 10, 11, 7, 12, 2, 1, 13, 14, 15, 16, 17, 18, 19, 20, 21, 22, 23, 24, 25, 26, 27, 28, 29, 30, 31, 32, 33, 34, 35, 36, 37, 38, 39, 40, 41, 42, 43, 44, 45, 46, 47, 48, 49, 50, 51, 52, 53, 54, 55, 56, 57, 58, 59, 60, 61, 62, 63, 64, 65, 66, 67, 68] (by decide +kernel) (by decide +kernel)
set_option maxRecDepth 20000 in
theorem gX12_findTarget_X12_execute : GoodIn wsX12_findTarget (wsV RX12 190 RX12 yX12_execute wsX12_execute) := goodIn_app (goodIn_of _ (by decide +kernel)) ggX12_findTarget_X12_execute
theorem dX12_findTarget_0 : decode cX12_findTarget 0 = .ok (.iconst 0, 1) := by decide +kernel
theorem dX12_findTarget_1 : decode cX12_findTarget 1 = .ok (.istore_n 1, 1) := by decide +kernel
theorem dX12_findTarget_2 : decode cX12_findTarget 2 = .ok (.iload_n 1, 1) := by decide +kernel
theorem dX12_findTarget_3 : decode cX12_findTarget 3 = .ok (.aload_n 0, 1) := by decide +kernel
theorem dX12_findTarget_4 : decode cX12_findTarget 4 = .ok (.getfield 7, 3) := by decide +kernel
theorem dX12_findTarget_7 : decode cX12_findTarget 7 = .ok (.sipush 276, 3) := by decide +kernel
theorem dX12_findTarget_10 : decode cX12_findTarget 10 = .ok (.iaload, 1) := by decide +kernel
theorem dX12_findTarget_11 : decode cX12_findTarget 11 = .ok (.if_icmp .ge 61, 3) := by decide +kernel
theorem dX12_findTarget_14 : decode cX12_findTarget 14 = .ok (.aload_n 0, 1) := by decide +kernel
theorem dX12_findTarget_15 : decode cX12_findTarget 15 = .ok (.iload_n 1, 1) := by decide +kernel
theorem dX12_findTarget_16 : decode cX12_findTarget 16 = .ok (.invokevirtual 190, 3) := by decide +kernel
theorem dX12_findTarget_19 : decode cX12_findTarget 19 = .ok (.aload_n 0, 1) := by decide +kernel
theorem dX12_findTarget_20 : decode cX12_findTarget 20 = .ok (.getfield 22, 3) := by decide +kernel
theorem dX12_findTarget_23 : decode cX12_findTarget 23 = .ok (.iconst 0, 1) := by decide +kernel
theorem dX12_findTarget_24 : decode cX12_findTarget 24 = .ok (.iaload, 1) := by decide +kernel
theorem dX12_findTarget_25 : decode cX12_findTarget 25 = .ok (.aload_n 0, 1) := by decide +kernel
theorem dX12_findTarget_26 : decode cX12_findTarget 26 = .ok (.getfield 28, 3) := by decide +kernel
theorem dX12_findTarget_29 : decode cX12_findTarget 29 = .ok (.iconst 0, 1) := by decide +kernel
theorem dX12_findTarget_30 : decode cX12_findTarget 30 = .ok (.iaload, 1) := by decide +kernel
theorem dX12_findTarget_31 : decode cX12_findTarget 31 = .ok (.if_icmp .ne 35, 3) := by decide +kernel
theorem dX12_findTarget_34 : decode cX12_findTarget 34 = .ok (.aload_n 0, 1) := by decide +kernel
theorem dX12_findTarget_35 : decode cX12_findTarget 35 = .ok (.getfield 22, 3) := by decide +kernel
theorem dX12_findTarget_38 : decode cX12_findTarget 38 = .ok (.iconst 1, 1) := by decide +kernel
theorem dX12_findTarget_39 : decode cX12_findTarget 39 = .ok (.iaload, 1) := by decide +kernel
theorem dX12_findTarget_40 : decode cX12_findTarget 40 = .ok (.aload_n 0, 1) := by decide +kernel
theorem dX12_findTarget_41 : decode cX12_findTarget 41 = .ok (.getfield 28, 3) := by decide +kernel
theorem dX12_findTarget_44 : decode cX12_findTarget 44 = .ok (.iconst 1, 1) := by decide +kernel
theorem dX12_findTarget_45 : decode cX12_findTarget 45 = .ok (.iaload, 1) := by decide +kernel
theorem dX12_findTarget_46 : decode cX12_findTarget 46 = .ok (.if_icmp .ne 20, 3) := by decide +kernel
theorem dX12_findTarget_49 : decode cX12_findTarget 49 = .ok (.aload_n 0, 1) := by decide +kernel
theorem dX12_findTarget_50 : decode cX12_findTarget 50 = .ok (.getfield 22, 3) := by decide +kernel
theorem dX12_findTarget_53 : decode cX12_findTarget 53 = .ok (.iconst 2, 1) := by decide +kernel
theorem dX12_findTarget_54 : decode cX12_findTarget 54 = .ok (.iaload, 1) := by decide +kernel
theorem dX12_findTarget_55 : decode cX12_findTarget 55 = .ok (.aload_n 0, 1) := by decide +kernel
theorem dX12_findTarget_56 : decode cX12_findTarget 56 = .ok (.getfield 28, 3) := by decide +kernel
theorem dX12_findTarget_59 : decode cX12_findTarget 59 = .ok (.iconst 2, 1) := by decide +kernel
theorem dX12_findTarget_60 : decode cX12_findTarget 60 = .ok (.iaload, 1) := by decide +kernel
theorem dX12_findTarget_61 : decode cX12_findTarget 61 = .ok (.if_icmp .ne 5, 3) := by decide +kernel
theorem dX12_findTarget_64 : decode cX12_findTarget 64 = .ok (.iload_n 1, 1) := by decide +kernel
theorem dX12_findTarget_65 : decode cX12_findTarget 65 = .ok (.ireturn, 1) := by decide +kernel
theorem dX12_findTarget_66 : decode cX12_findTarget 66 = .ok (.iinc 1 1, 3) := by decide +kernel
theorem dX12_findTarget_69 : decode cX12_findTarget 69 = .ok (.goto (-67), 3) := by decide +kernel
theorem dX12_findTarget_72 : decode cX12_findTarget 72 = .ok (.sipush (-1000), 3) := by decide +kernel
theorem dX12_findTarget_75 : decode cX12_findTarget 75 = .ok (.ireturn, 1) := by decide +kernel
set_option maxRecDepth 20000 in
theorem ggX12_process_X12_execute : GoodIn wsX12_process wsX12_execute := goodIn_r _ [6, 7, 8, 9, 5, 10, 11, 1, 12, 13, 14, 15, 16, 17, 18, 19, 20, 21, 22, 23, 24, 25, 26, 27, 28, 29, 30, 31, 32, 33, 34, 35, 36, 37, 38, 39, 40, 41, 42, 43, 44, 45, 46, 47, 48, 49, 50, 51, 65, 66, 67, 68, 69, 70, 71, 72, 73, 74, 75, 76, 77, 78, 79, 80] (by decide +kernel) (by decide +kernel)
set_option maxRecDepth 20000 in
theorem gX12_process_X12_execute : GoodIn wsX12_process (wsV RX12 190 RX12 yX12_execute wsX12_execute) := goodIn_app (goodIn_of _ (by decide +kernel)) ggX12_process_X12_execute
set_option maxRecDepth 20000 in
theorem ggX12_process_X12_calls : GoodIn wsX12_process wsX12_calls := goodIn_r _ [23, 24, 11, 1, 25, 26, 27, 5, 28, 29, 30, 31, 32, 33, 34, 35, 36, 37, 38, 39, 40, 41, 42, 43, 44, 45, 46, 47, 48, 49, 50, 51, 65, 66, 67, 68, 69, 70, 71, 72, 73, 74, 75, 76, 77, 78, 79, 80] (by decide +kernel) (by decide +kernel)
set_option maxRecDepth 20000 in
theorem gX12_process_X12_calls : GoodIn wsX12_process (wsV RX12 177 RX12 yX12_calls wsX12_calls) := goodIn_app (goodIn_of _ (by decide +kernel)) ggX12_process_X12_calls
set_option maxRecDepth 20000 in
theorem ggX12_process_X12_extend : GoodIn wsX12_process wsX12_extend := goodIn_r _ [55, 1, 12, 13, 14, 5, 15, 16, 17, 18, 19, 65, 66, 67, 68, 69, 70, 71, 72, 73, 74, 75, 76, 77, 78, 79, 80] (by decide +kernel) (by decide +kernel)
set_option maxRecDepth 20000 in
theorem gX12_process_X12_extend : GoodIn wsX12_process (wsV RX12 193 RX12 yX12_extend wsX12_extend) := goodIn_app (goodIn_of _ (by decide +kernel)) ggX12_process_X12_extend
set_option maxRecDepth 20000 in
theorem ggX12_process_X12_keeps : GoodIn wsX12_process wsX12_keeps := goodIn_r _ [59, 60, 11, 1, 61, 62, 63, 5, 64, 2, 3, 4, 6, 7, 8, 9, 10, 12, 13, 14, 15, 16, 17, 18, 19, 20, 21, 22, 23, 24, 25, 26, 27, 28, 29, 30, 31, 32, 33, 34, 35, 36, 37, 38, 39, 40, 41, 42, 43, 44, 45, 46, 47, 48, 49, 50, 51, 52, 53, 54, 55, 65, 66, 67, 68, 69, 70, 71, 72, 73, 74, 75, 76, 77, 78, 79, 80] (by decide +kernel) (by decide +kernel)
set_option maxRecDepth 20000 in
theorem gX12_process_X12_keeps : GoodIn wsX12_process (wsV RX12 197 RX12 yX12_keeps wsX12_keeps) := goodIn_app (goodIn_of _ (by decide +kernel)) ggX12_process_X12_keeps
theorem dX12_process_0 : decode cX12_process 0 = .ok (.aload_n 0, 1) := by decide +kernel
theorem dX12_process_1 : decode cX12_process 1 = .ok (.getfield 7, 3) := by decide +kernel
theorem dX12_process_4 : decode cX12_process 4 = .ok (.sipush 938, 3) := by decide +kernel
theorem dX12_process_7 : decode cX12_process 7 = .ok (.bipush 6, 2) := by decide +kernel
theorem dX12_process_9 : decode cX12_process 9 = .ok (.iload_n 1, 1) := by decide +kernel
theorem dX12_process_10 : decode cX12_process 10 = .ok (.imul, 1) := by decide +kernel
theorem dX12_process_11 : decode cX12_process 11 = .ok (.iadd, 1) := by decide +kernel
theorem dX12_process_12 : decode cX12_process 12 = .ok (.iload_n 2, 1) := by decide +kernel
theorem dX12_process_13 : decode cX12_process 13 = .ok (.iadd, 1) := by decide +kernel
theorem dX12_process_14 : decode cX12_process 14 = .ok (.iconst 1, 1) := by decide +kernel
theorem dX12_process_15 : decode cX12_process 15 = .ok (.iastore, 1) := by decide +kernel
theorem dX12_process_16 : decode cX12_process 16 = .ok (.aload_n 0, 1) := by decide +kernel
theorem dX12_process_17 : decode cX12_process 17 = .ok (.iload_n 1, 1) := by decide +kernel
theorem dX12_process_18 : decode cX12_process 18 = .ok (.invokevirtual 190, 3) := by decide +kernel
theorem dX12_process_21 : decode cX12_process 21 = .ok (.aload_n 0, 1) := by decide +kernel
theorem dX12_process_22 : decode cX12_process 22 = .ok (.iload_n 2, 1) := by decide +kernel
theorem dX12_process_23 : decode cX12_process 23 = .ok (.invokevirtual 177, 3) := by decide +kernel
theorem dX12_process_26 : decode cX12_process 26 = .ok (.istore_n 3, 1) := by decide +kernel
theorem dX12_process_27 : decode cX12_process 27 = .ok (.iload_n 3, 1) := by decide +kernel
theorem dX12_process_28 : decode cX12_process 28 = .ok (.iconst 1, 1) := by decide +kernel
theorem dX12_process_29 : decode cX12_process 29 = .ok (.if_icmp .ne 18, 3) := by decide +kernel
theorem dX12_process_32 : decode cX12_process 32 = .ok (.aload_n 0, 1) := by decide +kernel
theorem dX12_process_33 : decode cX12_process 33 = .ok (.getfield 7, 3) := by decide +kernel
theorem dX12_process_36 : decode cX12_process 36 = .ok (.sipush 273, 3) := by decide +kernel
theorem dX12_process_39 : decode cX12_process 39 = .ok (.dup2, 1) := by decide +kernel
theorem dX12_process_40 : decode cX12_process 40 = .ok (.iaload, 1) := by decide +kernel
theorem dX12_process_41 : decode cX12_process 41 = .ok (.iconst 1, 1) := by decide +kernel
theorem dX12_process_42 : decode cX12_process 42 = .ok (.iadd, 1) := by decide +kernel
theorem dX12_process_43 : decode cX12_process 43 = .ok (.iastore, 1) := by decide +kernel
theorem dX12_process_44 : decode cX12_process 44 = .ok (.goto 95, 3) := by decide +kernel
theorem dX12_process_47 : decode cX12_process 47 = .ok (.iload_n 3, 1) := by decide +kernel
theorem dX12_process_48 : decode cX12_process 48 = .ok (.iconst 1, 1) := by decide +kernel
theorem dX12_process_49 : decode cX12_process 49 = .ok (.if_icmp .le 84, 3) := by decide +kernel
theorem dX12_process_52 : decode cX12_process 52 = .ok (.aload_n 0, 1) := by decide +kernel
theorem dX12_process_53 : decode cX12_process 53 = .ok (.getfield 7, 3) := by decide +kernel
theorem dX12_process_56 : decode cX12_process 56 = .ok (.sipush 277, 3) := by decide +kernel
theorem dX12_process_59 : decode cX12_process 59 = .ok (.iaload, 1) := by decide +kernel
theorem dX12_process_60 : decode cX12_process 60 = .ok (.bipush 20, 2) := by decide +kernel
theorem dX12_process_62 : decode cX12_process 62 = .ok (.if_icmp .ne 18, 3) := by decide +kernel
theorem dX12_process_65 : decode cX12_process 65 = .ok (.aload_n 0, 1) := by decide +kernel
theorem dX12_process_66 : decode cX12_process 66 = .ok (.getfield 7, 3) := by decide +kernel
theorem dX12_process_69 : decode cX12_process 69 = .ok (.sipush 275, 3) := by decide +kernel
theorem dX12_process_72 : decode cX12_process 72 = .ok (.dup2, 1) := by decide +kernel
theorem dX12_process_73 : decode cX12_process 73 = .ok (.iaload, 1) := by decide +kernel
theorem dX12_process_74 : decode cX12_process 74 = .ok (.iconst 1, 1) := by decide +kernel
theorem dX12_process_75 : decode cX12_process 75 = .ok (.iadd, 1) := by decide +kernel
theorem dX12_process_76 : decode cX12_process 76 = .ok (.iastore, 1) := by decide +kernel
theorem dX12_process_77 : decode cX12_process 77 = .ok (.goto 62, 3) := by decide +kernel
theorem dX12_process_80 : decode cX12_process 80 = .ok (.sipush 718, 3) := by decide +kernel
theorem dX12_process_83 : decode cX12_process 83 = .ok (.bipush 11, 2) := by decide +kernel
theorem dX12_process_85 : decode cX12_process 85 = .ok (.aload_n 0, 1) := by decide +kernel
theorem dX12_process_86 : decode cX12_process 86 = .ok (.getfield 7, 3) := by decide +kernel
theorem dX12_process_89 : decode cX12_process 89 = .ok (.sipush 277, 3) := by decide +kernel
theorem dX12_process_92 : decode cX12_process 92 = .ok (.iaload, 1) := by decide +kernel
theorem dX12_process_93 : decode cX12_process 93 = .ok (.imul, 1) := by decide +kernel
theorem dX12_process_94 : decode cX12_process 94 = .ok (.iadd, 1) := by decide +kernel
theorem dX12_process_95 : decode cX12_process 95 = .ok (.istore 4, 2) := by decide +kernel
theorem dX12_process_97 : decode cX12_process 97 = .ok (.aload_n 0, 1) := by decide +kernel
theorem dX12_process_98 : decode cX12_process 98 = .ok (.iload_n 1, 1) := by decide +kernel
theorem dX12_process_99 : decode cX12_process 99 = .ok (.iload_n 2, 1) := by decide +kernel
theorem dX12_process_100 : decode cX12_process 100 = .ok (.iload 4, 2) := by decide +kernel
theorem dX12_process_102 : decode cX12_process 102 = .ok (.invokevirtual 193, 3) := by decide +kernel
theorem dX12_process_105 : decode cX12_process 105 = .ok (.aload_n 0, 1) := by decide +kernel
theorem dX12_process_106 : decode cX12_process 106 = .ok (.getfield 7, 3) := by decide +kernel
theorem dX12_process_109 : decode cX12_process 109 = .ok (.iload 4, 2) := by decide +kernel
theorem dX12_process_111 : decode cX12_process 111 = .ok (.bipush 11, 2) := by decide +kernel
theorem dX12_process_113 : decode cX12_process 113 = .ok (.iadd, 1) := by decide +kernel
theorem dX12_process_114 : decode cX12_process 114 = .ok (.iconst 1, 1) := by decide +kernel
theorem dX12_process_115 : decode cX12_process 115 = .ok (.isub, 1) := by decide +kernel
theorem dX12_process_116 : decode cX12_process 116 = .ok (.iload_n 3, 1) := by decide +kernel
theorem dX12_process_117 : decode cX12_process 117 = .ok (.iastore, 1) := by decide +kernel
theorem dX12_process_118 : decode cX12_process 118 = .ok (.aload_n 0, 1) := by decide +kernel
theorem dX12_process_119 : decode cX12_process 119 = .ok (.getfield 7, 3) := by decide +kernel
theorem dX12_process_122 : decode cX12_process 122 = .ok (.sipush 277, 3) := by decide +kernel
theorem dX12_process_125 : decode cX12_process 125 = .ok (.dup2, 1) := by decide +kernel
theorem dX12_process_126 : decode cX12_process 126 = .ok (.iaload, 1) := by decide +kernel
theorem dX12_process_127 : decode cX12_process 127 = .ok (.iconst 1, 1) := by decide +kernel
theorem dX12_process_128 : decode cX12_process 128 = .ok (.iadd, 1) := by decide +kernel
theorem dX12_process_129 : decode cX12_process 129 = .ok (.iastore, 1) := by decide +kernel
theorem dX12_process_130 : decode cX12_process 130 = .ok (.goto 9, 3) := by decide +kernel
theorem dX12_process_133 : decode cX12_process 133 = .ok (.aload_n 0, 1) := by decide +kernel
theorem dX12_process_134 : decode cX12_process 134 = .ok (.iload_n 1, 1) := by decide +kernel
theorem dX12_process_135 : decode cX12_process 135 = .ok (.iload_n 2, 1) := by decide +kernel
theorem dX12_process_136 : decode cX12_process 136 = .ok (.invokevirtual 197, 3) := by decide +kernel
theorem dX12_process_139 : decode cX12_process 139 = .ok (.return_, 1) := by decide +kernel
set_option maxRecDepth 20000 in
theorem ggX12_keeps_X12_findTarget : GoodIn wsX12_keeps wsX12_findTarget := goodIn_r _ [8, 3, 2, 1, 9, 10, 11, 7, 12, 13, 14, 15, 16, 17, 18, 19, 20, 21, 22, 23, 24, 25, 26, 27, 28, 29, 30, 31, 32, 33, 34, 35, 36, 37, 38, 39, 40, 41, 42, 43, 44, 45, 46, 47, 48, 49, 50, 51, 52, 53, 54, 55, 56, 61, 62, 63, 64, 65, 66, 67, 68, 69, 70, 71, 72, 73, 74, 75, 76] (by decide +kernel) (by decide +kernel)
set_option maxRecDepth 20000 in
theorem gX12_keeps_X12_findTarget : GoodIn wsX12_keeps (wsV RX12 200 RX12 yX12_findTarget wsX12_findTarget) := goodIn_app (goodIn_of _ (by decide +kernel)) ggX12_keeps_X12_findTarget
set_option maxRecDepth 20000 in
theorem ggX12_keeps_X12_extend : GoodIn wsX12_keeps wsX12_extend := goodIn_r _ [60, 3, 17, 18, 19, 7, 20, 21, 22, 23, 24, 61, 62, 63, 64, 65, 66, 67, 68, 69, 70, 71, 72, 73, 74, 75, 76] (by decide +kernel) (by decide +kernel)
set_option maxRecDepth 20000 in
theorem gX12_keeps_X12_extend : GoodIn wsX12_keeps (wsV RX12 193 RX12 yX12_extend wsX12_extend) := goodIn_app (goodIn_of _ (by decide +kernel)) ggX12_keeps_X12_extend
theorem dX12_keeps_0 : decode cX12_keeps 0 = .ok (.iconst 0, 1) := by decide +kernel
theorem dX12_keeps_1 : decode cX12_keeps 1 = .ok (.istore_n 3, 1) := by decide +kernel
theorem dX12_keeps_2 : decode cX12_keeps 2 = .ok (.iload_n 3, 1) := by decide +kernel
theorem dX12_keeps_3 : decode cX12_keeps 3 = .ok (.iconst 3, 1) := by decide +kernel
theorem dX12_keeps_4 : decode cX12_keeps 4 = .ok (.if_icmp .ge 21, 3) := by decide +kernel
theorem dX12_keeps_7 : decode cX12_keeps 7 = .ok (.aload_n 0, 1) := by decide +kernel
theorem dX12_keeps_8 : decode cX12_keeps 8 = .ok (.getfield 28, 3) := by decide +kernel
theorem dX12_keeps_11 : decode cX12_keeps 11 = .ok (.iload_n 3, 1) := by decide +kernel
theorem dX12_keeps_12 : decode cX12_keeps 12 = .ok (.aload_n 0, 1) := by decide +kernel
theorem dX12_keeps_13 : decode cX12_keeps 13 = .ok (.getfield 22, 3) := by decide +kernel
theorem dX12_keeps_16 : decode cX12_keeps 16 = .ok (.iload_n 3, 1) := by decide +kernel
theorem dX12_keeps_17 : decode cX12_keeps 17 = .ok (.iaload, 1) := by decide +kernel
theorem dX12_keeps_18 : decode cX12_keeps 18 = .ok (.iastore, 1) := by decide +kernel
theorem dX12_keeps_19 : decode cX12_keeps 19 = .ok (.iinc 3 1, 3) := by decide +kernel
theorem dX12_keeps_22 : decode cX12_keeps 22 = .ok (.goto (-20), 3) := by decide +kernel
theorem dX12_keeps_25 : decode cX12_keeps 25 = .ok (.aload_n 0, 1) := by decide +kernel
theorem dX12_keeps_26 : decode cX12_keeps 26 = .ok (.invokevirtual 200, 3) := by decide +kernel
theorem dX12_keeps_29 : decode cX12_keeps 29 = .ok (.sipush (-1000), 3) := by decide +kernel
theorem dX12_keeps_32 : decode cX12_keeps 32 = .ok (.if_icmp .eq 18, 3) := by decide +kernel
theorem dX12_keeps_35 : decode cX12_keeps 35 = .ok (.aload_n 0, 1) := by decide +kernel
theorem dX12_keeps_36 : decode cX12_keeps 36 = .ok (.getfield 7, 3) := by decide +kernel
theorem dX12_keeps_39 : decode cX12_keeps 39 = .ok (.sipush 274, 3) := by decide +kernel
theorem dX12_keeps_42 : decode cX12_keeps 42 = .ok (.dup2, 1) := by decide +kernel
theorem dX12_keeps_43 : decode cX12_keeps 43 = .ok (.iaload, 1) := by decide +kernel
theorem dX12_keeps_44 : decode cX12_keeps 44 = .ok (.iconst 1, 1) := by decide +kernel
theorem dX12_keeps_45 : decode cX12_keeps 45 = .ok (.iadd, 1) := by decide +kernel
theorem dX12_keeps_46 : decode cX12_keeps 46 = .ok (.iastore, 1) := by decide +kernel
theorem dX12_keeps_47 : decode cX12_keeps 47 = .ok (.goto 64, 3) := by decide +kernel
theorem dX12_keeps_50 : decode cX12_keeps 50 = .ok (.aload_n 0, 1) := by decide +kernel
theorem dX12_keeps_51 : decode cX12_keeps 51 = .ok (.getfield 7, 3) := by decide +kernel
theorem dX12_keeps_54 : decode cX12_keeps 54 = .ok (.sipush 276, 3) := by decide +kernel
theorem dX12_keeps_57 : decode cX12_keeps 57 = .ok (.iaload, 1) := by decide +kernel
theorem dX12_keeps_58 : decode cX12_keeps 58 = .ok (.bipush 40, 2) := by decide +kernel
theorem dX12_keeps_60 : decode cX12_keeps 60 = .ok (.if_icmp .ne 18, 3) := by decide +kernel
theorem dX12_keeps_63 : decode cX12_keeps 63 = .ok (.aload_n 0, 1) := by decide +kernel
theorem dX12_keeps_64 : decode cX12_keeps 64 = .ok (.getfield 7, 3) := by decide +kernel
theorem dX12_keeps_67 : decode cX12_keeps 67 = .ok (.sipush 275, 3) := by decide +kernel
theorem dX12_keeps_70 : decode cX12_keeps 70 = .ok (.dup2, 1) := by decide +kernel
theorem dX12_keeps_71 : decode cX12_keeps 71 = .ok (.iaload, 1) := by decide +kernel
theorem dX12_keeps_72 : decode cX12_keeps 72 = .ok (.iconst 1, 1) := by decide +kernel
theorem dX12_keeps_73 : decode cX12_keeps 73 = .ok (.iadd, 1) := by decide +kernel
theorem dX12_keeps_74 : decode cX12_keeps 74 = .ok (.iastore, 1) := by decide +kernel
theorem dX12_keeps_75 : decode cX12_keeps 75 = .ok (.goto 36, 3) := by decide +kernel
theorem dX12_keeps_78 : decode cX12_keeps 78 = .ok (.aload_n 0, 1) := by decide +kernel
theorem dX12_keeps_79 : decode cX12_keeps 79 = .ok (.iload_n 1, 1) := by decide +kernel
theorem dX12_keeps_80 : decode cX12_keeps 80 = .ok (.iload_n 2, 1) := by decide +kernel
theorem dX12_keeps_81 : decode cX12_keeps 81 = .ok (.sipush 278, 3) := by decide +kernel
theorem dX12_keeps_84 : decode cX12_keeps 84 = .ok (.bipush 11, 2) := by decide +kernel
theorem dX12_keeps_86 : decode cX12_keeps 86 = .ok (.aload_n 0, 1) := by decide +kernel
theorem dX12_keeps_87 : decode cX12_keeps 87 = .ok (.getfield 7, 3) := by decide +kernel
theorem dX12_keeps_90 : decode cX12_keeps 90 = .ok (.sipush 276, 3) := by decide +kernel
theorem dX12_keeps_93 : decode cX12_keeps 93 = .ok (.iaload, 1) := by decide +kernel
theorem dX12_keeps_94 : decode cX12_keeps 94 = .ok (.imul, 1) := by decide +kernel
theorem dX12_keeps_95 : decode cX12_keeps 95 = .ok (.iadd, 1) := by decide +kernel
theorem dX12_keeps_96 : decode cX12_keeps 96 = .ok (.invokevirtual 193, 3) := by decide +kernel
theorem dX12_keeps_99 : decode cX12_keeps 99 = .ok (.aload_n 0, 1) := by decide +kernel
theorem dX12_keeps_100 : decode cX12_keeps 100 = .ok (.getfield 7, 3) := by decide +kernel
theorem dX12_keeps_103 : decode cX12_keeps 103 = .ok (.sipush 276, 3) := by decide +kernel
theorem dX12_keeps_106 : decode cX12_keeps 106 = .ok (.dup2, 1) := by decide +kernel
theorem dX12_keeps_107 : decode cX12_keeps 107 = .ok (.iaload, 1) := by decide +kernel
theorem dX12_keeps_108 : decode cX12_keeps 108 = .ok (.iconst 1, 1) := by decide +kernel
theorem dX12_keeps_109 : decode cX12_keeps 109 = .ok (.iadd, 1) := by decide +kernel
theorem dX12_keeps_110 : decode cX12_keeps 110 = .ok (.iastore, 1) := by decide +kernel
theorem dX12_keeps_111 : decode cX12_keeps 111 = .ok (.return_, 1) := by decide +kernel
set_option maxRecDepth 20000 in
theorem ggX12_setMaximumLength_X12_in : GoodIn wsX12_setMaximumLength wsX12_in := goodIn_r _ [5] (by decide +kernel) (by decide +kernel)
set_option maxRecDepth 20000 in
theorem gX12_setMaximumLength_X12_in : GoodIn wsX12_setMaximumLength (va_wsS RX12 60 yX12_in wsX12_in) := goodIn_app (goodIn_of _ (by decide +kernel)) ggX12_setMaximumLength_X12_in
set_option maxRecDepth 20000 in
theorem ggX12_setMaximumLength_X12_note : GoodIn wsX12_setMaximumLength wsX12_note := goodIn_r _ [9, 10, 11, 1, 12, 13, 14, 15, 16, 17, 18, 19, 20, 21, 22, 23, 24, 25, 26, 27] (by decide +kernel) (by decide +kernel)
set_option maxRecDepth 20000 in
theorem gX12_setMaximumLength_X12_note : GoodIn wsX12_setMaximumLength (wsV RX12 148 RX12 yX12_note wsX12_note) := goodIn_app (goodIn_of _ (by decide +kernel)) ggX12_setMaximumLength_X12_note
theorem dX12_setMaximumLength_0 : decode cX12_setMaximumLength 0 = .ok (.iload_n 1, 1) := by decide +kernel
theorem dX12_setMaximumLength_1 : decode cX12_setMaximumLength 1 = .ok (.iconst 1, 1) := by decide +kernel
theorem dX12_setMaximumLength_2 : decode cX12_setMaximumLength 2 = .ok (.bipush 8, 2) := by decide +kernel
theorem dX12_setMaximumLength_4 : decode cX12_setMaximumLength 4 = .ok (.invokestatic 60, 3) := by decide +kernel
theorem dX12_setMaximumLength_7 : decode cX12_setMaximumLength 7 = .ok (.ifCond .ne 5, 3) := by decide +kernel
theorem dX12_setMaximumLength_10 : decode cX12_setMaximumLength 10 = .ok (.iconst (-1), 1) := by decide +kernel
theorem dX12_setMaximumLength_11 : decode cX12_setMaximumLength 11 = .ok (.ireturn, 1) := by decide +kernel
theorem dX12_setMaximumLength_12 : decode cX12_setMaximumLength 12 = .ok (.aload_n 0, 1) := by decide +kernel
theorem dX12_setMaximumLength_13 : decode cX12_setMaximumLength 13 = .ok (.invokevirtual 148, 3) := by decide +kernel
theorem dX12_setMaximumLength_16 : decode cX12_setMaximumLength 16 = .ok (.aload_n 0, 1) := by decide +kernel
theorem dX12_setMaximumLength_17 : decode cX12_setMaximumLength 17 = .ok (.getfield 7, 3) := by decide +kernel
theorem dX12_setMaximumLength_20 : decode cX12_setMaximumLength 20 = .ok (.sipush 272, 3) := by decide +kernel
theorem dX12_setMaximumLength_23 : decode cX12_setMaximumLength 23 = .ok (.iaload, 1) := by decide +kernel
theorem dX12_setMaximumLength_24 : decode cX12_setMaximumLength 24 = .ok (.istore_n 2, 1) := by decide +kernel
theorem dX12_setMaximumLength_25 : decode cX12_setMaximumLength 25 = .ok (.aload_n 0, 1) := by decide +kernel
theorem dX12_setMaximumLength_26 : decode cX12_setMaximumLength 26 = .ok (.getfield 7, 3) := by decide +kernel
theorem dX12_setMaximumLength_29 : decode cX12_setMaximumLength 29 = .ok (.sipush 272, 3) := by decide +kernel
theorem dX12_setMaximumLength_32 : decode cX12_setMaximumLength 32 = .ok (.iload_n 1, 1) := by decide +kernel
theorem dX12_setMaximumLength_33 : decode cX12_setMaximumLength 33 = .ok (.iastore, 1) := by decide +kernel
theorem dX12_setMaximumLength_34 : decode cX12_setMaximumLength 34 = .ok (.iload_n 2, 1) := by decide +kernel
theorem dX12_setMaximumLength_35 : decode cX12_setMaximumLength 35 = .ok (.ireturn, 1) := by decide +kernel
set_option maxRecDepth 20000 in
theorem ggX12_explore_X12_in : GoodIn wsX12_explore wsX12_in := goodIn_r _ [4] (by decide +kernel) (by decide +kernel)
set_option maxRecDepth 20000 in
theorem gX12_explore_X12_in : GoodIn wsX12_explore (va_wsS RX12 60 yX12_in wsX12_in) := goodIn_app (goodIn_of _ (by decide +kernel)) ggX12_explore_X12_in
set_option maxRecDepth 20000 in
theorem ggX12_explore_X12_firstOpen : GoodIn wsX12_explore wsX12_firstOpen := goodIn_r _ [8, 9, 10, 11, 12, 3, 13, 14, 15, 16, 17, 83, 84, 85, 86, 87, 88, 89, 90, 91, 92, 93, 94, 95, 96, 97, 98] (by decide +kernel) (by decide +kernel)
set_option maxRecDepth 20000 in
theorem gX12_explore_X12_firstOpen : GoodIn wsX12_explore (wsV RX12 203 RX12 yX12_firstOpen wsX12_firstOpen) := goodIn_app (goodIn_of _ (by decide +kernel)) ggX12_explore_X12_firstOpen
set_option maxRecDepth 20000 in
theorem ggX12_explore_X12_note : GoodIn wsX12_explore wsX12_note := goodIn_r _ [21, 22, 23, 9, 83, 84, 85, 86, 87, 88, 89, 90, 91, 92, 93, 94, 95, 96, 97, 98] (by decide +kernel) (by decide +kernel)
set_option maxRecDepth 20000 in
theorem gX12_explore_X12_note : GoodIn wsX12_explore (wsV RX12 148 RX12 yX12_note wsX12_note) := goodIn_app (goodIn_of _ (by decide +kernel)) ggX12_explore_X12_note
set_option maxRecDepth 20000 in
theorem ggX12_explore_X12_process : GoodIn wsX12_explore wsX12_process := goodIn_r _ [27, 9, 28, 29, 30, 3, 31, 32, 33, 34, 35, 36, 14, 15, 16, 17, 37, 38, 39, 40, 41, 42, 43, 44, 45, 46, 47, 48, 49, 50, 51, 52, 53, 54, 55, 56, 57, 58, 59, 60, 61, 62, 63, 64, 65, 66, 67, 68, 69, 1, 2, 4, 70, 71, 72, 73, 74, 75, 76, 77, 78, 79, 80, 81, 82, 83, 84, 85, 86, 87, 88, 89, 90, 91, 92, 93, 94, 95, 96, 97, 98] (by decide +kernel) (by decide +kernel)
set_option maxRecDepth 20000 in
theorem gX12_explore_X12_process : GoodIn wsX12_explore (wsV RX12 206 RX12 yX12_process wsX12_process) := goodIn_app (goodIn_of _ (by decide +kernel)) ggX12_explore_X12_process
theorem dX12_explore_0 : decode cX12_explore 0 = .ok (.iload_n 1, 1) := by decide +kernel
theorem dX12_explore_1 : decode cX12_explore 1 = .ok (.iconst 1, 1) := by decide +kernel
theorem dX12_explore_2 : decode cX12_explore 2 = .ok (.sipush 200, 3) := by decide +kernel
theorem dX12_explore_5 : decode cX12_explore 5 = .ok (.invokestatic 60, 3) := by decide +kernel
theorem dX12_explore_8 : decode cX12_explore 8 = .ok (.ifCond .ne 5, 3) := by decide +kernel
theorem dX12_explore_11 : decode cX12_explore 11 = .ok (.iconst (-1), 1) := by decide +kernel
theorem dX12_explore_12 : decode cX12_explore 12 = .ok (.ireturn, 1) := by decide +kernel
theorem dX12_explore_13 : decode cX12_explore 13 = .ok (.aload_n 0, 1) := by decide +kernel
theorem dX12_explore_14 : decode cX12_explore 14 = .ok (.invokevirtual 203, 3) := by decide +kernel
theorem dX12_explore_17 : decode cX12_explore 17 = .ok (.istore_n 2, 1) := by decide +kernel
theorem dX12_explore_18 : decode cX12_explore 18 = .ok (.iload_n 2, 1) := by decide +kernel
theorem dX12_explore_19 : decode cX12_explore 19 = .ok (.sipush (-1000), 3) := by decide +kernel
theorem dX12_explore_22 : decode cX12_explore 22 = .ok (.if_icmp .ne 6, 3) := by decide +kernel
theorem dX12_explore_25 : decode cX12_explore 25 = .ok (.bipush (-2), 2) := by decide +kernel
theorem dX12_explore_27 : decode cX12_explore 27 = .ok (.ireturn, 1) := by decide +kernel
theorem dX12_explore_28 : decode cX12_explore 28 = .ok (.aload_n 0, 1) := by decide +kernel
theorem dX12_explore_29 : decode cX12_explore 29 = .ok (.invokevirtual 148, 3) := by decide +kernel
theorem dX12_explore_32 : decode cX12_explore 32 = .ok (.iconst 0, 1) := by decide +kernel
theorem dX12_explore_33 : decode cX12_explore 33 = .ok (.istore_n 3, 1) := by decide +kernel
theorem dX12_explore_34 : decode cX12_explore 34 = .ok (.iload_n 3, 1) := by decide +kernel
theorem dX12_explore_35 : decode cX12_explore 35 = .ok (.iload_n 1, 1) := by decide +kernel
theorem dX12_explore_36 : decode cX12_explore 36 = .ok (.if_icmp .ge 33, 3) := by decide +kernel
theorem dX12_explore_39 : decode cX12_explore 39 = .ok (.iload_n 2, 1) := by decide +kernel
theorem dX12_explore_40 : decode cX12_explore 40 = .ok (.sipush (-1000), 3) := by decide +kernel
theorem dX12_explore_43 : decode cX12_explore 43 = .ok (.if_icmp .eq 26, 3) := by decide +kernel
theorem dX12_explore_46 : decode cX12_explore 46 = .ok (.aload_n 0, 1) := by decide +kernel
theorem dX12_explore_47 : decode cX12_explore 47 = .ok (.iload_n 2, 1) := by decide +kernel
theorem dX12_explore_48 : decode cX12_explore 48 = .ok (.bipush 6, 2) := by decide +kernel
theorem dX12_explore_50 : decode cX12_explore 50 = .ok (.idiv, 1) := by decide +kernel
theorem dX12_explore_51 : decode cX12_explore 51 = .ok (.iload_n 2, 1) := by decide +kernel
theorem dX12_explore_52 : decode cX12_explore 52 = .ok (.bipush 6, 2) := by decide +kernel
theorem dX12_explore_54 : decode cX12_explore 54 = .ok (.irem, 1) := by decide +kernel
theorem dX12_explore_55 : decode cX12_explore 55 = .ok (.invokevirtual 206, 3) := by decide +kernel
theorem dX12_explore_58 : decode cX12_explore 58 = .ok (.iinc 3 1, 3) := by decide +kernel
theorem dX12_explore_61 : decode cX12_explore 61 = .ok (.aload_n 0, 1) := by decide +kernel
theorem dX12_explore_62 : decode cX12_explore 62 = .ok (.invokevirtual 203, 3) := by decide +kernel
theorem dX12_explore_65 : decode cX12_explore 65 = .ok (.istore_n 2, 1) := by decide +kernel
theorem dX12_explore_66 : decode cX12_explore 66 = .ok (.goto (-32), 3) := by decide +kernel
theorem dX12_explore_69 : decode cX12_explore 69 = .ok (.iload_n 3, 1) := by decide +kernel
theorem dX12_explore_70 : decode cX12_explore 70 = .ok (.ireturn, 1) := by decide +kernel
set_option maxRecDepth 20000 in
theorem ggX12_reset_X12_note : GoodIn wsX12_reset wsX12_note := goodIn_r _ [6, 7, 8, 1, 13, 14, 15, 16, 17, 18, 19, 20, 21, 22, 23, 24, 25, 26, 27, 28] (by decide +kernel) (by decide +kernel)
set_option maxRecDepth 20000 in
theorem gX12_reset_X12_note : GoodIn wsX12_reset (wsV RX12 148 RX12 yX12_note wsX12_note) := goodIn_app (goodIn_of _ (by decide +kernel)) ggX12_reset_X12_note
set_option maxRecDepth 20000 in
theorem ggX12_reset_X12_bare : GoodIn wsX12_reset wsX12_bare := goodIn_r _ [12, 1, 13, 14, 15, 16, 17, 18, 19, 20, 21, 22, 23, 24, 25, 26, 27, 28] (by decide +kernel) (by decide +kernel)
set_option maxRecDepth 20000 in
theorem gX12_reset_X12_bare : GoodIn wsX12_reset (wsV RX12 34 RX12 yX12_bare wsX12_bare) := goodIn_app (goodIn_of _ (by decide +kernel)) ggX12_reset_X12_bare
theorem dX12_reset_0 : decode cX12_reset 0 = .ok (.iconst 0, 1) := by decide +kernel
theorem dX12_reset_1 : decode cX12_reset 1 = .ok (.istore_n 1, 1) := by decide +kernel
theorem dX12_reset_2 : decode cX12_reset 2 = .ok (.sipush 938, 3) := by decide +kernel
theorem dX12_reset_5 : decode cX12_reset 5 = .ok (.istore_n 2, 1) := by decide +kernel
theorem dX12_reset_6 : decode cX12_reset 6 = .ok (.iload_n 2, 1) := by decide +kernel
theorem dX12_reset_7 : decode cX12_reset 7 = .ok (.sipush 1178, 3) := by decide +kernel
theorem dX12_reset_10 : decode cX12_reset 10 = .ok (.if_icmp .ge 29, 3) := by decide +kernel
theorem dX12_reset_13 : decode cX12_reset 13 = .ok (.iload_n 1, 1) := by decide +kernel
theorem dX12_reset_14 : decode cX12_reset 14 = .ok (.ifCond .ne 13, 3) := by decide +kernel
theorem dX12_reset_17 : decode cX12_reset 17 = .ok (.aload_n 0, 1) := by decide +kernel
theorem dX12_reset_18 : decode cX12_reset 18 = .ok (.getfield 7, 3) := by decide +kernel
theorem dX12_reset_21 : decode cX12_reset 21 = .ok (.iload_n 2, 1) := by decide +kernel
theorem dX12_reset_22 : decode cX12_reset 22 = .ok (.iaload, 1) := by decide +kernel
theorem dX12_reset_23 : decode cX12_reset 23 = .ok (.iconst 1, 1) := by decide +kernel
theorem dX12_reset_24 : decode cX12_reset 24 = .ok (.if_icmp .ne 7, 3) := by decide +kernel
theorem dX12_reset_27 : decode cX12_reset 27 = .ok (.iconst 1, 1) := by decide +kernel
theorem dX12_reset_28 : decode cX12_reset 28 = .ok (.goto 4, 3) := by decide +kernel
theorem dX12_reset_31 : decode cX12_reset 31 = .ok (.iconst 0, 1) := by decide +kernel
theorem dX12_reset_32 : decode cX12_reset 32 = .ok (.istore_n 1, 1) := by decide +kernel
theorem dX12_reset_33 : decode cX12_reset 33 = .ok (.iinc 2 1, 3) := by decide +kernel
theorem dX12_reset_36 : decode cX12_reset 36 = .ok (.goto (-30), 3) := by decide +kernel
theorem dX12_reset_39 : decode cX12_reset 39 = .ok (.iload_n 1, 1) := by decide +kernel
theorem dX12_reset_40 : decode cX12_reset 40 = .ok (.ifCond .ne 6, 3) := by decide +kernel
theorem dX12_reset_43 : decode cX12_reset 43 = .ok (.bipush (-2), 2) := by decide +kernel
theorem dX12_reset_45 : decode cX12_reset 45 = .ok (.ireturn, 1) := by decide +kernel
theorem dX12_reset_46 : decode cX12_reset 46 = .ok (.aload_n 0, 1) := by decide +kernel
theorem dX12_reset_47 : decode cX12_reset 47 = .ok (.invokevirtual 148, 3) := by decide +kernel
theorem dX12_reset_50 : decode cX12_reset 50 = .ok (.aload_n 0, 1) := by decide +kernel
theorem dX12_reset_51 : decode cX12_reset 51 = .ok (.getfield 7, 3) := by decide +kernel
theorem dX12_reset_54 : decode cX12_reset 54 = .ok (.sipush 276, 3) := by decide +kernel
theorem dX12_reset_57 : decode cX12_reset 57 = .ok (.iaload, 1) := by decide +kernel
theorem dX12_reset_58 : decode cX12_reset 58 = .ok (.istore_n 2, 1) := by decide +kernel
theorem dX12_reset_59 : decode cX12_reset 59 = .ok (.aload_n 0, 1) := by decide +kernel
theorem dX12_reset_60 : decode cX12_reset 60 = .ok (.invokevirtual 34, 3) := by decide +kernel
theorem dX12_reset_63 : decode cX12_reset 63 = .ok (.iload_n 2, 1) := by decide +kernel
theorem dX12_reset_64 : decode cX12_reset 64 = .ok (.ireturn, 1) := by decide +kernel
theorem dX12_undo_0 : decode cX12_undo 0 = .ok (.aload_n 0, 1) := by decide +kernel
theorem dX12_undo_1 : decode cX12_undo 1 = .ok (.getfield 37, 3) := by decide +kernel
theorem dX12_undo_4 : decode cX12_undo 4 = .ok (.ifCond .ne 6, 3) := by decide +kernel
theorem dX12_undo_7 : decode cX12_undo 7 = .ok (.bipush (-2), 2) := by decide +kernel
theorem dX12_undo_9 : decode cX12_undo 9 = .ok (.ireturn, 1) := by decide +kernel
theorem dX12_undo_10 : decode cX12_undo 10 = .ok (.aload_n 0, 1) := by decide +kernel
theorem dX12_undo_11 : decode cX12_undo 11 = .ok (.dup, 1) := by decide +kernel
theorem dX12_undo_12 : decode cX12_undo 12 = .ok (.getfield 37, 3) := by decide +kernel
theorem dX12_undo_15 : decode cX12_undo 15 = .ok (.iconst 1, 1) := by decide +kernel
theorem dX12_undo_16 : decode cX12_undo 16 = .ok (.isub, 1) := by decide +kernel
theorem dX12_undo_17 : decode cX12_undo 17 = .ok (.putfield 37, 3) := by decide +kernel
theorem dX12_undo_20 : decode cX12_undo 20 = .ok (.iconst 0, 1) := by decide +kernel
theorem dX12_undo_21 : decode cX12_undo 21 = .ok (.istore_n 1, 1) := by decide +kernel
theorem dX12_undo_22 : decode cX12_undo 22 = .ok (.iload_n 1, 1) := by decide +kernel
theorem dX12_undo_23 : decode cX12_undo 23 = .ok (.sipush 1178, 3) := by decide +kernel
theorem dX12_undo_26 : decode cX12_undo 26 = .ok (.if_icmp .ge 30, 3) := by decide +kernel
theorem dX12_undo_29 : decode cX12_undo 29 = .ok (.aload_n 0, 1) := by decide +kernel
theorem dX12_undo_30 : decode cX12_undo 30 = .ok (.getfield 7, 3) := by decide +kernel
theorem dX12_undo_33 : decode cX12_undo 33 = .ok (.iload_n 1, 1) := by decide +kernel
theorem dX12_undo_34 : decode cX12_undo 34 = .ok (.aload_n 0, 1) := by decide +kernel
theorem dX12_undo_35 : decode cX12_undo 35 = .ok (.getfield 16, 3) := by decide +kernel
theorem dX12_undo_38 : decode cX12_undo 38 = .ok (.sipush 1178, 3) := by decide +kernel
theorem dX12_undo_41 : decode cX12_undo 41 = .ok (.aload_n 0, 1) := by decide +kernel
theorem dX12_undo_42 : decode cX12_undo 42 = .ok (.getfield 37, 3) := by decide +kernel
theorem dX12_undo_45 : decode cX12_undo 45 = .ok (.imul, 1) := by decide +kernel
theorem dX12_undo_46 : decode cX12_undo 46 = .ok (.iload_n 1, 1) := by decide +kernel
theorem dX12_undo_47 : decode cX12_undo 47 = .ok (.iadd, 1) := by decide +kernel
theorem dX12_undo_48 : decode cX12_undo 48 = .ok (.iaload, 1) := by decide +kernel
theorem dX12_undo_49 : decode cX12_undo 49 = .ok (.iastore, 1) := by decide +kernel
theorem dX12_undo_50 : decode cX12_undo 50 = .ok (.iinc 1 1, 3) := by decide +kernel
theorem dX12_undo_53 : decode cX12_undo 53 = .ok (.goto (-31), 3) := by decide +kernel
theorem dX12_undo_56 : decode cX12_undo 56 = .ok (.aload_n 0, 1) := by decide +kernel
theorem dX12_undo_57 : decode cX12_undo 57 = .ok (.getfield 37, 3) := by decide +kernel
theorem dX12_undo_60 : decode cX12_undo 60 = .ok (.ireturn, 1) := by decide +kernel
set_option maxRecDepth 20000 in
theorem ggX12_openPairs_X12_isOpen : GoodIn wsX12_openPairs wsX12_isOpen := goodIn_r _ [6, 1, 7, 8, 9, 5, 10, 11, 12, 13, 14, 15, 16, 17, 18, 19, 20, 21, 22, 23, 24, 25, 26] (by decide +kernel) (by decide +kernel)
set_option maxRecDepth 20000 in
theorem gX12_openPairs_X12_isOpen : GoodIn wsX12_openPairs (wsV RX12 187 RX12 yX12_isOpen wsX12_isOpen) := goodIn_app (goodIn_of _ (by decide +kernel)) ggX12_openPairs_X12_isOpen
theorem dX12_openPairs_0 : decode cX12_openPairs 0 = .ok (.iconst 0, 1) := by decide +kernel
theorem dX12_openPairs_1 : decode cX12_openPairs 1 = .ok (.istore_n 1, 1) := by decide +kernel
theorem dX12_openPairs_2 : decode cX12_openPairs 2 = .ok (.iconst 0, 1) := by decide +kernel
theorem dX12_openPairs_3 : decode cX12_openPairs 3 = .ok (.istore_n 2, 1) := by decide +kernel
theorem dX12_openPairs_4 : decode cX12_openPairs 4 = .ok (.iload_n 2, 1) := by decide +kernel
theorem dX12_openPairs_5 : decode cX12_openPairs 5 = .ok (.aload_n 0, 1) := by decide +kernel
theorem dX12_openPairs_6 : decode cX12_openPairs 6 = .ok (.getfield 7, 3) := by decide +kernel
theorem dX12_openPairs_9 : decode cX12_openPairs 9 = .ok (.sipush 276, 3) := by decide +kernel
theorem dX12_openPairs_12 : decode cX12_openPairs 12 = .ok (.iaload, 1) := by decide +kernel
theorem dX12_openPairs_13 : decode cX12_openPairs 13 = .ok (.if_icmp .ge 44, 3) := by decide +kernel
theorem dX12_openPairs_16 : decode cX12_openPairs 16 = .ok (.iconst 0, 1) := by decide +kernel
theorem dX12_openPairs_17 : decode cX12_openPairs 17 = .ok (.istore_n 3, 1) := by decide +kernel
theorem dX12_openPairs_18 : decode cX12_openPairs 18 = .ok (.iload_n 3, 1) := by decide +kernel
theorem dX12_openPairs_19 : decode cX12_openPairs 19 = .ok (.aload_n 0, 1) := by decide +kernel
theorem dX12_openPairs_20 : decode cX12_openPairs 20 = .ok (.getfield 7, 3) := by decide +kernel
theorem dX12_openPairs_23 : decode cX12_openPairs 23 = .ok (.iconst 4, 1) := by decide +kernel
theorem dX12_openPairs_24 : decode cX12_openPairs 24 = .ok (.iaload, 1) := by decide +kernel
theorem dX12_openPairs_25 : decode cX12_openPairs 25 = .ok (.if_icmp .ge 26, 3) := by decide +kernel
theorem dX12_openPairs_28 : decode cX12_openPairs 28 = .ok (.iload_n 1, 1) := by decide +kernel
theorem dX12_openPairs_29 : decode cX12_openPairs 29 = .ok (.aload_n 0, 1) := by decide +kernel
theorem dX12_openPairs_30 : decode cX12_openPairs 30 = .ok (.iload_n 2, 1) := by decide +kernel
theorem dX12_openPairs_31 : decode cX12_openPairs 31 = .ok (.iload_n 3, 1) := by decide +kernel
theorem dX12_openPairs_32 : decode cX12_openPairs 32 = .ok (.invokevirtual 187, 3) := by decide +kernel
theorem dX12_openPairs_35 : decode cX12_openPairs 35 = .ok (.ifCond .eq 7, 3) := by decide +kernel
theorem dX12_openPairs_38 : decode cX12_openPairs 38 = .ok (.iconst 1, 1) := by decide +kernel
theorem dX12_openPairs_39 : decode cX12_openPairs 39 = .ok (.goto 4, 3) := by decide +kernel
theorem dX12_openPairs_42 : decode cX12_openPairs 42 = .ok (.iconst 0, 1) := by decide +kernel
theorem dX12_openPairs_43 : decode cX12_openPairs 43 = .ok (.iadd, 1) := by decide +kernel
theorem dX12_openPairs_44 : decode cX12_openPairs 44 = .ok (.istore_n 1, 1) := by decide +kernel
theorem dX12_openPairs_45 : decode cX12_openPairs 45 = .ok (.iinc 3 1, 3) := by decide +kernel
theorem dX12_openPairs_48 : decode cX12_openPairs 48 = .ok (.goto (-30), 3) := by decide +kernel
theorem dX12_openPairs_51 : decode cX12_openPairs 51 = .ok (.iinc 2 1, 3) := by decide +kernel
theorem dX12_openPairs_54 : decode cX12_openPairs 54 = .ok (.goto (-50), 3) := by decide +kernel
theorem dX12_openPairs_57 : decode cX12_openPairs 57 = .ok (.iload_n 1, 1) := by decide +kernel
theorem dX12_openPairs_58 : decode cX12_openPairs 58 = .ok (.ireturn, 1) := by decide +kernel
theorem dX12_skippedPairs_0 : decode cX12_skippedPairs 0 = .ok (.aload_n 0, 1) := by decide +kernel
theorem dX12_skippedPairs_1 : decode cX12_skippedPairs 1 = .ok (.getfield 7, 3) := by decide +kernel
theorem dX12_skippedPairs_4 : decode cX12_skippedPairs 4 = .ok (.sipush 273, 3) := by decide +kernel
theorem dX12_skippedPairs_7 : decode cX12_skippedPairs 7 = .ok (.iaload, 1) := by decide +kernel
theorem dX12_skippedPairs_8 : decode cX12_skippedPairs 8 = .ok (.ireturn, 1) := by decide +kernel
theorem dX12_redundantPairs_0 : decode cX12_redundantPairs 0 = .ok (.aload_n 0, 1) := by decide +kernel
theorem dX12_redundantPairs_1 : decode cX12_redundantPairs 1 = .ok (.getfield 7, 3) := by decide +kernel
theorem dX12_redundantPairs_4 : decode cX12_redundantPairs 4 = .ok (.sipush 274, 3) := by decide +kernel
theorem dX12_redundantPairs_7 : decode cX12_redundantPairs 7 = .ok (.iaload, 1) := by decide +kernel
theorem dX12_redundantPairs_8 : decode cX12_redundantPairs 8 = .ok (.ireturn, 1) := by decide +kernel
theorem dX12_droppedPairs_0 : decode cX12_droppedPairs 0 = .ok (.aload_n 0, 1) := by decide +kernel
theorem dX12_droppedPairs_1 : decode cX12_droppedPairs 1 = .ok (.getfield 7, 3) := by decide +kernel
theorem dX12_droppedPairs_4 : decode cX12_droppedPairs 4 = .ok (.sipush 275, 3) := by decide +kernel
theorem dX12_droppedPairs_7 : decode cX12_droppedPairs 7 = .ok (.iaload, 1) := by decide +kernel
theorem dX12_droppedPairs_8 : decode cX12_droppedPairs 8 = .ok (.ireturn, 1) := by decide +kernel
set_option maxRecDepth 20000 in
theorem ggX12_isSequence_X12_in : GoodIn wsX12_isSequence wsX12_in := goodIn_r _ [5] (by decide +kernel) (by decide +kernel)
set_option maxRecDepth 20000 in
theorem gX12_isSequence_X12_in : GoodIn wsX12_isSequence (va_wsS RX12 60 yX12_in wsX12_in) := goodIn_app (goodIn_of _ (by decide +kernel)) ggX12_isSequence_X12_in
theorem dX12_isSequence_0 : decode cX12_isSequence 0 = .ok (.iload_n 1, 1) := by decide +kernel
theorem dX12_isSequence_1 : decode cX12_isSequence 1 = .ok (.iconst 0, 1) := by decide +kernel
theorem dX12_isSequence_2 : decode cX12_isSequence 2 = .ok (.aload_n 0, 1) := by decide +kernel
theorem dX12_isSequence_3 : decode cX12_isSequence 3 = .ok (.getfield 7, 3) := by decide +kernel
theorem dX12_isSequence_6 : decode cX12_isSequence 6 = .ok (.sipush 276, 3) := by decide +kernel
theorem dX12_isSequence_9 : decode cX12_isSequence 9 = .ok (.iaload, 1) := by decide +kernel
theorem dX12_isSequence_10 : decode cX12_isSequence 10 = .ok (.iconst 1, 1) := by decide +kernel
theorem dX12_isSequence_11 : decode cX12_isSequence 11 = .ok (.isub, 1) := by decide +kernel
theorem dX12_isSequence_12 : decode cX12_isSequence 12 = .ok (.invokestatic 60, 3) := by decide +kernel
theorem dX12_isSequence_15 : decode cX12_isSequence 15 = .ok (.ireturn, 1) := by decide +kernel
theorem dX12_poolSize_0 : decode cX12_poolSize 0 = .ok (.aload_n 0, 1) := by decide +kernel
theorem dX12_poolSize_1 : decode cX12_poolSize 1 = .ok (.getfield 7, 3) := by decide +kernel
theorem dX12_poolSize_4 : decode cX12_poolSize 4 = .ok (.sipush 276, 3) := by decide +kernel
theorem dX12_poolSize_7 : decode cX12_poolSize 7 = .ok (.iaload, 1) := by decide +kernel
theorem dX12_poolSize_8 : decode cX12_poolSize 8 = .ok (.ireturn, 1) := by decide +kernel
set_option maxRecDepth 20000 in
theorem ggX12_sequenceLength_X12_isSequence : GoodIn wsX12_sequenceLength wsX12_isSequence := goodIn_r _ [5, 6, 7, 8, 4, 9, 14, 15, 16, 17, 18, 19, 20, 21, 22, 23, 24, 25, 26, 27, 28, 29] (by decide +kernel) (by decide +kernel)
set_option maxRecDepth 20000 in
theorem gX12_sequenceLength_X12_isSequence : GoodIn wsX12_sequenceLength (wsV RX12 209 RX12 yX12_isSequence wsX12_isSequence) := goodIn_app (goodIn_of _ (by decide +kernel)) ggX12_sequenceLength_X12_isSequence
set_option maxRecDepth 20000 in
theorem ggX12_sequenceLength_X12_lengthOf : GoodIn wsX12_sequenceLength wsX12_lengthOf := goodIn_r _ [13, 6, 14, 15, 16, 17, 18, 19, 20, 21, 22, 23, 24, 25, 26, 27, 28, 29] (by decide +kernel) (by decide +kernel)
set_option maxRecDepth 20000 in
theorem gX12_sequenceLength_X12_lengthOf : GoodIn wsX12_sequenceLength (wsV RX12 180 RX12 yX12_lengthOf wsX12_lengthOf) := goodIn_app (goodIn_of _ (by decide +kernel)) ggX12_sequenceLength_X12_lengthOf
theorem dX12_sequenceLength_0 : decode cX12_sequenceLength 0 = .ok (.aload_n 0, 1) := by decide +kernel
theorem dX12_sequenceLength_1 : decode cX12_sequenceLength 1 = .ok (.iload_n 1, 1) := by decide +kernel
theorem dX12_sequenceLength_2 : decode cX12_sequenceLength 2 = .ok (.invokevirtual 209, 3) := by decide +kernel
theorem dX12_sequenceLength_5 : decode cX12_sequenceLength 5 = .ok (.ifCond .eq 14, 3) := by decide +kernel
theorem dX12_sequenceLength_8 : decode cX12_sequenceLength 8 = .ok (.aload_n 0, 1) := by decide +kernel
theorem dX12_sequenceLength_9 : decode cX12_sequenceLength 9 = .ok (.sipush 278, 3) := by decide +kernel
theorem dX12_sequenceLength_12 : decode cX12_sequenceLength 12 = .ok (.iload_n 1, 1) := by decide +kernel
theorem dX12_sequenceLength_13 : decode cX12_sequenceLength 13 = .ok (.invokevirtual 180, 3) := by decide +kernel
theorem dX12_sequenceLength_16 : decode cX12_sequenceLength 16 = .ok (.goto 4, 3) := by decide +kernel
theorem dX12_sequenceLength_19 : decode cX12_sequenceLength 19 = .ok (.iconst (-1), 1) := by decide +kernel
theorem dX12_sequenceLength_20 : decode cX12_sequenceLength 20 = .ok (.ireturn, 1) := by decide +kernel
set_option maxRecDepth 20000 in
theorem ggX12_sequenceCall_X12_isSequence : GoodIn wsX12_sequenceCall wsX12_isSequence := goodIn_r _ [5, 6, 7, 8, 4, 9, 18, 19, 20, 21, 22, 23, 24, 25, 26, 27, 28, 29, 30, 31, 32, 33] (by decide +kernel) (by decide +kernel)
set_option maxRecDepth 20000 in
theorem gX12_sequenceCall_X12_isSequence : GoodIn wsX12_sequenceCall (wsV RX12 209 RX12 yX12_isSequence wsX12_isSequence) := goodIn_app (goodIn_of _ (by decide +kernel)) ggX12_sequenceCall_X12_isSequence
set_option maxRecDepth 20000 in
theorem ggX12_sequenceCall_X12_lengthOf : GoodIn wsX12_sequenceCall wsX12_lengthOf := goodIn_r _ [13, 6, 18, 19, 20, 21, 22, 23, 24, 25, 26, 27, 28, 29, 30, 31, 32, 33] (by decide +kernel) (by decide +kernel)
set_option maxRecDepth 20000 in
theorem gX12_sequenceCall_X12_lengthOf : GoodIn wsX12_sequenceCall (wsV RX12 180 RX12 yX12_lengthOf wsX12_lengthOf) := goodIn_app (goodIn_of _ (by decide +kernel)) ggX12_sequenceCall_X12_lengthOf
set_option maxRecDepth 20000 in
theorem ggX12_sequenceCall_X12_callOf : GoodIn wsX12_sequenceCall wsX12_callOf := goodIn_r _ [17, 6, 18, 19, 20, 21, 22, 23, 24, 25, 26, 27, 28, 29, 30, 31, 32, 33] (by decide +kernel) (by decide +kernel)
set_option maxRecDepth 20000 in
theorem gX12_sequenceCall_X12_callOf : GoodIn wsX12_sequenceCall (wsV RX12 183 RX12 yX12_callOf wsX12_callOf) := goodIn_app (goodIn_of _ (by decide +kernel)) ggX12_sequenceCall_X12_callOf
theorem dX12_sequenceCall_0 : decode cX12_sequenceCall 0 = .ok (.aload_n 0, 1) := by decide +kernel
theorem dX12_sequenceCall_1 : decode cX12_sequenceCall 1 = .ok (.iload_n 1, 1) := by decide +kernel
theorem dX12_sequenceCall_2 : decode cX12_sequenceCall 2 = .ok (.invokevirtual 209, 3) := by decide +kernel
theorem dX12_sequenceCall_5 : decode cX12_sequenceCall 5 = .ok (.ifCond .eq 7, 3) := by decide +kernel
theorem dX12_sequenceCall_8 : decode cX12_sequenceCall 8 = .ok (.iload_n 2, 1) := by decide +kernel
theorem dX12_sequenceCall_9 : decode cX12_sequenceCall 9 = .ok (.ifCond .ge 5, 3) := by decide +kernel
theorem dX12_sequenceCall_12 : decode cX12_sequenceCall 12 = .ok (.iconst (-1), 1) := by decide +kernel
theorem dX12_sequenceCall_13 : decode cX12_sequenceCall 13 = .ok (.ireturn, 1) := by decide +kernel
theorem dX12_sequenceCall_14 : decode cX12_sequenceCall 14 = .ok (.iload_n 2, 1) := by decide +kernel
theorem dX12_sequenceCall_15 : decode cX12_sequenceCall 15 = .ok (.aload_n 0, 1) := by decide +kernel
theorem dX12_sequenceCall_16 : decode cX12_sequenceCall 16 = .ok (.sipush 278, 3) := by decide +kernel
theorem dX12_sequenceCall_19 : decode cX12_sequenceCall 19 = .ok (.iload_n 1, 1) := by decide +kernel
theorem dX12_sequenceCall_20 : decode cX12_sequenceCall 20 = .ok (.invokevirtual 180, 3) := by decide +kernel
theorem dX12_sequenceCall_23 : decode cX12_sequenceCall 23 = .ok (.if_icmp .ge 15, 3) := by decide +kernel
theorem dX12_sequenceCall_26 : decode cX12_sequenceCall 26 = .ok (.aload_n 0, 1) := by decide +kernel
theorem dX12_sequenceCall_27 : decode cX12_sequenceCall 27 = .ok (.sipush 278, 3) := by decide +kernel
theorem dX12_sequenceCall_30 : decode cX12_sequenceCall 30 = .ok (.iload_n 1, 1) := by decide +kernel
theorem dX12_sequenceCall_31 : decode cX12_sequenceCall 31 = .ok (.iload_n 2, 1) := by decide +kernel
theorem dX12_sequenceCall_32 : decode cX12_sequenceCall 32 = .ok (.invokevirtual 183, 3) := by decide +kernel
theorem dX12_sequenceCall_35 : decode cX12_sequenceCall 35 = .ok (.goto 6, 3) := by decide +kernel
theorem dX12_sequenceCall_38 : decode cX12_sequenceCall 38 = .ok (.sipush (-1000), 3) := by decide +kernel
theorem dX12_sequenceCall_41 : decode cX12_sequenceCall 41 = .ok (.ireturn, 1) := by decide +kernel
set_option maxRecDepth 20000 in
theorem ggX12_finalValue_X12_isSequence : GoodIn wsX12_finalValue wsX12_isSequence := goodIn_r _ [6, 7, 8, 9, 5, 10, 56, 57, 58, 59, 60, 61, 62, 63, 64, 65, 66, 67, 68, 69, 70, 71] (by decide +kernel) (by decide +kernel)
set_option maxRecDepth 20000 in
theorem gX12_finalValue_X12_isSequence : GoodIn wsX12_finalValue (wsV RX12 209 RX12 yX12_isSequence wsX12_isSequence) := goodIn_app (goodIn_of _ (by decide +kernel)) ggX12_finalValue_X12_isSequence
set_option maxRecDepth 20000 in
theorem ggX12_finalValue_X12_in : GoodIn wsX12_finalValue wsX12_in := goodIn_r _ [10] (by decide +kernel) (by decide +kernel)
set_option maxRecDepth 20000 in
theorem gX12_finalValue_X12_in : GoodIn wsX12_finalValue (va_wsS RX12 60 yX12_in wsX12_in) := goodIn_app (goodIn_of _ (by decide +kernel)) ggX12_finalValue_X12_in
set_option maxRecDepth 20000 in
theorem ggX12_finalValue_X12_execute : GoodIn wsX12_finalValue wsX12_execute := goodIn_r _ [14, 15, 16, 17, 5, 18, 1, 7, 19, 20, 21, 22, 23, 24, 25, 26, 27, 28, 29, 30, 31, 32, 33, 34, 35, 36, 37, 38, 39, 40, 41, 42, 43, 44, 45, 46, 47, 48, 49, 50, 51, 52, 53, 54, 55, 8, 9, 10, 56, 57, 58, 59, 60, 61, 62, 63, 64, 65, 66, 67, 68, 69, 70, 71] (by decide +kernel) (by decide +kernel)
set_option maxRecDepth 20000 in
theorem gX12_finalValue_X12_execute : GoodIn wsX12_finalValue (wsV RX12 190 RX12 yX12_execute wsX12_execute) := goodIn_app (goodIn_of _ (by decide +kernel)) ggX12_finalValue_X12_execute
theorem dX12_finalValue_0 : decode cX12_finalValue 0 = .ok (.aload_n 0, 1) := by decide +kernel
theorem dX12_finalValue_1 : decode cX12_finalValue 1 = .ok (.iload_n 1, 1) := by decide +kernel
theorem dX12_finalValue_2 : decode cX12_finalValue 2 = .ok (.invokevirtual 209, 3) := by decide +kernel
theorem dX12_finalValue_5 : decode cX12_finalValue 5 = .ok (.ifCond .eq 12, 3) := by decide +kernel
theorem dX12_finalValue_8 : decode cX12_finalValue 8 = .ok (.iload_n 2, 1) := by decide +kernel
theorem dX12_finalValue_9 : decode cX12_finalValue 9 = .ok (.iconst 0, 1) := by decide +kernel
theorem dX12_finalValue_10 : decode cX12_finalValue 10 = .ok (.iconst 2, 1) := by decide +kernel
theorem dX12_finalValue_11 : decode cX12_finalValue 11 = .ok (.invokestatic 60, 3) := by decide +kernel
theorem dX12_finalValue_14 : decode cX12_finalValue 14 = .ok (.ifCond .ne 7, 3) := by decide +kernel
theorem dX12_finalValue_17 : decode cX12_finalValue 17 = .ok (.sipush (-1000), 3) := by decide +kernel
theorem dX12_finalValue_20 : decode cX12_finalValue 20 = .ok (.ireturn, 1) := by decide +kernel
theorem dX12_finalValue_21 : decode cX12_finalValue 21 = .ok (.aload_n 0, 1) := by decide +kernel
theorem dX12_finalValue_22 : decode cX12_finalValue 22 = .ok (.iload_n 1, 1) := by decide +kernel
theorem dX12_finalValue_23 : decode cX12_finalValue 23 = .ok (.invokevirtual 190, 3) := by decide +kernel
theorem dX12_finalValue_26 : decode cX12_finalValue 26 = .ok (.aload_n 0, 1) := by decide +kernel
theorem dX12_finalValue_27 : decode cX12_finalValue 27 = .ok (.getfield 22, 3) := by decide +kernel
theorem dX12_finalValue_30 : decode cX12_finalValue 30 = .ok (.iload_n 2, 1) := by decide +kernel
theorem dX12_finalValue_31 : decode cX12_finalValue 31 = .ok (.iaload, 1) := by decide +kernel
theorem dX12_finalValue_32 : decode cX12_finalValue 32 = .ok (.ireturn, 1) := by decide +kernel
set_option maxRecDepth 20000 in
theorem ggX12_enabledMethods_X12_isSequence : GoodIn wsX12_enabledMethods wsX12_isSequence := goodIn_r _ [6, 1, 7, 8, 5, 9, 56, 57, 58, 59, 60, 61, 62, 63, 64, 65, 66, 67, 68, 69, 70, 71] (by decide +kernel) (by decide +kernel)
set_option maxRecDepth 20000 in
theorem gX12_enabledMethods_X12_isSequence : GoodIn wsX12_enabledMethods (wsV RX12 209 RX12 yX12_isSequence wsX12_isSequence) := goodIn_app (goodIn_of _ (by decide +kernel)) ggX12_enabledMethods_X12_isSequence
set_option maxRecDepth 20000 in
theorem ggX12_enabledMethods_X12_execute : GoodIn wsX12_enabledMethods wsX12_execute := goodIn_r _ [13, 14, 15, 16, 5, 17, 18, 1, 19, 20, 21, 22, 23, 24, 25, 26, 27, 28, 29, 30, 31, 32, 33, 34, 35, 36, 37, 38, 39, 40, 41, 42, 43, 44, 45, 46, 47, 48, 49, 50, 51, 52, 53, 54, 55, 7, 8, 9, 56, 57, 58, 59, 60, 61, 62, 63, 64, 65, 66, 67, 68, 69, 70, 71] (by decide +kernel) (by decide +kernel)
set_option maxRecDepth 20000 in
theorem gX12_enabledMethods_X12_execute : GoodIn wsX12_enabledMethods (wsV RX12 190 RX12 yX12_execute wsX12_execute) := goodIn_app (goodIn_of _ (by decide +kernel)) ggX12_enabledMethods_X12_execute
set_option maxRecDepth 20000 in
theorem ggX12_enabledMethods_X12_areHeld : GoodIn wsX12_enabledMethods wsX12_areHeld := goodIn_r _ [35, 1, 36, 37, 38, 5, 39, 40, 41, 42, 43, 44, 45, 46, 47, 48, 49, 50, 51, 31, 18, 56, 57, 58, 59, 60, 61, 62, 63, 64, 65, 66, 67, 68, 69, 70, 71] (by decide +kernel) (by decide +kernel)
set_option maxRecDepth 20000 in
theorem gX12_enabledMethods_X12_areHeld : GoodIn wsX12_enabledMethods (wsV RX12 167 RX12 yX12_areHeld wsX12_areHeld) := goodIn_app (goodIn_of _ (by decide +kernel)) ggX12_enabledMethods_X12_areHeld
theorem dX12_enabledMethods_0 : decode cX12_enabledMethods 0 = .ok (.aload_n 0, 1) := by decide +kernel
theorem dX12_enabledMethods_1 : decode cX12_enabledMethods 1 = .ok (.iload_n 1, 1) := by decide +kernel
theorem dX12_enabledMethods_2 : decode cX12_enabledMethods 2 = .ok (.invokevirtual 209, 3) := by decide +kernel
theorem dX12_enabledMethods_5 : decode cX12_enabledMethods 5 = .ok (.ifCond .ne 5, 3) := by decide +kernel
theorem dX12_enabledMethods_8 : decode cX12_enabledMethods 8 = .ok (.iconst (-1), 1) := by decide +kernel
theorem dX12_enabledMethods_9 : decode cX12_enabledMethods 9 = .ok (.ireturn, 1) := by decide +kernel
theorem dX12_enabledMethods_10 : decode cX12_enabledMethods 10 = .ok (.aload_n 0, 1) := by decide +kernel
theorem dX12_enabledMethods_11 : decode cX12_enabledMethods 11 = .ok (.iload_n 1, 1) := by decide +kernel
theorem dX12_enabledMethods_12 : decode cX12_enabledMethods 12 = .ok (.invokevirtual 190, 3) := by decide +kernel
theorem dX12_enabledMethods_15 : decode cX12_enabledMethods 15 = .ok (.iconst 0, 1) := by decide +kernel
theorem dX12_enabledMethods_16 : decode cX12_enabledMethods 16 = .ok (.istore_n 2, 1) := by decide +kernel
theorem dX12_enabledMethods_17 : decode cX12_enabledMethods 17 = .ok (.iconst 0, 1) := by decide +kernel
theorem dX12_enabledMethods_18 : decode cX12_enabledMethods 18 = .ok (.istore_n 3, 1) := by decide +kernel
theorem dX12_enabledMethods_19 : decode cX12_enabledMethods 19 = .ok (.iload_n 3, 1) := by decide +kernel
theorem dX12_enabledMethods_20 : decode cX12_enabledMethods 20 = .ok (.aload_n 0, 1) := by decide +kernel
theorem dX12_enabledMethods_21 : decode cX12_enabledMethods 21 = .ok (.getfield 7, 3) := by decide +kernel
theorem dX12_enabledMethods_24 : decode cX12_enabledMethods 24 = .ok (.iconst 4, 1) := by decide +kernel
theorem dX12_enabledMethods_25 : decode cX12_enabledMethods 25 = .ok (.iaload, 1) := by decide +kernel
theorem dX12_enabledMethods_26 : decode cX12_enabledMethods 26 = .ok (.if_icmp .ge 28, 3) := by decide +kernel
theorem dX12_enabledMethods_29 : decode cX12_enabledMethods 29 = .ok (.iload_n 2, 1) := by decide +kernel
theorem dX12_enabledMethods_30 : decode cX12_enabledMethods 30 = .ok (.aload_n 0, 1) := by decide +kernel
theorem dX12_enabledMethods_31 : decode cX12_enabledMethods 31 = .ok (.iload_n 3, 1) := by decide +kernel
theorem dX12_enabledMethods_32 : decode cX12_enabledMethods 32 = .ok (.iconst 1, 1) := by decide +kernel
theorem dX12_enabledMethods_33 : decode cX12_enabledMethods 33 = .ok (.invokevirtual 167, 3) := by decide +kernel
theorem dX12_enabledMethods_36 : decode cX12_enabledMethods 36 = .ok (.ifCond .eq 9, 3) := by decide +kernel
theorem dX12_enabledMethods_39 : decode cX12_enabledMethods 39 = .ok (.iconst 1, 1) := by decide +kernel
theorem dX12_enabledMethods_40 : decode cX12_enabledMethods 40 = .ok (.iload_n 3, 1) := by decide +kernel
theorem dX12_enabledMethods_41 : decode cX12_enabledMethods 41 = .ok (.ishl, 1) := by decide +kernel
theorem dX12_enabledMethods_42 : decode cX12_enabledMethods 42 = .ok (.goto 4, 3) := by decide +kernel
theorem dX12_enabledMethods_45 : decode cX12_enabledMethods 45 = .ok (.iconst 0, 1) := by decide +kernel
theorem dX12_enabledMethods_46 : decode cX12_enabledMethods 46 = .ok (.ior, 1) := by decide +kernel
theorem dX12_enabledMethods_47 : decode cX12_enabledMethods 47 = .ok (.istore_n 2, 1) := by decide +kernel
theorem dX12_enabledMethods_48 : decode cX12_enabledMethods 48 = .ok (.iinc 3 1, 3) := by decide +kernel
theorem dX12_enabledMethods_51 : decode cX12_enabledMethods 51 = .ok (.goto (-32), 3) := by decide +kernel
theorem dX12_enabledMethods_54 : decode cX12_enabledMethods 54 = .ok (.iload_n 2, 1) := by decide +kernel
theorem dX12_enabledMethods_55 : decode cX12_enabledMethods 55 = .ok (.ireturn, 1) := by decide +kernel
set_option maxRecDepth 20000 in
theorem ggX12_findState_X12_findTarget : GoodIn wsX12_findState wsX12_findTarget := goodIn_r _ [6, 7, 8, 1, 9, 10, 11, 5, 12, 13, 14, 15, 16, 17, 18, 19, 20, 21, 22, 23, 24, 25, 26, 27, 28, 29, 30, 31, 32, 33, 34, 35, 36, 37, 38, 39, 40, 41, 42, 43, 44, 45, 46, 47, 48, 49, 50, 51, 52, 53, 54, 55, 56, 57, 58, 59, 60, 61, 62, 63, 64, 65, 66, 67, 68, 69, 70, 71, 72] (by decide +kernel) (by decide +kernel)
set_option maxRecDepth 20000 in
theorem gX12_findState_X12_findTarget : GoodIn wsX12_findState (wsV RX12 200 RX12 yX12_findTarget wsX12_findTarget) := goodIn_app (goodIn_of _ (by decide +kernel)) ggX12_findState_X12_findTarget
theorem dX12_findState_0 : decode cX12_findState 0 = .ok (.aload_n 0, 1) := by decide +kernel
theorem dX12_findState_1 : decode cX12_findState 1 = .ok (.getfield 28, 3) := by decide +kernel
theorem dX12_findState_4 : decode cX12_findState 4 = .ok (.iconst 0, 1) := by decide +kernel
theorem dX12_findState_5 : decode cX12_findState 5 = .ok (.iload_n 1, 1) := by decide +kernel
theorem dX12_findState_6 : decode cX12_findState 6 = .ok (.iastore, 1) := by decide +kernel
theorem dX12_findState_7 : decode cX12_findState 7 = .ok (.aload_n 0, 1) := by decide +kernel
theorem dX12_findState_8 : decode cX12_findState 8 = .ok (.getfield 28, 3) := by decide +kernel
theorem dX12_findState_11 : decode cX12_findState 11 = .ok (.iconst 1, 1) := by decide +kernel
theorem dX12_findState_12 : decode cX12_findState 12 = .ok (.iload_n 2, 1) := by decide +kernel
theorem dX12_findState_13 : decode cX12_findState 13 = .ok (.iastore, 1) := by decide +kernel
theorem dX12_findState_14 : decode cX12_findState 14 = .ok (.aload_n 0, 1) := by decide +kernel
theorem dX12_findState_15 : decode cX12_findState 15 = .ok (.getfield 28, 3) := by decide +kernel
theorem dX12_findState_18 : decode cX12_findState 18 = .ok (.iconst 2, 1) := by decide +kernel
theorem dX12_findState_19 : decode cX12_findState 19 = .ok (.iload_n 3, 1) := by decide +kernel
theorem dX12_findState_20 : decode cX12_findState 20 = .ok (.iastore, 1) := by decide +kernel
theorem dX12_findState_21 : decode cX12_findState 21 = .ok (.aload_n 0, 1) := by decide +kernel
theorem dX12_findState_22 : decode cX12_findState 22 = .ok (.invokevirtual 200, 3) := by decide +kernel
theorem dX12_findState_25 : decode cX12_findState 25 = .ok (.ireturn, 1) := by decide +kernel
set_option maxRecDepth 20000 in
theorem ggX12_isFailure_X12_in : GoodIn wsX12_isFailure wsX12_in := goodIn_r _ [5] (by decide +kernel) (by decide +kernel)
set_option maxRecDepth 20000 in
theorem gX12_isFailure_X12_in : GoodIn wsX12_isFailure (va_wsS RX12 60 yX12_in wsX12_in) := goodIn_app (goodIn_of _ (by decide +kernel)) ggX12_isFailure_X12_in
theorem dX12_isFailure_0 : decode cX12_isFailure 0 = .ok (.iload_n 1, 1) := by decide +kernel
theorem dX12_isFailure_1 : decode cX12_isFailure 1 = .ok (.iconst 0, 1) := by decide +kernel
theorem dX12_isFailure_2 : decode cX12_isFailure 2 = .ok (.aload_n 0, 1) := by decide +kernel
theorem dX12_isFailure_3 : decode cX12_isFailure 3 = .ok (.getfield 7, 3) := by decide +kernel
theorem dX12_isFailure_6 : decode cX12_isFailure 6 = .ok (.sipush 277, 3) := by decide +kernel
theorem dX12_isFailure_9 : decode cX12_isFailure 9 = .ok (.iaload, 1) := by decide +kernel
theorem dX12_isFailure_10 : decode cX12_isFailure 10 = .ok (.iconst 1, 1) := by decide +kernel
theorem dX12_isFailure_11 : decode cX12_isFailure 11 = .ok (.isub, 1) := by decide +kernel
theorem dX12_isFailure_12 : decode cX12_isFailure 12 = .ok (.invokestatic 60, 3) := by decide +kernel
theorem dX12_isFailure_15 : decode cX12_isFailure 15 = .ok (.ireturn, 1) := by decide +kernel
theorem dX12_failureCount_0 : decode cX12_failureCount 0 = .ok (.aload_n 0, 1) := by decide +kernel
theorem dX12_failureCount_1 : decode cX12_failureCount 1 = .ok (.getfield 7, 3) := by decide +kernel
theorem dX12_failureCount_4 : decode cX12_failureCount 4 = .ok (.sipush 277, 3) := by decide +kernel
theorem dX12_failureCount_7 : decode cX12_failureCount 7 = .ok (.iaload, 1) := by decide +kernel
theorem dX12_failureCount_8 : decode cX12_failureCount 8 = .ok (.ireturn, 1) := by decide +kernel
set_option maxRecDepth 20000 in
theorem ggX12_failureLength_X12_isFailure : GoodIn wsX12_failureLength wsX12_isFailure := goodIn_r _ [5, 6, 7, 8, 4, 9, 14, 15, 16, 17, 18, 19, 20, 21, 22, 23, 24, 25, 26, 27, 28, 29] (by decide +kernel) (by decide +kernel)
set_option maxRecDepth 20000 in
theorem gX12_failureLength_X12_isFailure : GoodIn wsX12_failureLength (wsV RX12 212 RX12 yX12_isFailure wsX12_isFailure) := goodIn_app (goodIn_of _ (by decide +kernel)) ggX12_failureLength_X12_isFailure
set_option maxRecDepth 20000 in
theorem ggX12_failureLength_X12_lengthOf : GoodIn wsX12_failureLength wsX12_lengthOf := goodIn_r _ [13, 6, 14, 15, 16, 17, 18, 19, 20, 21, 22, 23, 24, 25, 26, 27, 28, 29] (by decide +kernel) (by decide +kernel)
set_option maxRecDepth 20000 in
theorem gX12_failureLength_X12_lengthOf : GoodIn wsX12_failureLength (wsV RX12 180 RX12 yX12_lengthOf wsX12_lengthOf) := goodIn_app (goodIn_of _ (by decide +kernel)) ggX12_failureLength_X12_lengthOf
theorem dX12_failureLength_0 : decode cX12_failureLength 0 = .ok (.aload_n 0, 1) := by decide +kernel
theorem dX12_failureLength_1 : decode cX12_failureLength 1 = .ok (.iload_n 1, 1) := by decide +kernel
theorem dX12_failureLength_2 : decode cX12_failureLength 2 = .ok (.invokevirtual 212, 3) := by decide +kernel
theorem dX12_failureLength_5 : decode cX12_failureLength 5 = .ok (.ifCond .eq 14, 3) := by decide +kernel
theorem dX12_failureLength_8 : decode cX12_failureLength 8 = .ok (.aload_n 0, 1) := by decide +kernel
theorem dX12_failureLength_9 : decode cX12_failureLength 9 = .ok (.sipush 718, 3) := by decide +kernel
theorem dX12_failureLength_12 : decode cX12_failureLength 12 = .ok (.iload_n 1, 1) := by decide +kernel
theorem dX12_failureLength_13 : decode cX12_failureLength 13 = .ok (.invokevirtual 180, 3) := by decide +kernel
theorem dX12_failureLength_16 : decode cX12_failureLength 16 = .ok (.goto 4, 3) := by decide +kernel
theorem dX12_failureLength_19 : decode cX12_failureLength 19 = .ok (.iconst (-1), 1) := by decide +kernel
theorem dX12_failureLength_20 : decode cX12_failureLength 20 = .ok (.ireturn, 1) := by decide +kernel
set_option maxRecDepth 20000 in
theorem ggX12_failureCall_X12_isFailure : GoodIn wsX12_failureCall wsX12_isFailure := goodIn_r _ [5, 6, 7, 8, 4, 9, 18, 19, 20, 21, 22, 23, 24, 25, 26, 27, 28, 29, 30, 31, 32, 33] (by decide +kernel) (by decide +kernel)
set_option maxRecDepth 20000 in
theorem gX12_failureCall_X12_isFailure : GoodIn wsX12_failureCall (wsV RX12 212 RX12 yX12_isFailure wsX12_isFailure) := goodIn_app (goodIn_of _ (by decide +kernel)) ggX12_failureCall_X12_isFailure
set_option maxRecDepth 20000 in
theorem ggX12_failureCall_X12_lengthOf : GoodIn wsX12_failureCall wsX12_lengthOf := goodIn_r _ [13, 6, 18, 19, 20, 21, 22, 23, 24, 25, 26, 27, 28, 29, 30, 31, 32, 33] (by decide +kernel) (by decide +kernel)
set_option maxRecDepth 20000 in
theorem gX12_failureCall_X12_lengthOf : GoodIn wsX12_failureCall (wsV RX12 180 RX12 yX12_lengthOf wsX12_lengthOf) := goodIn_app (goodIn_of _ (by decide +kernel)) ggX12_failureCall_X12_lengthOf
set_option maxRecDepth 20000 in
theorem ggX12_failureCall_X12_callOf : GoodIn wsX12_failureCall wsX12_callOf := goodIn_r _ [17, 6, 18, 19, 20, 21, 22, 23, 24, 25, 26, 27, 28, 29, 30, 31, 32, 33] (by decide +kernel) (by decide +kernel)
set_option maxRecDepth 20000 in
theorem gX12_failureCall_X12_callOf : GoodIn wsX12_failureCall (wsV RX12 183 RX12 yX12_callOf wsX12_callOf) := goodIn_app (goodIn_of _ (by decide +kernel)) ggX12_failureCall_X12_callOf
theorem dX12_failureCall_0 : decode cX12_failureCall 0 = .ok (.aload_n 0, 1) := by decide +kernel
theorem dX12_failureCall_1 : decode cX12_failureCall 1 = .ok (.iload_n 1, 1) := by decide +kernel
theorem dX12_failureCall_2 : decode cX12_failureCall 2 = .ok (.invokevirtual 212, 3) := by decide +kernel
theorem dX12_failureCall_5 : decode cX12_failureCall 5 = .ok (.ifCond .eq 7, 3) := by decide +kernel
theorem dX12_failureCall_8 : decode cX12_failureCall 8 = .ok (.iload_n 2, 1) := by decide +kernel
theorem dX12_failureCall_9 : decode cX12_failureCall 9 = .ok (.ifCond .ge 5, 3) := by decide +kernel
theorem dX12_failureCall_12 : decode cX12_failureCall 12 = .ok (.iconst (-1), 1) := by decide +kernel
theorem dX12_failureCall_13 : decode cX12_failureCall 13 = .ok (.ireturn, 1) := by decide +kernel
theorem dX12_failureCall_14 : decode cX12_failureCall 14 = .ok (.iload_n 2, 1) := by decide +kernel
theorem dX12_failureCall_15 : decode cX12_failureCall 15 = .ok (.aload_n 0, 1) := by decide +kernel
theorem dX12_failureCall_16 : decode cX12_failureCall 16 = .ok (.sipush 718, 3) := by decide +kernel
theorem dX12_failureCall_19 : decode cX12_failureCall 19 = .ok (.iload_n 1, 1) := by decide +kernel
theorem dX12_failureCall_20 : decode cX12_failureCall 20 = .ok (.invokevirtual 180, 3) := by decide +kernel
theorem dX12_failureCall_23 : decode cX12_failureCall 23 = .ok (.if_icmp .ge 15, 3) := by decide +kernel
theorem dX12_failureCall_26 : decode cX12_failureCall 26 = .ok (.aload_n 0, 1) := by decide +kernel
theorem dX12_failureCall_27 : decode cX12_failureCall 27 = .ok (.sipush 718, 3) := by decide +kernel
theorem dX12_failureCall_30 : decode cX12_failureCall 30 = .ok (.iload_n 1, 1) := by decide +kernel
theorem dX12_failureCall_31 : decode cX12_failureCall 31 = .ok (.iload_n 2, 1) := by decide +kernel
theorem dX12_failureCall_32 : decode cX12_failureCall 32 = .ok (.invokevirtual 183, 3) := by decide +kernel
theorem dX12_failureCall_35 : decode cX12_failureCall 35 = .ok (.goto 6, 3) := by decide +kernel
theorem dX12_failureCall_38 : decode cX12_failureCall 38 = .ok (.sipush (-1000), 3) := by decide +kernel
theorem dX12_failureCall_41 : decode cX12_failureCall 41 = .ok (.ireturn, 1) := by decide +kernel
theorem dX12_verdictOf_0 : decode cX12_verdictOf 0 = .ok (.aload_n 0, 1) := by decide +kernel
theorem dX12_verdictOf_1 : decode cX12_verdictOf 1 = .ok (.getfield 7, 3) := by decide +kernel
theorem dX12_verdictOf_4 : decode cX12_verdictOf 4 = .ok (.sipush 718, 3) := by decide +kernel
theorem dX12_verdictOf_7 : decode cX12_verdictOf 7 = .ok (.bipush 11, 2) := by decide +kernel
theorem dX12_verdictOf_9 : decode cX12_verdictOf 9 = .ok (.iload_n 1, 1) := by decide +kernel
theorem dX12_verdictOf_10 : decode cX12_verdictOf 10 = .ok (.imul, 1) := by decide +kernel
theorem dX12_verdictOf_11 : decode cX12_verdictOf 11 = .ok (.iadd, 1) := by decide +kernel
theorem dX12_verdictOf_12 : decode cX12_verdictOf 12 = .ok (.bipush 11, 2) := by decide +kernel
theorem dX12_verdictOf_14 : decode cX12_verdictOf 14 = .ok (.iadd, 1) := by decide +kernel
theorem dX12_verdictOf_15 : decode cX12_verdictOf 15 = .ok (.iconst 1, 1) := by decide +kernel
theorem dX12_verdictOf_16 : decode cX12_verdictOf 16 = .ok (.isub, 1) := by decide +kernel
theorem dX12_verdictOf_17 : decode cX12_verdictOf 17 = .ok (.iaload, 1) := by decide +kernel
theorem dX12_verdictOf_18 : decode cX12_verdictOf 18 = .ok (.ireturn, 1) := by decide +kernel
set_option maxRecDepth 20000 in
theorem ggX12_failureVerdict_X12_isFailure : GoodIn wsX12_failureVerdict wsX12_isFailure := goodIn_r _ [5, 6, 7, 8, 4, 9, 14, 15, 16, 17, 18, 19, 20, 21, 22, 23, 24, 25, 26, 27, 28, 29] (by decide +kernel) (by decide +kernel)
set_option maxRecDepth 20000 in
theorem gX12_failureVerdict_X12_isFailure : GoodIn wsX12_failureVerdict (wsV RX12 212 RX12 yX12_isFailure wsX12_isFailure) := goodIn_app (goodIn_of _ (by decide +kernel)) ggX12_failureVerdict_X12_isFailure
set_option maxRecDepth 20000 in
theorem ggX12_failureVerdict_X12_verdictOf : GoodIn wsX12_failureVerdict wsX12_verdictOf := goodIn_r _ [13, 6, 14, 15, 16, 17, 18, 19, 20, 21, 22, 23, 24, 25, 26, 27, 28, 29] (by decide +kernel) (by decide +kernel)
set_option maxRecDepth 20000 in
theorem gX12_failureVerdict_X12_verdictOf : GoodIn wsX12_failureVerdict (wsV RX12 215 RX12 yX12_verdictOf wsX12_verdictOf) := goodIn_app (goodIn_of _ (by decide +kernel)) ggX12_failureVerdict_X12_verdictOf
theorem dX12_failureVerdict_0 : decode cX12_failureVerdict 0 = .ok (.aload_n 0, 1) := by decide +kernel
theorem dX12_failureVerdict_1 : decode cX12_failureVerdict 1 = .ok (.iload_n 1, 1) := by decide +kernel
theorem dX12_failureVerdict_2 : decode cX12_failureVerdict 2 = .ok (.invokevirtual 212, 3) := by decide +kernel
theorem dX12_failureVerdict_5 : decode cX12_failureVerdict 5 = .ok (.ifCond .eq 11, 3) := by decide +kernel
theorem dX12_failureVerdict_8 : decode cX12_failureVerdict 8 = .ok (.aload_n 0, 1) := by decide +kernel
theorem dX12_failureVerdict_9 : decode cX12_failureVerdict 9 = .ok (.iload_n 1, 1) := by decide +kernel
theorem dX12_failureVerdict_10 : decode cX12_failureVerdict 10 = .ok (.invokevirtual 215, 3) := by decide +kernel
theorem dX12_failureVerdict_13 : decode cX12_failureVerdict 13 = .ok (.goto 4, 3) := by decide +kernel
theorem dX12_failureVerdict_16 : decode cX12_failureVerdict 16 = .ok (.iconst (-1), 1) := by decide +kernel
theorem dX12_failureVerdict_17 : decode cX12_failureVerdict 17 = .ok (.ireturn, 1) := by decide +kernel
set_option maxRecDepth 20000 in
theorem ggX12_failsWithout_X12_begin : GoodIn wsX12_failsWithout wsX12_begin := goodIn_r _ [7, 8, 9, 42, 43, 44, 45, 46, 47, 48, 49, 50, 51, 52, 53, 54, 55, 56, 57] (by decide +kernel) (by decide +kernel)
set_option maxRecDepth 20000 in
theorem gX12_failsWithout_X12_begin : GoodIn wsX12_failsWithout (wsV RX12 174 RX12 yX12_begin wsX12_begin) := goodIn_app (goodIn_of _ (by decide +kernel)) ggX12_failsWithout_X12_begin
set_option maxRecDepth 20000 in
theorem ggX12_failsWithout_X12_calls : GoodIn wsX12_failsWithout wsX12_calls := goodIn_r _ [13, 14, 8, 9, 15, 16, 17, 6, 18, 19, 20, 21, 22, 23, 24, 25, 26, 27, 28, 29, 30, 31, 32, 33, 34, 35, 36, 37, 38, 39, 40, 41, 42, 43, 44, 45, 46, 47, 48, 49, 50, 51, 52, 53, 54, 55, 56, 57] (by decide +kernel) (by decide +kernel)
set_option maxRecDepth 20000 in
theorem gX12_failsWithout_X12_calls : GoodIn wsX12_failsWithout (wsV RX12 177 RX12 yX12_calls wsX12_calls) := goodIn_app (goodIn_of _ (by decide +kernel)) ggX12_failsWithout_X12_calls
theorem dX12_failsWithout_0 : decode cX12_failsWithout 0 = .ok (.aload_n 0, 1) := by decide +kernel
theorem dX12_failsWithout_1 : decode cX12_failsWithout 1 = .ok (.invokevirtual 174, 3) := by decide +kernel
theorem dX12_failsWithout_4 : decode cX12_failsWithout 4 = .ok (.iconst 0, 1) := by decide +kernel
theorem dX12_failsWithout_5 : decode cX12_failsWithout 5 = .ok (.istore_n 3, 1) := by decide +kernel
theorem dX12_failsWithout_6 : decode cX12_failsWithout 6 = .ok (.iconst 0, 1) := by decide +kernel
theorem dX12_failsWithout_7 : decode cX12_failsWithout 7 = .ok (.istore 4, 2) := by decide +kernel
theorem dX12_failsWithout_9 : decode cX12_failsWithout 9 = .ok (.iload 4, 2) := by decide +kernel
theorem dX12_failsWithout_11 : decode cX12_failsWithout 11 = .ok (.aload_n 0, 1) := by decide +kernel
theorem dX12_failsWithout_12 : decode cX12_failsWithout 12 = .ok (.getfield 218, 3) := by decide +kernel
theorem dX12_failsWithout_15 : decode cX12_failsWithout 15 = .ok (.if_icmp .ge 33, 3) := by decide +kernel
theorem dX12_failsWithout_18 : decode cX12_failsWithout 18 = .ok (.iload 4, 2) := by decide +kernel
theorem dX12_failsWithout_20 : decode cX12_failsWithout 20 = .ok (.iload_n 1, 1) := by decide +kernel
theorem dX12_failsWithout_21 : decode cX12_failsWithout 21 = .ok (.if_icmp .eq 21, 3) := by decide +kernel
theorem dX12_failsWithout_24 : decode cX12_failsWithout 24 = .ok (.iload_n 3, 1) := by decide +kernel
theorem dX12_failsWithout_25 : decode cX12_failsWithout 25 = .ok (.ifCond .eq 5, 3) := by decide +kernel
theorem dX12_failsWithout_28 : decode cX12_failsWithout 28 = .ok (.iconst 0, 1) := by decide +kernel
theorem dX12_failsWithout_29 : decode cX12_failsWithout 29 = .ok (.ireturn, 1) := by decide +kernel
theorem dX12_failsWithout_30 : decode cX12_failsWithout 30 = .ok (.aload_n 0, 1) := by decide +kernel
theorem dX12_failsWithout_31 : decode cX12_failsWithout 31 = .ok (.aload_n 0, 1) := by decide +kernel
theorem dX12_failsWithout_32 : decode cX12_failsWithout 32 = .ok (.getfield 31, 3) := by decide +kernel
theorem dX12_failsWithout_35 : decode cX12_failsWithout 35 = .ok (.iload 4, 2) := by decide +kernel
theorem dX12_failsWithout_37 : decode cX12_failsWithout 37 = .ok (.iaload, 1) := by decide +kernel
theorem dX12_failsWithout_38 : decode cX12_failsWithout 38 = .ok (.invokevirtual 177, 3) := by decide +kernel
theorem dX12_failsWithout_41 : decode cX12_failsWithout 41 = .ok (.istore_n 3, 1) := by decide +kernel
theorem dX12_failsWithout_42 : decode cX12_failsWithout 42 = .ok (.iinc 4 1, 3) := by decide +kernel
theorem dX12_failsWithout_45 : decode cX12_failsWithout 45 = .ok (.goto (-36), 3) := by decide +kernel
theorem dX12_failsWithout_48 : decode cX12_failsWithout 48 = .ok (.iload_n 3, 1) := by decide +kernel
theorem dX12_failsWithout_49 : decode cX12_failsWithout 49 = .ok (.iload_n 2, 1) := by decide +kernel
theorem dX12_failsWithout_50 : decode cX12_failsWithout 50 = .ok (.if_icmp .ne 7, 3) := by decide +kernel
theorem dX12_failsWithout_53 : decode cX12_failsWithout 53 = .ok (.iconst 1, 1) := by decide +kernel
theorem dX12_failsWithout_54 : decode cX12_failsWithout 54 = .ok (.goto 4, 3) := by decide +kernel
theorem dX12_failsWithout_57 : decode cX12_failsWithout 57 = .ok (.iconst 0, 1) := by decide +kernel
theorem dX12_failsWithout_58 : decode cX12_failsWithout 58 = .ok (.ireturn, 1) := by decide +kernel
set_option maxRecDepth 20000 in
theorem ggX12_minimize_X12_lengthOf : GoodIn wsX12_minimize wsX12_lengthOf := goodIn_r _ [7, 8, 58, 59, 60, 61, 62, 63, 64, 65, 66, 67, 68, 69, 70, 71, 72, 73] (by decide +kernel) (by decide +kernel)
set_option maxRecDepth 20000 in
theorem gX12_minimize_X12_lengthOf : GoodIn wsX12_minimize (wsV RX12 180 RX12 yX12_lengthOf wsX12_lengthOf) := goodIn_app (goodIn_of _ (by decide +kernel)) ggX12_minimize_X12_lengthOf
set_option maxRecDepth 20000 in
theorem ggX12_minimize_X12_callOf : GoodIn wsX12_minimize wsX12_callOf := goodIn_r _ [12, 8, 58, 59, 60, 61, 62, 63, 64, 65, 66, 67, 68, 69, 70, 71, 72, 73] (by decide +kernel) (by decide +kernel)
set_option maxRecDepth 20000 in
theorem gX12_minimize_X12_callOf : GoodIn wsX12_minimize (wsV RX12 183 RX12 yX12_callOf wsX12_callOf) := goodIn_app (goodIn_of _ (by decide +kernel)) ggX12_minimize_X12_callOf
set_option maxRecDepth 20000 in
theorem ggX12_minimize_X12_verdictOf : GoodIn wsX12_minimize wsX12_verdictOf := goodIn_r _ [16, 8, 58, 59, 60, 61, 62, 63, 64, 65, 66, 67, 68, 69, 70, 71, 72, 73] (by decide +kernel) (by decide +kernel)
set_option maxRecDepth 20000 in
theorem gX12_minimize_X12_verdictOf : GoodIn wsX12_minimize (wsV RX12 215 RX12 yX12_verdictOf wsX12_verdictOf) := goodIn_app (goodIn_of _ (by decide +kernel)) ggX12_minimize_X12_verdictOf
set_option maxRecDepth 20000 in
theorem ggX12_minimize_X12_failsWithout : GoodIn wsX12_minimize wsX12_failsWithout := goodIn_r _ [20, 1, 2, 21, 22, 23, 6, 24, 25, 8, 26, 27, 28, 29, 30, 31, 32, 33, 34, 35, 36, 37, 38, 39, 40, 41, 42, 43, 44, 45, 46, 47, 48, 49, 50, 51, 52, 53, 54, 55, 56, 57, 58, 59, 60, 61, 62, 63, 64, 65, 66, 67, 68, 69, 70, 71, 72, 73] (by decide +kernel) (by decide +kernel)
set_option maxRecDepth 20000 in
theorem gX12_minimize_X12_failsWithout : GoodIn wsX12_minimize (wsV RX12 221 RX12 yX12_failsWithout wsX12_failsWithout) := goodIn_app (goodIn_of _ (by decide +kernel)) ggX12_minimize_X12_failsWithout
theorem dX12_minimize_0 : decode cX12_minimize 0 = .ok (.aload_n 0, 1) := by decide +kernel
theorem dX12_minimize_1 : decode cX12_minimize 1 = .ok (.aload_n 0, 1) := by decide +kernel
theorem dX12_minimize_2 : decode cX12_minimize 2 = .ok (.sipush 718, 3) := by decide +kernel
theorem dX12_minimize_5 : decode cX12_minimize 5 = .ok (.iload_n 1, 1) := by decide +kernel
theorem dX12_minimize_6 : decode cX12_minimize 6 = .ok (.invokevirtual 180, 3) := by decide +kernel
theorem dX12_minimize_9 : decode cX12_minimize 9 = .ok (.putfield 218, 3) := by decide +kernel
theorem dX12_minimize_12 : decode cX12_minimize 12 = .ok (.iconst 0, 1) := by decide +kernel
theorem dX12_minimize_13 : decode cX12_minimize 13 = .ok (.istore_n 2, 1) := by decide +kernel
theorem dX12_minimize_14 : decode cX12_minimize 14 = .ok (.iload_n 2, 1) := by decide +kernel
theorem dX12_minimize_15 : decode cX12_minimize 15 = .ok (.aload_n 0, 1) := by decide +kernel
theorem dX12_minimize_16 : decode cX12_minimize 16 = .ok (.getfield 218, 3) := by decide +kernel
theorem dX12_minimize_19 : decode cX12_minimize 19 = .ok (.if_icmp .ge 24, 3) := by decide +kernel
theorem dX12_minimize_22 : decode cX12_minimize 22 = .ok (.aload_n 0, 1) := by decide +kernel
theorem dX12_minimize_23 : decode cX12_minimize 23 = .ok (.getfield 31, 3) := by decide +kernel
theorem dX12_minimize_26 : decode cX12_minimize 26 = .ok (.iload_n 2, 1) := by decide +kernel
theorem dX12_minimize_27 : decode cX12_minimize 27 = .ok (.aload_n 0, 1) := by decide +kernel
theorem dX12_minimize_28 : decode cX12_minimize 28 = .ok (.sipush 718, 3) := by decide +kernel
theorem dX12_minimize_31 : decode cX12_minimize 31 = .ok (.iload_n 1, 1) := by decide +kernel
theorem dX12_minimize_32 : decode cX12_minimize 32 = .ok (.iload_n 2, 1) := by decide +kernel
theorem dX12_minimize_33 : decode cX12_minimize 33 = .ok (.invokevirtual 183, 3) := by decide +kernel
theorem dX12_minimize_36 : decode cX12_minimize 36 = .ok (.iastore, 1) := by decide +kernel
theorem dX12_minimize_37 : decode cX12_minimize 37 = .ok (.iinc 2 1, 3) := by decide +kernel
theorem dX12_minimize_40 : decode cX12_minimize 40 = .ok (.goto (-26), 3) := by decide +kernel
theorem dX12_minimize_43 : decode cX12_minimize 43 = .ok (.iconst 0, 1) := by decide +kernel
theorem dX12_minimize_44 : decode cX12_minimize 44 = .ok (.istore_n 2, 1) := by decide +kernel
theorem dX12_minimize_45 : decode cX12_minimize 45 = .ok (.iload_n 2, 1) := by decide +kernel
theorem dX12_minimize_46 : decode cX12_minimize 46 = .ok (.aload_n 0, 1) := by decide +kernel
theorem dX12_minimize_47 : decode cX12_minimize 47 = .ok (.getfield 218, 3) := by decide +kernel
theorem dX12_minimize_50 : decode cX12_minimize 50 = .ok (.iconst 1, 1) := by decide +kernel
theorem dX12_minimize_51 : decode cX12_minimize 51 = .ok (.isub, 1) := by decide +kernel
theorem dX12_minimize_52 : decode cX12_minimize 52 = .ok (.if_icmp .ge 67, 3) := by decide +kernel
theorem dX12_minimize_55 : decode cX12_minimize 55 = .ok (.aload_n 0, 1) := by decide +kernel
theorem dX12_minimize_56 : decode cX12_minimize 56 = .ok (.iload_n 2, 1) := by decide +kernel
theorem dX12_minimize_57 : decode cX12_minimize 57 = .ok (.aload_n 0, 1) := by decide +kernel
theorem dX12_minimize_58 : decode cX12_minimize 58 = .ok (.iload_n 1, 1) := by decide +kernel
theorem dX12_minimize_59 : decode cX12_minimize 59 = .ok (.invokevirtual 215, 3) := by decide +kernel
theorem dX12_minimize_62 : decode cX12_minimize 62 = .ok (.invokevirtual 221, 3) := by decide +kernel
theorem dX12_minimize_65 : decode cX12_minimize 65 = .ok (.ifCond .eq 48, 3) := by decide +kernel
theorem dX12_minimize_68 : decode cX12_minimize 68 = .ok (.aload_n 0, 1) := by decide +kernel
theorem dX12_minimize_69 : decode cX12_minimize 69 = .ok (.dup, 1) := by decide +kernel
theorem dX12_minimize_70 : decode cX12_minimize 70 = .ok (.getfield 218, 3) := by decide +kernel
theorem dX12_minimize_73 : decode cX12_minimize 73 = .ok (.iconst 1, 1) := by decide +kernel
theorem dX12_minimize_74 : decode cX12_minimize 74 = .ok (.isub, 1) := by decide +kernel
theorem dX12_minimize_75 : decode cX12_minimize 75 = .ok (.putfield 218, 3) := by decide +kernel
theorem dX12_minimize_78 : decode cX12_minimize 78 = .ok (.iload_n 2, 1) := by decide +kernel
theorem dX12_minimize_79 : decode cX12_minimize 79 = .ok (.istore_n 3, 1) := by decide +kernel
theorem dX12_minimize_80 : decode cX12_minimize 80 = .ok (.iload_n 3, 1) := by decide +kernel
theorem dX12_minimize_81 : decode cX12_minimize 81 = .ok (.aload_n 0, 1) := by decide +kernel
theorem dX12_minimize_82 : decode cX12_minimize 82 = .ok (.getfield 218, 3) := by decide +kernel
theorem dX12_minimize_85 : decode cX12_minimize 85 = .ok (.if_icmp .ge 23, 3) := by decide +kernel
theorem dX12_minimize_88 : decode cX12_minimize 88 = .ok (.aload_n 0, 1) := by decide +kernel
theorem dX12_minimize_89 : decode cX12_minimize 89 = .ok (.getfield 31, 3) := by decide +kernel
theorem dX12_minimize_92 : decode cX12_minimize 92 = .ok (.iload_n 3, 1) := by decide +kernel
theorem dX12_minimize_93 : decode cX12_minimize 93 = .ok (.aload_n 0, 1) := by decide +kernel
theorem dX12_minimize_94 : decode cX12_minimize 94 = .ok (.getfield 31, 3) := by decide +kernel
theorem dX12_minimize_97 : decode cX12_minimize 97 = .ok (.iload_n 3, 1) := by decide +kernel
theorem dX12_minimize_98 : decode cX12_minimize 98 = .ok (.iconst 1, 1) := by decide +kernel
theorem dX12_minimize_99 : decode cX12_minimize 99 = .ok (.iadd, 1) := by decide +kernel
theorem dX12_minimize_100 : decode cX12_minimize 100 = .ok (.iaload, 1) := by decide +kernel
theorem dX12_minimize_101 : decode cX12_minimize 101 = .ok (.iastore, 1) := by decide +kernel
theorem dX12_minimize_102 : decode cX12_minimize 102 = .ok (.iinc 3 1, 3) := by decide +kernel
theorem dX12_minimize_105 : decode cX12_minimize 105 = .ok (.goto (-25), 3) := by decide +kernel
theorem dX12_minimize_108 : decode cX12_minimize 108 = .ok (.iconst 0, 1) := by decide +kernel
theorem dX12_minimize_109 : decode cX12_minimize 109 = .ok (.istore_n 2, 1) := by decide +kernel
theorem dX12_minimize_110 : decode cX12_minimize 110 = .ok (.goto (-65), 3) := by decide +kernel
theorem dX12_minimize_113 : decode cX12_minimize 113 = .ok (.iinc 2 1, 3) := by decide +kernel
theorem dX12_minimize_116 : decode cX12_minimize 116 = .ok (.goto (-71), 3) := by decide +kernel
theorem dX12_minimize_119 : decode cX12_minimize 119 = .ok (.return_, 1) := by decide +kernel
set_option maxRecDepth 20000 in
theorem ggX12_minimizedLength_X12_isFailure : GoodIn wsX12_minimizedLength wsX12_isFailure := goodIn_r _ [6, 7, 8, 9, 5, 10, 66, 67, 68, 69, 70, 71, 72, 73, 74, 75, 76, 77, 78, 79, 80, 81] (by decide +kernel) (by decide +kernel)
set_option maxRecDepth 20000 in
theorem gX12_minimizedLength_X12_isFailure : GoodIn wsX12_minimizedLength (wsV RX12 212 RX12 yX12_isFailure wsX12_isFailure) := goodIn_app (goodIn_of _ (by decide +kernel)) ggX12_minimizedLength_X12_isFailure
set_option maxRecDepth 20000 in
theorem ggX12_minimizedLength_X12_minimize : GoodIn wsX12_minimizedLength wsX12_minimize := goodIn_r _ [14, 1, 15, 16, 17, 18, 5, 19, 7, 20, 21, 22, 23, 24, 25, 26, 27, 28, 29, 30, 31, 32, 33, 34, 35, 36, 37, 38, 39, 40, 41, 42, 43, 44, 45, 46, 47, 48, 49, 50, 51, 52, 53, 54, 55, 56, 57, 58, 59, 60, 61, 62, 63, 64, 65, 8, 9, 10, 66, 67, 68, 69, 70, 71, 72, 73, 74, 75, 76, 77, 78, 79, 80, 81] (by decide +kernel) (by decide +kernel)
set_option maxRecDepth 20000 in
theorem gX12_minimizedLength_X12_minimize : GoodIn wsX12_minimizedLength (wsV RX12 224 RX12 yX12_minimize wsX12_minimize) := goodIn_app (goodIn_of _ (by decide +kernel)) ggX12_minimizedLength_X12_minimize
theorem dX12_minimizedLength_0 : decode cX12_minimizedLength 0 = .ok (.aload_n 0, 1) := by decide +kernel
theorem dX12_minimizedLength_1 : decode cX12_minimizedLength 1 = .ok (.iload_n 1, 1) := by decide +kernel
theorem dX12_minimizedLength_2 : decode cX12_minimizedLength 2 = .ok (.invokevirtual 212, 3) := by decide +kernel
theorem dX12_minimizedLength_5 : decode cX12_minimizedLength 5 = .ok (.ifCond .ne 5, 3) := by decide +kernel
theorem dX12_minimizedLength_8 : decode cX12_minimizedLength 8 = .ok (.iconst (-1), 1) := by decide +kernel
theorem dX12_minimizedLength_9 : decode cX12_minimizedLength 9 = .ok (.ireturn, 1) := by decide +kernel
theorem dX12_minimizedLength_10 : decode cX12_minimizedLength 10 = .ok (.aload_n 0, 1) := by decide +kernel
theorem dX12_minimizedLength_11 : decode cX12_minimizedLength 11 = .ok (.iload_n 1, 1) := by decide +kernel
theorem dX12_minimizedLength_12 : decode cX12_minimizedLength 12 = .ok (.invokevirtual 224, 3) := by decide +kernel
theorem dX12_minimizedLength_15 : decode cX12_minimizedLength 15 = .ok (.aload_n 0, 1) := by decide +kernel
theorem dX12_minimizedLength_16 : decode cX12_minimizedLength 16 = .ok (.getfield 218, 3) := by decide +kernel
theorem dX12_minimizedLength_19 : decode cX12_minimizedLength 19 = .ok (.ireturn, 1) := by decide +kernel
set_option maxRecDepth 20000 in
theorem ggX12_minimizedCall_X12_isFailure : GoodIn wsX12_minimizedCall wsX12_isFailure := goodIn_r _ [7, 8, 9, 10, 6, 11, 66, 67, 68, 69, 70, 71, 72, 73, 74, 75, 76, 77, 78, 79, 80, 81] (by decide +kernel) (by decide +kernel)
set_option maxRecDepth 20000 in
theorem gX12_minimizedCall_X12_isFailure : GoodIn wsX12_minimizedCall (wsV RX12 212 RX12 yX12_isFailure wsX12_isFailure) := goodIn_app (goodIn_of _ (by decide +kernel)) ggX12_minimizedCall_X12_isFailure
set_option maxRecDepth 20000 in
theorem ggX12_minimizedCall_X12_minimize : GoodIn wsX12_minimizedCall wsX12_minimize := goodIn_r _ [15, 1, 2, 16, 17, 18, 6, 19, 8, 20, 21, 22, 23, 24, 25, 26, 27, 28, 29, 30, 31, 32, 33, 34, 35, 36, 37, 38, 39, 40, 41, 42, 43, 44, 45, 46, 47, 48, 49, 50, 51, 52, 53, 54, 55, 56, 57, 58, 59, 60, 61, 62, 63, 64, 65, 9, 10, 11, 66, 67, 68, 69, 70, 71, 72, 73, 74, 75, 76, 77, 78, 79, 80, 81] (by decide +kernel) (by decide +kernel)
set_option maxRecDepth 20000 in
theorem gX12_minimizedCall_X12_minimize : GoodIn wsX12_minimizedCall (wsV RX12 224 RX12 yX12_minimize wsX12_minimize) := goodIn_app (goodIn_of _ (by decide +kernel)) ggX12_minimizedCall_X12_minimize
theorem dX12_minimizedCall_0 : decode cX12_minimizedCall 0 = .ok (.aload_n 0, 1) := by decide +kernel
theorem dX12_minimizedCall_1 : decode cX12_minimizedCall 1 = .ok (.iload_n 1, 1) := by decide +kernel
theorem dX12_minimizedCall_2 : decode cX12_minimizedCall 2 = .ok (.invokevirtual 212, 3) := by decide +kernel
theorem dX12_minimizedCall_5 : decode cX12_minimizedCall 5 = .ok (.ifCond .eq 7, 3) := by decide +kernel
theorem dX12_minimizedCall_8 : decode cX12_minimizedCall 8 = .ok (.iload_n 2, 1) := by decide +kernel
theorem dX12_minimizedCall_9 : decode cX12_minimizedCall 9 = .ok (.ifCond .ge 5, 3) := by decide +kernel
theorem dX12_minimizedCall_12 : decode cX12_minimizedCall 12 = .ok (.iconst (-1), 1) := by decide +kernel
theorem dX12_minimizedCall_13 : decode cX12_minimizedCall 13 = .ok (.ireturn, 1) := by decide +kernel
theorem dX12_minimizedCall_14 : decode cX12_minimizedCall 14 = .ok (.aload_n 0, 1) := by decide +kernel
theorem dX12_minimizedCall_15 : decode cX12_minimizedCall 15 = .ok (.iload_n 1, 1) := by decide +kernel
theorem dX12_minimizedCall_16 : decode cX12_minimizedCall 16 = .ok (.invokevirtual 224, 3) := by decide +kernel
theorem dX12_minimizedCall_19 : decode cX12_minimizedCall 19 = .ok (.iload_n 2, 1) := by decide +kernel
theorem dX12_minimizedCall_20 : decode cX12_minimizedCall 20 = .ok (.aload_n 0, 1) := by decide +kernel
theorem dX12_minimizedCall_21 : decode cX12_minimizedCall 21 = .ok (.getfield 218, 3) := by decide +kernel
theorem dX12_minimizedCall_24 : decode cX12_minimizedCall 24 = .ok (.if_icmp .ge 12, 3) := by decide +kernel
theorem dX12_minimizedCall_27 : decode cX12_minimizedCall 27 = .ok (.aload_n 0, 1) := by decide +kernel
theorem dX12_minimizedCall_28 : decode cX12_minimizedCall 28 = .ok (.getfield 31, 3) := by decide +kernel
theorem dX12_minimizedCall_31 : decode cX12_minimizedCall 31 = .ok (.iload_n 2, 1) := by decide +kernel
theorem dX12_minimizedCall_32 : decode cX12_minimizedCall 32 = .ok (.iaload, 1) := by decide +kernel
theorem dX12_minimizedCall_33 : decode cX12_minimizedCall 33 = .ok (.goto 6, 3) := by decide +kernel
theorem dX12_minimizedCall_36 : decode cX12_minimizedCall 36 = .ok (.sipush (-1000), 3) := by decide +kernel
theorem dX12_minimizedCall_39 : decode cX12_minimizedCall 39 = .ok (.ireturn, 1) := by decide +kernel
