theorem dX9_searchBest_1 : decode cX9_searchBest 1 = .ok (.getfield 30, 3) := by decide +kernel
theorem dX9_searchBest_4 : decode cX9_searchBest 4 = .ok (.aload_n 0, 1) := by decide +kernel
theorem dX9_searchBest_5 : decode cX9_searchBest 5 = .ok (.getfield 26, 3) := by decide +kernel
theorem dX9_searchBest_8 : decode cX9_searchBest 8 = .ok (.invokevirtual 127, 3) := by decide +kernel
theorem dX9_searchBest_11 : decode cX9_searchBest 11 = .ok (.aload_n 0, 1) := by decide +kernel
theorem dX9_searchBest_12 : decode cX9_searchBest 12 = .ok (.getfield 81, 3) := by decide +kernel
theorem dX9_searchBest_15 : decode cX9_searchBest 15 = .ok (.iload_n 1, 1) := by decide +kernel
theorem dX9_searchBest_16 : decode cX9_searchBest 16 = .ok (.iload_n 2, 1) := by decide +kernel
theorem dX9_searchBest_17 : decode cX9_searchBest 17 = .ok (.invokevirtual 274, 3) := by decide +kernel
theorem dX9_searchBest_20 : decode cX9_searchBest 20 = .ok (.aload_n 0, 1) := by decide +kernel
theorem dX9_searchBest_21 : decode cX9_searchBest 21 = .ok (.getfield 81, 3) := by decide +kernel
theorem dX9_searchBest_24 : decode cX9_searchBest 24 = .ok (.iconst 0, 1) := by decide +kernel
theorem dX9_searchBest_25 : decode cX9_searchBest 25 = .ok (.iconst (-1), 1) := by decide +kernel
theorem dX9_searchBest_26 : decode cX9_searchBest 26 = .ok (.invokevirtual 277, 3) := by decide +kernel
theorem dX9_searchBest_29 : decode cX9_searchBest 29 = .ok (.iconst 1, 1) := by decide +kernel
theorem dX9_searchBest_30 : decode cX9_searchBest 30 = .ok (.istore_n 3, 1) := by decide +kernel
theorem dX9_searchBest_31 : decode cX9_searchBest 31 = .ok (.iload_n 3, 1) := by decide +kernel
theorem dX9_searchBest_32 : decode cX9_searchBest 32 = .ok (.bipush 8, 2) := by decide +kernel
theorem dX9_searchBest_34 : decode cX9_searchBest 34 = .ok (.if_icmp .gt 55, 3) := by decide +kernel
theorem dX9_searchBest_37 : decode cX9_searchBest 37 = .ok (.iconst 1, 1) := by decide +kernel
theorem dX9_searchBest_38 : decode cX9_searchBest 38 = .ok (.istore 4, 2) := by decide +kernel
theorem dX9_searchBest_40 : decode cX9_searchBest 40 = .ok (.iload 4, 2) := by decide +kernel
theorem dX9_searchBest_42 : decode cX9_searchBest 42 = .ok (.bipush 40, 2) := by decide +kernel
theorem dX9_searchBest_44 : decode cX9_searchBest 44 = .ok (.if_icmp .gt 39, 3) := by decide +kernel
theorem dX9_searchBest_47 : decode cX9_searchBest 47 = .ok (.iload_n 3, 1) := by decide +kernel
theorem dX9_searchBest_48 : decode cX9_searchBest 48 = .ok (.iload 4, 2) := by decide +kernel
theorem dX9_searchBest_50 : decode cX9_searchBest 50 = .ok (.imul, 1) := by decide +kernel
theorem dX9_searchBest_51 : decode cX9_searchBest 51 = .ok (.iload_n 1, 1) := by decide +kernel
theorem dX9_searchBest_52 : decode cX9_searchBest 52 = .ok (.if_icmp .gt 31, 3) := by decide +kernel
theorem dX9_searchBest_55 : decode cX9_searchBest 55 = .ok (.aload_n 0, 1) := by decide +kernel
theorem dX9_searchBest_56 : decode cX9_searchBest 56 = .ok (.getfield 30, 3) := by decide +kernel
theorem dX9_searchBest_59 : decode cX9_searchBest 59 = .ok (.iload_n 3, 1) := by decide +kernel
theorem dX9_searchBest_60 : decode cX9_searchBest 60 = .ok (.putfield 261, 3) := by decide +kernel
theorem dX9_searchBest_63 : decode cX9_searchBest 63 = .ok (.aload_n 0, 1) := by decide +kernel
theorem dX9_searchBest_64 : decode cX9_searchBest 64 = .ok (.getfield 30, 3) := by decide +kernel
theorem dX9_searchBest_67 : decode cX9_searchBest 67 = .ok (.iload 4, 2) := by decide +kernel
theorem dX9_searchBest_69 : decode cX9_searchBest 69 = .ok (.putfield 260, 3) := by decide +kernel
theorem dX9_searchBest_72 : decode cX9_searchBest 72 = .ok (.aload_n 0, 1) := by decide +kernel
theorem dX9_searchBest_73 : decode cX9_searchBest 73 = .ok (.iload_n 2, 1) := by decide +kernel
theorem dX9_searchBest_74 : decode cX9_searchBest 74 = .ok (.invokevirtual 280, 3) := by decide +kernel
theorem dX9_searchBest_77 : decode cX9_searchBest 77 = .ok (.iinc 4 1, 3) := by decide +kernel
theorem dX9_searchBest_80 : decode cX9_searchBest 80 = .ok (.goto (-40), 3) := by decide +kernel
theorem dX9_searchBest_83 : decode cX9_searchBest 83 = .ok (.iinc 3 1, 3) := by decide +kernel
theorem dX9_searchBest_86 : decode cX9_searchBest 86 = .ok (.goto (-55), 3) := by decide +kernel
theorem dX9_searchBest_89 : decode cX9_searchBest 89 = .ok (.return_, 1) := by decide +kernel
set_option maxRecDepth 20000 in
theorem ggX9_searchPitch_X8_make : GoodIn wsX9_searchPitch wsX8_make := goodIn_r _ [7, 8, 9, 10, 11, 12, 13, 14, 15, 16, 17, 18, 19, 20, 21, 22, 23, 24, 25, 26, 27, 28, 29, 30, 31, 32, 33, 34, 35, 36, 37, 38, 39, 40, 41, 42, 43, 44, 45, 46, 47, 48, 49, 50, 51, 52, 53, 54, 55, 56, 57, 58, 59, 60, 61, 62, 63, 64, 65, 66, 67, 68, 69, 70, 71, 72, 73, 74, 75, 5, 76, 77, 78, 122, 123, 124, 125, 126, 127, 128, 129, 130, 131, 132, 133, 134, 105, 106, 107, 108, 109, 110, 111, 112, 113, 114, 115, 116, 117, 118, 119, 120, 121, 135, 136, 137, 138, 139, 140, 141] (by decide +kernel) (by decide +kernel)
set_option maxRecDepth 20000 in
theorem gX9_searchPitch_X8_make_n160 : GoodIn wsX9_searchPitch (wsX8_make) := ggX9_searchPitch_X8_make
set_option maxRecDepth 20000 in
theorem ggX9_searchPitch_X3_answer : GoodIn wsX9_searchPitch wsX3_answer := goodIn_r _ [82, 83, 142, 143, 144, 145] (by decide +kernel) (by decide +kernel)
set_option maxRecDepth 20000 in
theorem gX9_searchPitch_X3_answer_n203 : GoodIn wsX9_searchPitch (wsX3_answer) := ggX9_searchPitch_X3_answer
set_option maxRecDepth 20000 in
theorem ggX9_searchPitch_X3_put : GoodIn wsX9_searchPitch wsX3_put := goodIn_r _ [86, 83, 142, 143, 144, 145] (by decide +kernel) (by decide +kernel)
set_option maxRecDepth 20000 in
theorem gX9_searchPitch_X3_put_n277 : GoodIn wsX9_searchPitch (wsX3_put) := ggX9_searchPitch_X3_put
theorem dX9_searchPitch_0 : decode cX9_searchPitch 0 = .ok (.iconst 1, 1) := by decide +kernel
theorem dX9_searchPitch_1 : decode cX9_searchPitch 1 = .ok (.istore_n 2, 1) := by decide +kernel
theorem dX9_searchPitch_2 : decode cX9_searchPitch 2 = .ok (.iload_n 2, 1) := by decide +kernel
theorem dX9_searchPitch_3 : decode cX9_searchPitch 3 = .ok (.bipush 9, 2) := by decide +kernel
theorem dX9_searchPitch_5 : decode cX9_searchPitch 5 = .ok (.if_icmp .gt 112, 3) := by decide +kernel
theorem dX9_searchPitch_8 : decode cX9_searchPitch 8 = .ok (.aload_n 0, 1) := by decide +kernel
theorem dX9_searchPitch_9 : decode cX9_searchPitch 9 = .ok (.getfield 30, 3) := by decide +kernel
theorem dX9_searchPitch_12 : decode cX9_searchPitch 12 = .ok (.iload_n 2, 1) := by decide +kernel
theorem dX9_searchPitch_13 : decode cX9_searchPitch 13 = .ok (.putfield 283, 3) := by decide +kernel
theorem dX9_searchPitch_16 : decode cX9_searchPitch 16 = .ok (.aload_n 0, 1) := by decide +kernel
theorem dX9_searchPitch_17 : decode cX9_searchPitch 17 = .ok (.getfield 43, 3) := by decide +kernel
theorem dX9_searchPitch_20 : decode cX9_searchPitch 20 = .ok (.aload_n 0, 1) := by decide +kernel
theorem dX9_searchPitch_21 : decode cX9_searchPitch 21 = .ok (.getfield 30, 3) := by decide +kernel
theorem dX9_searchPitch_24 : decode cX9_searchPitch 24 = .ok (.iload_n 1, 1) := by decide +kernel
theorem dX9_searchPitch_25 : decode cX9_searchPitch 25 = .ok (.iconst (-1), 1) := by decide +kernel
theorem dX9_searchPitch_26 : decode cX9_searchPitch 26 = .ok (.sipush 600, 3) := by decide +kernel
theorem dX9_searchPitch_29 : decode cX9_searchPitch 29 = .ok (.iconst 0, 1) := by decide +kernel
theorem dX9_searchPitch_30 : decode cX9_searchPitch 30 = .ok (.invokevirtual 160, 3) := by decide +kernel
theorem dX9_searchPitch_33 : decode cX9_searchPitch 33 = .ok (.aload_n 0, 1) := by decide +kernel
theorem dX9_searchPitch_34 : decode cX9_searchPitch 34 = .ok (.getfield 43, 3) := by decide +kernel
theorem dX9_searchPitch_37 : decode cX9_searchPitch 37 = .ok (.getfield 167, 3) := by decide +kernel
theorem dX9_searchPitch_40 : decode cX9_searchPitch 40 = .ok (.getfield 170, 3) := by decide +kernel
theorem dX9_searchPitch_43 : decode cX9_searchPitch 43 = .ok (.aload_n 0, 1) := by decide +kernel
theorem dX9_searchPitch_44 : decode cX9_searchPitch 44 = .ok (.getfield 81, 3) := by decide +kernel
theorem dX9_searchPitch_47 : decode cX9_searchPitch 47 = .ok (.iconst 0, 1) := by decide +kernel
theorem dX9_searchPitch_48 : decode cX9_searchPitch 48 = .ok (.invokevirtual 203, 3) := by decide +kernel
theorem dX9_searchPitch_51 : decode cX9_searchPitch 51 = .ok (.if_icmp .le 60, 3) := by decide +kernel
theorem dX9_searchPitch_54 : decode cX9_searchPitch 54 = .ok (.aload_n 0, 1) := by decide +kernel
theorem dX9_searchPitch_55 : decode cX9_searchPitch 55 = .ok (.getfield 81, 3) := by decide +kernel
theorem dX9_searchPitch_58 : decode cX9_searchPitch 58 = .ok (.iconst 0, 1) := by decide +kernel
theorem dX9_searchPitch_59 : decode cX9_searchPitch 59 = .ok (.aload_n 0, 1) := by decide +kernel
theorem dX9_searchPitch_60 : decode cX9_searchPitch 60 = .ok (.getfield 43, 3) := by decide +kernel
theorem dX9_searchPitch_63 : decode cX9_searchPitch 63 = .ok (.getfield 167, 3) := by decide +kernel
theorem dX9_searchPitch_66 : decode cX9_searchPitch 66 = .ok (.getfield 170, 3) := by decide +kernel
theorem dX9_searchPitch_69 : decode cX9_searchPitch 69 = .ok (.invokevirtual 277, 3) := by decide +kernel
theorem dX9_searchPitch_72 : decode cX9_searchPitch 72 = .ok (.aload_n 0, 1) := by decide +kernel
theorem dX9_searchPitch_73 : decode cX9_searchPitch 73 = .ok (.getfield 81, 3) := by decide +kernel
theorem dX9_searchPitch_76 : decode cX9_searchPitch 76 = .ok (.iconst 1, 1) := by decide +kernel
theorem dX9_searchPitch_77 : decode cX9_searchPitch 77 = .ok (.aload_n 0, 1) := by decide +kernel
theorem dX9_searchPitch_78 : decode cX9_searchPitch 78 = .ok (.getfield 30, 3) := by decide +kernel
theorem dX9_searchPitch_81 : decode cX9_searchPitch 81 = .ok (.getfield 261, 3) := by decide +kernel
theorem dX9_searchPitch_84 : decode cX9_searchPitch 84 = .ok (.invokevirtual 277, 3) := by decide +kernel
theorem dX9_searchPitch_87 : decode cX9_searchPitch 87 = .ok (.aload_n 0, 1) := by decide +kernel
theorem dX9_searchPitch_88 : decode cX9_searchPitch 88 = .ok (.getfield 81, 3) := by decide +kernel
theorem dX9_searchPitch_91 : decode cX9_searchPitch 91 = .ok (.iconst 2, 1) := by decide +kernel
theorem dX9_searchPitch_92 : decode cX9_searchPitch 92 = .ok (.aload_n 0, 1) := by decide +kernel
theorem dX9_searchPitch_93 : decode cX9_searchPitch 93 = .ok (.getfield 30, 3) := by decide +kernel
theorem dX9_searchPitch_96 : decode cX9_searchPitch 96 = .ok (.getfield 260, 3) := by decide +kernel
theorem dX9_searchPitch_99 : decode cX9_searchPitch 99 = .ok (.invokevirtual 277, 3) := by decide +kernel
theorem dX9_searchPitch_102 : decode cX9_searchPitch 102 = .ok (.aload_n 0, 1) := by decide +kernel
theorem dX9_searchPitch_103 : decode cX9_searchPitch 103 = .ok (.getfield 81, 3) := by decide +kernel
theorem dX9_searchPitch_106 : decode cX9_searchPitch 106 = .ok (.iconst 3, 1) := by decide +kernel
theorem dX9_searchPitch_107 : decode cX9_searchPitch 107 = .ok (.iload_n 2, 1) := by decide +kernel
theorem dX9_searchPitch_108 : decode cX9_searchPitch 108 = .ok (.invokevirtual 277, 3) := by decide +kernel
theorem dX9_searchPitch_111 : decode cX9_searchPitch 111 = .ok (.iinc 2 1, 3) := by decide +kernel
theorem dX9_searchPitch_114 : decode cX9_searchPitch 114 = .ok (.goto (-112), 3) := by decide +kernel
theorem dX9_searchPitch_117 : decode cX9_searchPitch 117 = .ok (.return_, 1) := by decide +kernel
set_option maxRecDepth 20000 in
theorem ggX9_searchSpan_X3_learn : GoodIn wsX9_searchSpan wsX3_learn := goodIn_r _ [7, 8, 9, 10, 11, 124, 125, 126, 127] (by decide +kernel) (by decide +kernel)
set_option maxRecDepth 20000 in
theorem gX9_searchSpan_X3_learn_n274 : GoodIn wsX9_searchSpan (wsX3_learn) := ggX9_searchSpan_X3_learn
set_option maxRecDepth 20000 in
theorem ggX9_searchSpan_X8_make : GoodIn wsX9_searchSpan wsX8_make := goodIn_r _ [15, 16, 17, 18, 19, 20, 21, 22, 23, 24, 25, 26, 27, 28, 29, 30, 31, 32, 33, 34, 35, 36, 37, 38, 39, 40, 41, 42, 43, 44, 45, 46, 47, 48, 49, 50, 51, 52, 53, 54, 55, 56, 57, 58, 59, 60, 61, 62, 63, 64, 65, 66, 67, 68, 69, 70, 71, 72, 73, 74, 75, 76, 77, 78, 79, 80, 81, 82, 83, 13, 84, 85, 86, 111, 112, 113, 114, 115, 116, 117, 118, 119, 120, 121, 122, 123, 128, 129, 130, 131, 132, 133, 134, 135, 136, 137, 138, 139, 140, 141, 142, 143, 144, 145, 146, 147, 148, 149, 150, 151] (by decide +kernel) (by decide +kernel)
set_option maxRecDepth 20000 in
theorem gX9_searchSpan_X8_make_n160 : GoodIn wsX9_searchSpan (wsX8_make) := ggX9_searchSpan_X8_make
set_option maxRecDepth 20000 in
theorem ggX9_searchSpan_X3_answer : GoodIn wsX9_searchSpan wsX3_answer := goodIn_r _ [89, 11, 124, 125, 126, 127] (by decide +kernel) (by decide +kernel)
set_option maxRecDepth 20000 in
theorem gX9_searchSpan_X3_answer_n203 : GoodIn wsX9_searchSpan (wsX3_answer) := ggX9_searchSpan_X3_answer
set_option maxRecDepth 20000 in
theorem ggX9_searchSpan_X3_put : GoodIn wsX9_searchSpan wsX3_put := goodIn_r _ [92, 11, 124, 125, 126, 127] (by decide +kernel) (by decide +kernel)
set_option maxRecDepth 20000 in
theorem gX9_searchSpan_X3_put_n277 : GoodIn wsX9_searchSpan (wsX3_put) := ggX9_searchSpan_X3_put
theorem dX9_searchSpan_0 : decode cX9_searchSpan 0 = .ok (.aload_n 0, 1) := by decide +kernel
theorem dX9_searchSpan_1 : decode cX9_searchSpan 1 = .ok (.getfield 85, 3) := by decide +kernel
theorem dX9_searchSpan_4 : decode cX9_searchSpan 4 = .ok (.iload_n 1, 1) := by decide +kernel
theorem dX9_searchSpan_5 : decode cX9_searchSpan 5 = .ok (.iload_n 2, 1) := by decide +kernel
theorem dX9_searchSpan_6 : decode cX9_searchSpan 6 = .ok (.invokevirtual 274, 3) := by decide +kernel
theorem dX9_searchSpan_9 : decode cX9_searchSpan 9 = .ok (.iconst 0, 1) := by decide +kernel
theorem dX9_searchSpan_10 : decode cX9_searchSpan 10 = .ok (.istore_n 3, 1) := by decide +kernel
theorem dX9_searchSpan_11 : decode cX9_searchSpan 11 = .ok (.iload_n 3, 1) := by decide +kernel
theorem dX9_searchSpan_12 : decode cX9_searchSpan 12 = .ok (.bipush 10, 2) := by decide +kernel
theorem dX9_searchSpan_14 : decode cX9_searchSpan 14 = .ok (.if_icmp .ge 98, 3) := by decide +kernel
theorem dX9_searchSpan_17 : decode cX9_searchSpan 17 = .ok (.aload_n 0, 1) := by decide +kernel
theorem dX9_searchSpan_18 : decode cX9_searchSpan 18 = .ok (.getfield 43, 3) := by decide +kernel
theorem dX9_searchSpan_21 : decode cX9_searchSpan 21 = .ok (.aload_n 0, 1) := by decide +kernel
theorem dX9_searchSpan_22 : decode cX9_searchSpan 22 = .ok (.getfield 26, 3) := by decide +kernel
theorem dX9_searchSpan_25 : decode cX9_searchSpan 25 = .ok (.iload_n 1, 1) := by decide +kernel
theorem dX9_searchSpan_26 : decode cX9_searchSpan 26 = .ok (.iload_n 2, 1) := by decide +kernel
theorem dX9_searchSpan_27 : decode cX9_searchSpan 27 = .ok (.iload_n 3, 1) := by decide +kernel
theorem dX9_searchSpan_28 : decode cX9_searchSpan 28 = .ok (.iadd, 1) := by decide +kernel
theorem dX9_searchSpan_29 : decode cX9_searchSpan 29 = .ok (.sipush 10000, 3) := by decide +kernel
theorem dX9_searchSpan_32 : decode cX9_searchSpan 32 = .ok (.irem, 1) := by decide +kernel
theorem dX9_searchSpan_33 : decode cX9_searchSpan 33 = .ok (.sipush 600, 3) := by decide +kernel
theorem dX9_searchSpan_36 : decode cX9_searchSpan 36 = .ok (.iconst 0, 1) := by decide +kernel
theorem dX9_searchSpan_37 : decode cX9_searchSpan 37 = .ok (.invokevirtual 160, 3) := by decide +kernel
theorem dX9_searchSpan_40 : decode cX9_searchSpan 40 = .ok (.aload_n 0, 1) := by decide +kernel
theorem dX9_searchSpan_41 : decode cX9_searchSpan 41 = .ok (.getfield 43, 3) := by decide +kernel
theorem dX9_searchSpan_44 : decode cX9_searchSpan 44 = .ok (.getfield 167, 3) := by decide +kernel
theorem dX9_searchSpan_47 : decode cX9_searchSpan 47 = .ok (.getfield 170, 3) := by decide +kernel
theorem dX9_searchSpan_50 : decode cX9_searchSpan 50 = .ok (.istore 4, 2) := by decide +kernel
theorem dX9_searchSpan_52 : decode cX9_searchSpan 52 = .ok (.iload_n 3, 1) := by decide +kernel
theorem dX9_searchSpan_53 : decode cX9_searchSpan 53 = .ok (.ifCond .eq 16, 3) := by decide +kernel
theorem dX9_searchSpan_56 : decode cX9_searchSpan 56 = .ok (.iload 4, 2) := by decide +kernel
theorem dX9_searchSpan_58 : decode cX9_searchSpan 58 = .ok (.aload_n 0, 1) := by decide +kernel
theorem dX9_searchSpan_59 : decode cX9_searchSpan 59 = .ok (.getfield 85, 3) := by decide +kernel
theorem dX9_searchSpan_62 : decode cX9_searchSpan 62 = .ok (.iconst 0, 1) := by decide +kernel
theorem dX9_searchSpan_63 : decode cX9_searchSpan 63 = .ok (.invokevirtual 203, 3) := by decide +kernel
theorem dX9_searchSpan_66 : decode cX9_searchSpan 66 = .ok (.if_icmp .ge 13, 3) := by decide +kernel
theorem dX9_searchSpan_69 : decode cX9_searchSpan 69 = .ok (.aload_n 0, 1) := by decide +kernel
theorem dX9_searchSpan_70 : decode cX9_searchSpan 70 = .ok (.getfield 85, 3) := by decide +kernel
theorem dX9_searchSpan_73 : decode cX9_searchSpan 73 = .ok (.iconst 0, 1) := by decide +kernel
theorem dX9_searchSpan_74 : decode cX9_searchSpan 74 = .ok (.iload 4, 2) := by decide +kernel
theorem dX9_searchSpan_76 : decode cX9_searchSpan 76 = .ok (.invokevirtual 277, 3) := by decide +kernel
theorem dX9_searchSpan_79 : decode cX9_searchSpan 79 = .ok (.iload_n 3, 1) := by decide +kernel
theorem dX9_searchSpan_80 : decode cX9_searchSpan 80 = .ok (.ifCond .eq 16, 3) := by decide +kernel
theorem dX9_searchSpan_83 : decode cX9_searchSpan 83 = .ok (.iload 4, 2) := by decide +kernel
theorem dX9_searchSpan_85 : decode cX9_searchSpan 85 = .ok (.aload_n 0, 1) := by decide +kernel
theorem dX9_searchSpan_86 : decode cX9_searchSpan 86 = .ok (.getfield 85, 3) := by decide +kernel
theorem dX9_searchSpan_89 : decode cX9_searchSpan 89 = .ok (.iconst 1, 1) := by decide +kernel
theorem dX9_searchSpan_90 : decode cX9_searchSpan 90 = .ok (.invokevirtual 203, 3) := by decide +kernel
theorem dX9_searchSpan_93 : decode cX9_searchSpan 93 = .ok (.if_icmp .le 13, 3) := by decide +kernel
theorem dX9_searchSpan_96 : decode cX9_searchSpan 96 = .ok (.aload_n 0, 1) := by decide +kernel
theorem dX9_searchSpan_97 : decode cX9_searchSpan 97 = .ok (.getfield 85, 3) := by decide +kernel
theorem dX9_searchSpan_100 : decode cX9_searchSpan 100 = .ok (.iconst 1, 1) := by decide +kernel
theorem dX9_searchSpan_101 : decode cX9_searchSpan 101 = .ok (.iload 4, 2) := by decide +kernel
theorem dX9_searchSpan_103 : decode cX9_searchSpan 103 = .ok (.invokevirtual 277, 3) := by decide +kernel
theorem dX9_searchSpan_106 : decode cX9_searchSpan 106 = .ok (.iinc 3 1, 3) := by decide +kernel
theorem dX9_searchSpan_109 : decode cX9_searchSpan 109 = .ok (.goto (-98), 3) := by decide +kernel
theorem dX9_searchSpan_112 : decode cX9_searchSpan 112 = .ok (.return_, 1) := by decide +kernel
set_option maxRecDepth 20000 in
theorem ggX9_searchStraight_X6_copy : GoodIn wsX9_searchStraight wsX6_copy := goodIn_r _ [13, 14, 15, 16, 17, 18, 19, 20, 21, 22, 23, 24, 25, 26, 27, 28, 29, 30, 134, 135, 136, 137, 138, 139, 140, 141, 142, 143, 144, 145, 146, 147, 148, 149, 150] (by decide +kernel) (by decide +kernel)
set_option maxRecDepth 20000 in
theorem gX9_searchStraight_X6_copy_n127 : GoodIn wsX9_searchStraight (wsX6_copy) := ggX9_searchStraight_X6_copy
set_option maxRecDepth 20000 in
theorem ggX9_searchStraight_X3_learn : GoodIn wsX9_searchStraight wsX3_learn := goodIn_r _ [34, 35, 36, 37, 38, 164, 165, 166, 167] (by decide +kernel) (by decide +kernel)
set_option maxRecDepth 20000 in
theorem gX9_searchStraight_X3_learn_n274 : GoodIn wsX9_searchStraight (wsX3_learn) := ggX9_searchStraight_X3_learn
set_option maxRecDepth 20000 in
theorem ggX9_searchStraight_X8_make : GoodIn wsX9_searchStraight wsX8_make := goodIn_r _ [42, 43, 44, 45, 46, 47, 48, 49, 50, 51, 52, 53, 54, 55, 56, 57, 58, 59, 60, 61, 62, 63, 64, 65, 66, 67, 68, 69, 70, 71, 72, 73, 74, 75, 76, 77, 78, 79, 80, 81, 82, 83, 84, 85, 86, 87, 8, 88, 89, 90, 91, 92, 93, 94, 95, 96, 97, 98, 99, 100, 101, 102, 103, 104, 105, 106, 107, 108, 109, 40, 110, 111, 112, 151, 152, 153, 154, 155, 156, 157, 158, 159, 160, 161, 162, 163, 134, 135, 136, 137, 138, 139, 140, 141, 142, 143, 144, 145, 146, 147, 148, 149, 150, 168, 169, 170, 171, 172, 173, 174] (by decide +kernel) (by decide +kernel)
set_option maxRecDepth 20000 in
theorem gX9_searchStraight_X8_make_n160 : GoodIn wsX9_searchStraight (wsX8_make) := ggX9_searchStraight_X8_make
set_option maxRecDepth 20000 in
theorem ggX9_searchStraight_X3_put : GoodIn wsX9_searchStraight wsX3_put := goodIn_r _ [115, 38, 164, 165, 166, 167] (by decide +kernel) (by decide +kernel)
set_option maxRecDepth 20000 in
theorem gX9_searchStraight_X3_put_n277 : GoodIn wsX9_searchStraight (wsX3_put) := ggX9_searchStraight_X3_put
theorem dX9_searchStraight_0 : decode cX9_searchStraight 0 = .ok (.aload_n 0, 1) := by decide +kernel
theorem dX9_searchStraight_1 : decode cX9_searchStraight 1 = .ok (.getfield 30, 3) := by decide +kernel
theorem dX9_searchStraight_4 : decode cX9_searchStraight 4 = .ok (.aload_n 0, 1) := by decide +kernel
theorem dX9_searchStraight_5 : decode cX9_searchStraight 5 = .ok (.getfield 26, 3) := by decide +kernel
theorem dX9_searchStraight_8 : decode cX9_searchStraight 8 = .ok (.invokevirtual 127, 3) := by decide +kernel
theorem dX9_searchStraight_11 : decode cX9_searchStraight 11 = .ok (.aload_n 0, 1) := by decide +kernel
theorem dX9_searchStraight_12 : decode cX9_searchStraight 12 = .ok (.getfield 88, 3) := by decide +kernel
theorem dX9_searchStraight_15 : decode cX9_searchStraight 15 = .ok (.iload_n 1, 1) := by decide +kernel
theorem dX9_searchStraight_16 : decode cX9_searchStraight 16 = .ok (.iconst 0, 1) := by decide +kernel
theorem dX9_searchStraight_17 : decode cX9_searchStraight 17 = .ok (.invokevirtual 274, 3) := by decide +kernel
theorem dX9_searchStraight_20 : decode cX9_searchStraight 20 = .ok (.ldc 179, 2) := by decide +kernel
theorem dX9_searchStraight_22 : decode cX9_searchStraight 22 = .ok (.istore_n 2, 1) := by decide +kernel
theorem dX9_searchStraight_23 : decode cX9_searchStraight 23 = .ok (.iconst 0, 1) := by decide +kernel
theorem dX9_searchStraight_24 : decode cX9_searchStraight 24 = .ok (.istore_n 3, 1) := by decide +kernel
theorem dX9_searchStraight_25 : decode cX9_searchStraight 25 = .ok (.iload_n 3, 1) := by decide +kernel
theorem dX9_searchStraight_26 : decode cX9_searchStraight 26 = .ok (.bipush 20, 2) := by decide +kernel
theorem dX9_searchStraight_28 : decode cX9_searchStraight 28 = .ok (.if_icmp .gt 88, 3) := by decide +kernel
theorem dX9_searchStraight_31 : decode cX9_searchStraight 31 = .ok (.aload_n 0, 1) := by decide +kernel
theorem dX9_searchStraight_32 : decode cX9_searchStraight 32 = .ok (.getfield 30, 3) := by decide +kernel
theorem dX9_searchStraight_35 : decode cX9_searchStraight 35 = .ok (.iload_n 3, 1) := by decide +kernel
theorem dX9_searchStraight_36 : decode cX9_searchStraight 36 = .ok (.putfield 286, 3) := by decide +kernel
theorem dX9_searchStraight_39 : decode cX9_searchStraight 39 = .ok (.aload_n 0, 1) := by decide +kernel
theorem dX9_searchStraight_40 : decode cX9_searchStraight 40 = .ok (.getfield 43, 3) := by decide +kernel
theorem dX9_searchStraight_43 : decode cX9_searchStraight 43 = .ok (.aload_n 0, 1) := by decide +kernel
theorem dX9_searchStraight_44 : decode cX9_searchStraight 44 = .ok (.getfield 30, 3) := by decide +kernel
theorem dX9_searchStraight_47 : decode cX9_searchStraight 47 = .ok (.iload_n 1, 1) := by decide +kernel
theorem dX9_searchStraight_48 : decode cX9_searchStraight 48 = .ok (.iconst (-1), 1) := by decide +kernel
theorem dX9_searchStraight_49 : decode cX9_searchStraight 49 = .ok (.sipush 600, 3) := by decide +kernel
theorem dX9_searchStraight_52 : decode cX9_searchStraight 52 = .ok (.iconst 0, 1) := by decide +kernel
theorem dX9_searchStraight_53 : decode cX9_searchStraight 53 = .ok (.invokevirtual 160, 3) := by decide +kernel
theorem dX9_searchStraight_56 : decode cX9_searchStraight 56 = .ok (.aload_n 0, 1) := by decide +kernel
theorem dX9_searchStraight_57 : decode cX9_searchStraight 57 = .ok (.getfield 43, 3) := by decide +kernel
theorem dX9_searchStraight_60 : decode cX9_searchStraight 60 = .ok (.getfield 167, 3) := by decide +kernel
theorem dX9_searchStraight_63 : decode cX9_searchStraight 63 = .ok (.getfield 176, 3) := by decide +kernel
theorem dX9_searchStraight_66 : decode cX9_searchStraight 66 = .ok (.invokestatic 206, 3) := by decide +kernel
theorem dX9_searchStraight_69 : decode cX9_searchStraight 69 = .ok (.istore 4, 2) := by decide +kernel
theorem dX9_searchStraight_71 : decode cX9_searchStraight 71 = .ok (.iload 4, 2) := by decide +kernel
theorem dX9_searchStraight_73 : decode cX9_searchStraight 73 = .ok (.iload_n 2, 1) := by decide +kernel
theorem dX9_searchStraight_74 : decode cX9_searchStraight 74 = .ok (.if_icmp .ge 36, 3) := by decide +kernel
theorem dX9_searchStraight_77 : decode cX9_searchStraight 77 = .ok (.iload 4, 2) := by decide +kernel
theorem dX9_searchStraight_79 : decode cX9_searchStraight 79 = .ok (.istore_n 2, 1) := by decide +kernel
theorem dX9_searchStraight_80 : decode cX9_searchStraight 80 = .ok (.aload_n 0, 1) := by decide +kernel
theorem dX9_searchStraight_81 : decode cX9_searchStraight 81 = .ok (.getfield 88, 3) := by decide +kernel
theorem dX9_searchStraight_84 : decode cX9_searchStraight 84 = .ok (.iconst 0, 1) := by decide +kernel
theorem dX9_searchStraight_85 : decode cX9_searchStraight 85 = .ok (.iload_n 3, 1) := by decide +kernel
theorem dX9_searchStraight_86 : decode cX9_searchStraight 86 = .ok (.invokevirtual 277, 3) := by decide +kernel
theorem dX9_searchStraight_89 : decode cX9_searchStraight 89 = .ok (.aload_n 0, 1) := by decide +kernel
theorem dX9_searchStraight_90 : decode cX9_searchStraight 90 = .ok (.getfield 88, 3) := by decide +kernel
theorem dX9_searchStraight_93 : decode cX9_searchStraight 93 = .ok (.iconst 1, 1) := by decide +kernel
theorem dX9_searchStraight_94 : decode cX9_searchStraight 94 = .ok (.aload_n 0, 1) := by decide +kernel
theorem dX9_searchStraight_95 : decode cX9_searchStraight 95 = .ok (.getfield 43, 3) := by decide +kernel
theorem dX9_searchStraight_98 : decode cX9_searchStraight 98 = .ok (.getfield 167, 3) := by decide +kernel
theorem dX9_searchStraight_101 : decode cX9_searchStraight 101 = .ok (.getfield 176, 3) := by decide +kernel
theorem dX9_searchStraight_104 : decode cX9_searchStraight 104 = .ok (.ldc 179, 2) := by decide +kernel
theorem dX9_searchStraight_106 : decode cX9_searchStraight 106 = .ok (.iadd, 1) := by decide +kernel
theorem dX9_searchStraight_107 : decode cX9_searchStraight 107 = .ok (.invokevirtual 277, 3) := by decide +kernel
theorem dX9_searchStraight_110 : decode cX9_searchStraight 110 = .ok (.iinc 3 1, 3) := by decide +kernel
theorem dX9_searchStraight_113 : decode cX9_searchStraight 113 = .ok (.goto (-88), 3) := by decide +kernel
theorem dX9_searchStraight_116 : decode cX9_searchStraight 116 = .ok (.return_, 1) := by decide +kernel
set_option maxRecDepth 20000 in
theorem ggX9_searchFits_X6_copy : GoodIn wsX9_searchFits wsX6_copy := goodIn_r _ [9, 10, 11, 12, 13, 14, 15, 16, 17, 18, 19, 20, 21, 22, 23, 24, 25, 26, 101, 102, 103, 104, 105, 106, 107, 108, 109, 110, 111, 112, 113, 114, 115, 116, 117] (by decide +kernel) (by decide +kernel)
set_option maxRecDepth 20000 in
theorem gX9_searchFits_X6_copy_n127 : GoodIn wsX9_searchFits (wsX6_copy) := ggX9_searchFits_X6_copy
set_option maxRecDepth 20000 in
theorem ggX9_searchFits_X3_learn : GoodIn wsX9_searchFits wsX3_learn := goodIn_r _ [30, 31, 32, 33, 34, 124, 125, 126, 127] (by decide +kernel) (by decide +kernel)
set_option maxRecDepth 20000 in
theorem gX9_searchFits_X3_learn_n274 : GoodIn wsX9_searchFits (wsX3_learn) := ggX9_searchFits_X3_learn
set_option maxRecDepth 20000 in
theorem ggX9_searchFits_X0_fit : GoodIn wsX9_searchFits wsX0_fit := goodIn_r _ [38, 39, 40, 41, 42, 43, 44, 45, 46, 47, 48, 101, 102, 103, 104, 105, 106, 107, 108, 109, 110, 111, 112, 113, 114, 115, 116, 117, 128, 129, 130, 131, 132, 133, 134] (by decide +kernel) (by decide +kernel)
set_option maxRecDepth 20000 in
theorem gX9_searchFits_X0_fit_n100 : GoodIn wsX9_searchFits (wsX0_fit) := ggX9_searchFits_X0_fit
set_option maxRecDepth 20000 in
theorem ggX9_searchFits_X1_agrees : GoodIn wsX9_searchFits wsX1_agrees := goodIn_r _ [52, 53, 54, 55, 56, 57, 58, 59, 60, 61, 36, 62, 63, 43, 44, 64, 65, 66, 67, 40, 39, 41, 42, 135, 136, 137, 138, 128, 129, 130, 131, 132, 133, 134] (by decide +kernel) (by decide +kernel)
set_option maxRecDepth 20000 in
theorem gX9_searchFits_X1_agrees_n293 : GoodIn wsX9_searchFits (wsX1_agrees) := ggX9_searchFits_X1_agrees
set_option maxRecDepth 20000 in
theorem ggX9_searchFits_X9_searchLoses : GoodIn wsX9_searchFits wsX9_searchLoses := goodIn_r _ [71, 1, 4, 5, 3, 35, 36, 37, 38, 39, 40, 41, 42, 43, 44, 45, 46, 47, 48, 49, 50, 51, 52, 53, 54, 55, 56, 57, 58, 59, 60, 61, 62, 63, 64, 65, 66, 67, 72, 28, 73, 74, 34, 75, 76, 77, 78, 79, 80, 81, 82, 83, 84, 85, 86, 87, 88, 89, 90, 91, 92, 93, 94, 95, 96, 97, 98, 99, 100, 101, 102, 103, 104, 105, 106, 107, 108, 109, 110, 111, 112, 113, 114, 115, 116, 117, 118, 119, 120, 121, 122, 123, 128, 129, 130, 131, 132, 133, 134, 135, 136, 137, 138, 124, 125, 126, 127] (by decide +kernel) (by decide +kernel)
set_option maxRecDepth 20000 in
theorem gX9_searchFits_X9_searchLoses : GoodIn wsX9_searchFits (wsV RX9 297 RX9 yX9_searchLoses wsX9_searchLoses) := goodIn_app (goodIn_of _ (by decide +kernel)) ggX9_searchFits_X9_searchLoses
theorem dX9_searchFits_0 : decode cX9_searchFits 0 = .ok (.aload_n 0, 1) := by decide +kernel
theorem dX9_searchFits_1 : decode cX9_searchFits 1 = .ok (.getfield 30, 3) := by decide +kernel
theorem dX9_searchFits_4 : decode cX9_searchFits 4 = .ok (.aload_n 0, 1) := by decide +kernel
theorem dX9_searchFits_5 : decode cX9_searchFits 5 = .ok (.getfield 26, 3) := by decide +kernel
theorem dX9_searchFits_8 : decode cX9_searchFits 8 = .ok (.invokevirtual 127, 3) := by decide +kernel
theorem dX9_searchFits_11 : decode cX9_searchFits 11 = .ok (.aload_n 0, 1) := by decide +kernel
theorem dX9_searchFits_12 : decode cX9_searchFits 12 = .ok (.getfield 91, 3) := by decide +kernel
theorem dX9_searchFits_15 : decode cX9_searchFits 15 = .ok (.iload_n 1, 1) := by decide +kernel
theorem dX9_searchFits_16 : decode cX9_searchFits 16 = .ok (.iconst 0, 1) := by decide +kernel
theorem dX9_searchFits_17 : decode cX9_searchFits 17 = .ok (.invokevirtual 274, 3) := by decide +kernel
theorem dX9_searchFits_20 : decode cX9_searchFits 20 = .ok (.iconst 1, 1) := by decide +kernel
theorem dX9_searchFits_21 : decode cX9_searchFits 21 = .ok (.istore_n 2, 1) := by decide +kernel
theorem dX9_searchFits_22 : decode cX9_searchFits 22 = .ok (.iload_n 2, 1) := by decide +kernel
theorem dX9_searchFits_23 : decode cX9_searchFits 23 = .ok (.bipush 99, 2) := by decide +kernel
theorem dX9_searchFits_25 : decode cX9_searchFits 25 = .ok (.if_icmp .gt 55, 3) := by decide +kernel
theorem dX9_searchFits_28 : decode cX9_searchFits 28 = .ok (.aload_n 0, 1) := by decide +kernel
theorem dX9_searchFits_29 : decode cX9_searchFits 29 = .ok (.getfield 30, 3) := by decide +kernel
theorem dX9_searchFits_32 : decode cX9_searchFits 32 = .ok (.iload_n 2, 1) := by decide +kernel
theorem dX9_searchFits_33 : decode cX9_searchFits 33 = .ok (.putfield 289, 3) := by decide +kernel
theorem dX9_searchFits_36 : decode cX9_searchFits 36 = .ok (.aload_n 0, 1) := by decide +kernel
theorem dX9_searchFits_37 : decode cX9_searchFits 37 = .ok (.getfield 43, 3) := by decide +kernel
theorem dX9_searchFits_40 : decode cX9_searchFits 40 = .ok (.getfield 292, 3) := by decide +kernel
theorem dX9_searchFits_43 : decode cX9_searchFits 43 = .ok (.aload_n 0, 1) := by decide +kernel
theorem dX9_searchFits_44 : decode cX9_searchFits 44 = .ok (.getfield 30, 3) := by decide +kernel
theorem dX9_searchFits_47 : decode cX9_searchFits 47 = .ok (.invokevirtual 100, 3) := by decide +kernel
theorem dX9_searchFits_50 : decode cX9_searchFits 50 = .ok (.aload_n 0, 1) := by decide +kernel
theorem dX9_searchFits_51 : decode cX9_searchFits 51 = .ok (.getfield 50, 3) := by decide +kernel
theorem dX9_searchFits_54 : decode cX9_searchFits 54 = .ok (.aload_n 0, 1) := by decide +kernel
theorem dX9_searchFits_55 : decode cX9_searchFits 55 = .ok (.getfield 43, 3) := by decide +kernel
theorem dX9_searchFits_58 : decode cX9_searchFits 58 = .ok (.getfield 292, 3) := by decide +kernel
theorem dX9_searchFits_61 : decode cX9_searchFits 61 = .ok (.iload_n 1, 1) := by decide +kernel
theorem dX9_searchFits_62 : decode cX9_searchFits 62 = .ok (.iconst 0, 1) := by decide +kernel
theorem dX9_searchFits_63 : decode cX9_searchFits 63 = .ok (.invokevirtual 293, 3) := by decide +kernel
theorem dX9_searchFits_66 : decode cX9_searchFits 66 = .ok (.ifCond .eq 8, 3) := by decide +kernel
theorem dX9_searchFits_69 : decode cX9_searchFits 69 = .ok (.aload_n 0, 1) := by decide +kernel
theorem dX9_searchFits_70 : decode cX9_searchFits 70 = .ok (.iload_n 1, 1) := by decide +kernel
theorem dX9_searchFits_71 : decode cX9_searchFits 71 = .ok (.invokevirtual 297, 3) := by decide +kernel
theorem dX9_searchFits_74 : decode cX9_searchFits 74 = .ok (.iinc 2 1, 3) := by decide +kernel
theorem dX9_searchFits_77 : decode cX9_searchFits 77 = .ok (.goto (-55), 3) := by decide +kernel
theorem dX9_searchFits_80 : decode cX9_searchFits 80 = .ok (.return_, 1) := by decide +kernel
set_option maxRecDepth 20000 in
theorem ggX9_searchLoses_X0_fit : GoodIn wsX9_searchLoses wsX0_fit := goodIn_r _ [8, 9, 10, 11, 12, 13, 14, 15, 16, 17, 18, 69, 70, 71, 72, 73, 74, 75, 76, 77, 78, 79, 80, 81, 82, 83, 84, 85, 92, 93, 94, 95, 96, 97, 98] (by decide +kernel) (by decide +kernel)
set_option maxRecDepth 20000 in
theorem gX9_searchLoses_X0_fit_n100 : GoodIn wsX9_searchLoses (wsX0_fit) := ggX9_searchLoses_X0_fit
set_option maxRecDepth 20000 in
theorem ggX9_searchLoses_X1_agrees : GoodIn wsX9_searchLoses wsX1_agrees := goodIn_r _ [22, 23, 24, 25, 26, 27, 28, 29, 30, 31, 6, 32, 33, 13, 14, 34, 35, 36, 37, 10, 9, 11, 12, 99, 100, 101, 102, 92, 93, 94, 95, 96, 97, 98] (by decide +kernel) (by decide +kernel)
set_option maxRecDepth 20000 in
theorem gX9_searchLoses_X1_agrees_n293 : GoodIn wsX9_searchLoses (wsX1_agrees) := ggX9_searchLoses_X1_agrees
set_option maxRecDepth 20000 in
theorem ggX9_searchLoses_X3_answer : GoodIn wsX9_searchLoses wsX3_answer := goodIn_r _ [41, 42, 103, 104, 105, 106] (by decide +kernel) (by decide +kernel)
set_option maxRecDepth 20000 in
theorem gX9_searchLoses_X3_answer_n203 : GoodIn wsX9_searchLoses (wsX3_answer) := ggX9_searchLoses_X3_answer
set_option maxRecDepth 20000 in
theorem ggX9_searchLoses_X3_put : GoodIn wsX9_searchLoses wsX3_put := goodIn_r _ [45, 42, 103, 104, 105, 106] (by decide +kernel) (by decide +kernel)
set_option maxRecDepth 20000 in
theorem gX9_searchLoses_X3_put_n277 : GoodIn wsX9_searchLoses (wsX3_put) := ggX9_searchLoses_X3_put
set_option maxRecDepth 20000 in
theorem ggX9_searchLoses_X3_widen : GoodIn wsX9_searchLoses wsX3_widen := goodIn_r _ [48, 49, 38, 40, 39, 41, 42, 50, 43, 44, 45, 103, 104, 105, 106] (by decide +kernel) (by decide +kernel)
set_option maxRecDepth 20000 in
theorem gX9_searchLoses_X3_widen_n303 : GoodIn wsX9_searchLoses (wsX3_widen) := ggX9_searchLoses_X3_widen
theorem dX9_searchLoses_0 : decode cX9_searchLoses 0 = .ok (.iconst 0, 1) := by decide +kernel
theorem dX9_searchLoses_1 : decode cX9_searchLoses 1 = .ok (.istore_n 2, 1) := by decide +kernel
theorem dX9_searchLoses_2 : decode cX9_searchLoses 2 = .ok (.iload_n 2, 1) := by decide +kernel
theorem dX9_searchLoses_3 : decode cX9_searchLoses 3 = .ok (.bipush 90, 2) := by decide +kernel
theorem dX9_searchLoses_5 : decode cX9_searchLoses 5 = .ok (.if_icmp .gt 111, 3) := by decide +kernel
theorem dX9_searchLoses_8 : decode cX9_searchLoses 8 = .ok (.aload_n 0, 1) := by decide +kernel
theorem dX9_searchLoses_9 : decode cX9_searchLoses 9 = .ok (.getfield 30, 3) := by decide +kernel
theorem dX9_searchLoses_12 : decode cX9_searchLoses 12 = .ok (.iload_n 2, 1) := by decide +kernel
theorem dX9_searchLoses_13 : decode cX9_searchLoses 13 = .ok (.putfield 300, 3) := by decide +kernel
theorem dX9_searchLoses_16 : decode cX9_searchLoses 16 = .ok (.aload_n 0, 1) := by decide +kernel
theorem dX9_searchLoses_17 : decode cX9_searchLoses 17 = .ok (.getfield 43, 3) := by decide +kernel
theorem dX9_searchLoses_20 : decode cX9_searchLoses 20 = .ok (.getfield 292, 3) := by decide +kernel
theorem dX9_searchLoses_23 : decode cX9_searchLoses 23 = .ok (.aload_n 0, 1) := by decide +kernel
theorem dX9_searchLoses_24 : decode cX9_searchLoses 24 = .ok (.getfield 30, 3) := by decide +kernel
theorem dX9_searchLoses_27 : decode cX9_searchLoses 27 = .ok (.invokevirtual 100, 3) := by decide +kernel
theorem dX9_searchLoses_30 : decode cX9_searchLoses 30 = .ok (.aload_n 0, 1) := by decide +kernel
theorem dX9_searchLoses_31 : decode cX9_searchLoses 31 = .ok (.getfield 50, 3) := by decide +kernel
theorem dX9_searchLoses_34 : decode cX9_searchLoses 34 = .ok (.aload_n 0, 1) := by decide +kernel
theorem dX9_searchLoses_35 : decode cX9_searchLoses 35 = .ok (.getfield 43, 3) := by decide +kernel
theorem dX9_searchLoses_38 : decode cX9_searchLoses 38 = .ok (.getfield 292, 3) := by decide +kernel
theorem dX9_searchLoses_41 : decode cX9_searchLoses 41 = .ok (.iload_n 1, 1) := by decide +kernel
theorem dX9_searchLoses_42 : decode cX9_searchLoses 42 = .ok (.iconst 1, 1) := by decide +kernel
theorem dX9_searchLoses_43 : decode cX9_searchLoses 43 = .ok (.invokevirtual 293, 3) := by decide +kernel
theorem dX9_searchLoses_46 : decode cX9_searchLoses 46 = .ok (.ifCond .eq 64, 3) := by decide +kernel
theorem dX9_searchLoses_49 : decode cX9_searchLoses 49 = .ok (.aload_n 0, 1) := by decide +kernel
theorem dX9_searchLoses_50 : decode cX9_searchLoses 50 = .ok (.getfield 91, 3) := by decide +kernel
theorem dX9_searchLoses_53 : decode cX9_searchLoses 53 = .ok (.iconst 0, 1) := by decide +kernel
theorem dX9_searchLoses_54 : decode cX9_searchLoses 54 = .ok (.invokevirtual 203, 3) := by decide +kernel
theorem dX9_searchLoses_57 : decode cX9_searchLoses 57 = .ok (.ifCond .ne 7, 3) := by decide +kernel
theorem dX9_searchLoses_60 : decode cX9_searchLoses 60 = .ok (.iconst 1, 1) := by decide +kernel
theorem dX9_searchLoses_61 : decode cX9_searchLoses 61 = .ok (.goto 4, 3) := by decide +kernel
theorem dX9_searchLoses_64 : decode cX9_searchLoses 64 = .ok (.iconst 0, 1) := by decide +kernel
theorem dX9_searchLoses_65 : decode cX9_searchLoses 65 = .ok (.istore_n 3, 1) := by decide +kernel
theorem dX9_searchLoses_66 : decode cX9_searchLoses 66 = .ok (.aload_n 0, 1) := by decide +kernel
theorem dX9_searchLoses_67 : decode cX9_searchLoses 67 = .ok (.getfield 91, 3) := by decide +kernel
theorem dX9_searchLoses_70 : decode cX9_searchLoses 70 = .ok (.iconst 0, 1) := by decide +kernel
theorem dX9_searchLoses_71 : decode cX9_searchLoses 71 = .ok (.aload_n 0, 1) := by decide +kernel
theorem dX9_searchLoses_72 : decode cX9_searchLoses 72 = .ok (.getfield 91, 3) := by decide +kernel
theorem dX9_searchLoses_75 : decode cX9_searchLoses 75 = .ok (.iconst 0, 1) := by decide +kernel
theorem dX9_searchLoses_76 : decode cX9_searchLoses 76 = .ok (.invokevirtual 203, 3) := by decide +kernel
theorem dX9_searchLoses_79 : decode cX9_searchLoses 79 = .ok (.iconst 1, 1) := by decide +kernel
theorem dX9_searchLoses_80 : decode cX9_searchLoses 80 = .ok (.iadd, 1) := by decide +kernel
theorem dX9_searchLoses_81 : decode cX9_searchLoses 81 = .ok (.invokevirtual 277, 3) := by decide +kernel
theorem dX9_searchLoses_84 : decode cX9_searchLoses 84 = .ok (.aload_n 0, 1) := by decide +kernel
theorem dX9_searchLoses_85 : decode cX9_searchLoses 85 = .ok (.getfield 91, 3) := by decide +kernel
theorem dX9_searchLoses_88 : decode cX9_searchLoses 88 = .ok (.iconst 1, 1) := by decide +kernel
theorem dX9_searchLoses_89 : decode cX9_searchLoses 89 = .ok (.iload_n 3, 1) := by decide +kernel
theorem dX9_searchLoses_90 : decode cX9_searchLoses 90 = .ok (.aload_n 0, 1) := by decide +kernel
theorem dX9_searchLoses_91 : decode cX9_searchLoses 91 = .ok (.getfield 30, 3) := by decide +kernel
theorem dX9_searchLoses_94 : decode cX9_searchLoses 94 = .ok (.getfield 289, 3) := by decide +kernel
theorem dX9_searchLoses_97 : decode cX9_searchLoses 97 = .ok (.invokevirtual 303, 3) := by decide +kernel
theorem dX9_searchLoses_100 : decode cX9_searchLoses 100 = .ok (.aload_n 0, 1) := by decide +kernel
theorem dX9_searchLoses_101 : decode cX9_searchLoses 101 = .ok (.getfield 91, 3) := by decide +kernel
theorem dX9_searchLoses_104 : decode cX9_searchLoses 104 = .ok (.iconst 3, 1) := by decide +kernel
theorem dX9_searchLoses_105 : decode cX9_searchLoses 105 = .ok (.iload_n 3, 1) := by decide +kernel
theorem dX9_searchLoses_106 : decode cX9_searchLoses 106 = .ok (.iload_n 2, 1) := by decide +kernel
theorem dX9_searchLoses_107 : decode cX9_searchLoses 107 = .ok (.invokevirtual 303, 3) := by decide +kernel
theorem dX9_searchLoses_110 : decode cX9_searchLoses 110 = .ok (.iinc 2 1, 3) := by decide +kernel
theorem dX9_searchLoses_113 : decode cX9_searchLoses 113 = .ok (.goto (-111), 3) := by decide +kernel
theorem dX9_searchLoses_116 : decode cX9_searchLoses 116 = .ok (.return_, 1) := by decide +kernel
set_option maxRecDepth 20000 in
theorem ggX9_searchTold_X6_copy : GoodIn wsX9_searchTold wsX6_copy := goodIn_r _ [9, 10, 11, 12, 13, 14, 15, 16, 17, 18, 19, 20, 21, 22, 23, 24, 25, 26, 158, 159, 160, 161, 162, 163, 164, 165, 166, 167, 168, 169, 170, 171, 172, 173, 174] (by decide +kernel) (by decide +kernel)
set_option maxRecDepth 20000 in
theorem gX9_searchTold_X6_copy_n127 : GoodIn wsX9_searchTold (wsX6_copy) := ggX9_searchTold_X6_copy
set_option maxRecDepth 20000 in
theorem ggX9_searchTold_X3_learn : GoodIn wsX9_searchTold wsX3_learn := goodIn_r _ [30, 31, 32, 33, 34, 175, 176, 177, 178] (by decide +kernel) (by decide +kernel)
set_option maxRecDepth 20000 in
theorem gX9_searchTold_X3_learn_n274 : GoodIn wsX9_searchTold (wsX3_learn) := ggX9_searchTold_X3_learn
set_option maxRecDepth 20000 in
theorem ggX9_searchTold_X2_latest : GoodIn wsX9_searchTold wsX2_latest := goodIn_r _ [38, 39, 40, 41, 42, 43, 44, 179, 180, 181] (by decide +kernel) (by decide +kernel)
set_option maxRecDepth 20000 in
theorem gX9_searchTold_X2_latest_n307 : GoodIn wsX9_searchTold (wsX2_latest) := ggX9_searchTold_X2_latest
set_option maxRecDepth 20000 in
theorem ggX9_searchTold_X8_make : GoodIn wsX9_searchTold wsX8_make := goodIn_r _ [48, 49, 50, 51, 52, 53, 54, 55, 56, 57, 58, 59, 60, 61, 62, 63, 64, 65, 66, 67, 68, 69, 70, 71, 72, 73, 74, 75, 76, 77, 78, 79, 80, 81, 82, 83, 84, 85, 86, 87, 88, 89, 90, 91, 92, 93, 43, 94, 95, 42, 44, 96, 97, 98, 99, 100, 101, 102, 103, 104, 105, 106, 107, 108, 109, 110, 111, 112, 113, 46, 114, 115, 116, 182, 183, 184, 185, 186, 187, 188, 189, 190, 191, 192, 193, 194, 158, 159, 160, 161, 162, 163, 164, 165, 166, 167, 168, 169, 170, 171, 172, 173, 174, 195, 196, 197, 198, 199, 200, 201] (by decide +kernel) (by decide +kernel)
set_option maxRecDepth 20000 in
theorem gX9_searchTold_X8_make_n160 : GoodIn wsX9_searchTold (wsX8_make) := ggX9_searchTold_X8_make
set_option maxRecDepth 20000 in
theorem ggX9_searchTold_X2_agree : GoodIn wsX9_searchTold wsX2_agree := goodIn_r _ [119, 39, 40, 120, 121, 46, 122, 123, 51, 124, 93, 43, 94, 116, 179, 180, 181, 182, 183, 184, 185, 186, 187] (by decide +kernel) (by decide +kernel)
set_option maxRecDepth 20000 in
theorem gX9_searchTold_X2_agree_n311 : GoodIn wsX9_searchTold (wsX2_agree) := ggX9_searchTold_X2_agree
set_option maxRecDepth 20000 in
theorem ggX9_searchTold_X9_noteTold : GoodIn wsX9_searchTold wsX9_noteTold := goodIn_r _ [128, 3, 1, 129, 28, 130, 131, 34, 132, 133, 134, 135, 136, 137, 138, 139, 140, 141, 142, 143, 144, 145, 146, 147, 148, 149, 150, 151, 152, 153, 154, 155, 156, 157, 158, 159, 160, 161, 162, 163, 164, 165, 166, 167, 168, 169, 170, 171, 172, 173, 174, 175, 176, 177, 178] (by decide +kernel) (by decide +kernel)
set_option maxRecDepth 20000 in
theorem gX9_searchTold_X9_noteTold : GoodIn wsX9_searchTold (wsV RX9 315 RX9 yX9_noteTold wsX9_noteTold) := goodIn_app (goodIn_of _ (by decide +kernel)) ggX9_searchTold_X9_noteTold
theorem dX9_searchTold_0 : decode cX9_searchTold 0 = .ok (.aload_n 0, 1) := by decide +kernel
theorem dX9_searchTold_1 : decode cX9_searchTold 1 = .ok (.getfield 30, 3) := by decide +kernel
theorem dX9_searchTold_4 : decode cX9_searchTold 4 = .ok (.aload_n 0, 1) := by decide +kernel
theorem dX9_searchTold_5 : decode cX9_searchTold 5 = .ok (.getfield 26, 3) := by decide +kernel
theorem dX9_searchTold_8 : decode cX9_searchTold 8 = .ok (.invokevirtual 127, 3) := by decide +kernel
theorem dX9_searchTold_11 : decode cX9_searchTold 11 = .ok (.aload_n 0, 1) := by decide +kernel
theorem dX9_searchTold_12 : decode cX9_searchTold 12 = .ok (.getfield 94, 3) := by decide +kernel
theorem dX9_searchTold_15 : decode cX9_searchTold 15 = .ok (.iload_n 1, 1) := by decide +kernel
theorem dX9_searchTold_16 : decode cX9_searchTold 16 = .ok (.iconst 0, 1) := by decide +kernel
theorem dX9_searchTold_17 : decode cX9_searchTold 17 = .ok (.invokevirtual 274, 3) := by decide +kernel
theorem dX9_searchTold_20 : decode cX9_searchTold 20 = .ok (.aload_n 0, 1) := by decide +kernel
theorem dX9_searchTold_21 : decode cX9_searchTold 21 = .ok (.getfield 57, 3) := by decide +kernel
theorem dX9_searchTold_24 : decode cX9_searchTold 24 = .ok (.invokevirtual 307, 3) := by decide +kernel
theorem dX9_searchTold_27 : decode cX9_searchTold 27 = .ok (.istore_n 2, 1) := by decide +kernel
theorem dX9_searchTold_28 : decode cX9_searchTold 28 = .ok (.iconst 1, 1) := by decide +kernel
theorem dX9_searchTold_29 : decode cX9_searchTold 29 = .ok (.istore_n 3, 1) := by decide +kernel
theorem dX9_searchTold_30 : decode cX9_searchTold 30 = .ok (.iload_n 3, 1) := by decide +kernel
theorem dX9_searchTold_31 : decode cX9_searchTold 31 = .ok (.bipush 8, 2) := by decide +kernel
theorem dX9_searchTold_33 : decode cX9_searchTold 33 = .ok (.if_icmp .gt 97, 3) := by decide +kernel
theorem dX9_searchTold_36 : decode cX9_searchTold 36 = .ok (.iconst 1, 1) := by decide +kernel
theorem dX9_searchTold_37 : decode cX9_searchTold 37 = .ok (.istore 4, 2) := by decide +kernel
theorem dX9_searchTold_39 : decode cX9_searchTold 39 = .ok (.iload 4, 2) := by decide +kernel
theorem dX9_searchTold_41 : decode cX9_searchTold 41 = .ok (.bipush 9, 2) := by decide +kernel
theorem dX9_searchTold_43 : decode cX9_searchTold 43 = .ok (.if_icmp .gt 81, 3) := by decide +kernel
theorem dX9_searchTold_46 : decode cX9_searchTold 46 = .ok (.aload_n 0, 1) := by decide +kernel
theorem dX9_searchTold_47 : decode cX9_searchTold 47 = .ok (.getfield 30, 3) := by decide +kernel
theorem dX9_searchTold_50 : decode cX9_searchTold 50 = .ok (.iload_n 3, 1) := by decide +kernel
theorem dX9_searchTold_51 : decode cX9_searchTold 51 = .ok (.putfield 261, 3) := by decide +kernel
theorem dX9_searchTold_54 : decode cX9_searchTold 54 = .ok (.aload_n 0, 1) := by decide +kernel
theorem dX9_searchTold_55 : decode cX9_searchTold 55 = .ok (.getfield 30, 3) := by decide +kernel
theorem dX9_searchTold_58 : decode cX9_searchTold 58 = .ok (.iload 4, 2) := by decide +kernel
theorem dX9_searchTold_60 : decode cX9_searchTold 60 = .ok (.putfield 283, 3) := by decide +kernel
theorem dX9_searchTold_63 : decode cX9_searchTold 63 = .ok (.bipush 10, 2) := by decide +kernel
theorem dX9_searchTold_65 : decode cX9_searchTold 65 = .ok (.istore 5, 2) := by decide +kernel
theorem dX9_searchTold_67 : decode cX9_searchTold 67 = .ok (.iload 5, 2) := by decide +kernel
theorem dX9_searchTold_69 : decode cX9_searchTold 69 = .ok (.sipush 400, 3) := by decide +kernel
theorem dX9_searchTold_72 : decode cX9_searchTold 72 = .ok (.if_icmp .gt 46, 3) := by decide +kernel
theorem dX9_searchTold_75 : decode cX9_searchTold 75 = .ok (.aload_n 0, 1) := by decide +kernel
theorem dX9_searchTold_76 : decode cX9_searchTold 76 = .ok (.getfield 43, 3) := by decide +kernel
theorem dX9_searchTold_79 : decode cX9_searchTold 79 = .ok (.aload_n 0, 1) := by decide +kernel
theorem dX9_searchTold_80 : decode cX9_searchTold 80 = .ok (.getfield 30, 3) := by decide +kernel
theorem dX9_searchTold_83 : decode cX9_searchTold 83 = .ok (.iload 5, 2) := by decide +kernel
theorem dX9_searchTold_85 : decode cX9_searchTold 85 = .ok (.iconst (-1), 1) := by decide +kernel
theorem dX9_searchTold_86 : decode cX9_searchTold 86 = .ok (.iload_n 2, 1) := by decide +kernel
theorem dX9_searchTold_87 : decode cX9_searchTold 87 = .ok (.iconst 0, 1) := by decide +kernel
theorem dX9_searchTold_88 : decode cX9_searchTold 88 = .ok (.invokevirtual 160, 3) := by decide +kernel
theorem dX9_searchTold_91 : decode cX9_searchTold 91 = .ok (.aload_n 0, 1) := by decide +kernel
theorem dX9_searchTold_92 : decode cX9_searchTold 92 = .ok (.getfield 57, 3) := by decide +kernel
theorem dX9_searchTold_95 : decode cX9_searchTold 95 = .ok (.aload_n 0, 1) := by decide +kernel
theorem dX9_searchTold_96 : decode cX9_searchTold 96 = .ok (.getfield 43, 3) := by decide +kernel
theorem dX9_searchTold_99 : decode cX9_searchTold 99 = .ok (.iload_n 1, 1) := by decide +kernel
theorem dX9_searchTold_100 : decode cX9_searchTold 100 = .ok (.invokevirtual 311, 3) := by decide +kernel
theorem dX9_searchTold_103 : decode cX9_searchTold 103 = .ok (.ifCond .eq 9, 3) := by decide +kernel
theorem dX9_searchTold_106 : decode cX9_searchTold 106 = .ok (.aload_n 0, 1) := by decide +kernel
theorem dX9_searchTold_107 : decode cX9_searchTold 107 = .ok (.iload 5, 2) := by decide +kernel
theorem dX9_searchTold_109 : decode cX9_searchTold 109 = .ok (.invokevirtual 315, 3) := by decide +kernel
theorem dX9_searchTold_112 : decode cX9_searchTold 112 = .ok (.iinc 5 10, 3) := by decide +kernel
theorem dX9_searchTold_115 : decode cX9_searchTold 115 = .ok (.goto (-48), 3) := by decide +kernel
theorem dX9_searchTold_118 : decode cX9_searchTold 118 = .ok (.iinc 4 1, 3) := by decide +kernel
theorem dX9_searchTold_121 : decode cX9_searchTold 121 = .ok (.goto (-82), 3) := by decide +kernel
theorem dX9_searchTold_124 : decode cX9_searchTold 124 = .ok (.iinc 3 1, 3) := by decide +kernel
theorem dX9_searchTold_127 : decode cX9_searchTold 127 = .ok (.goto (-97), 3) := by decide +kernel
theorem dX9_searchTold_130 : decode cX9_searchTold 130 = .ok (.return_, 1) := by decide +kernel
set_option maxRecDepth 20000 in
theorem ggX9_noteTold_X3_answer : GoodIn wsX9_noteTold wsX3_answer := goodIn_r _ [6, 7, 51, 52, 53, 54] (by decide +kernel) (by decide +kernel)
set_option maxRecDepth 20000 in
theorem gX9_noteTold_X3_answer_n203 : GoodIn wsX9_noteTold (wsX3_answer) := ggX9_noteTold_X3_answer
set_option maxRecDepth 20000 in
theorem ggX9_noteTold_X3_put : GoodIn wsX9_noteTold wsX3_put := goodIn_r _ [10, 7, 51, 52, 53, 54] (by decide +kernel) (by decide +kernel)
set_option maxRecDepth 20000 in
theorem gX9_noteTold_X3_put_n277 : GoodIn wsX9_noteTold (wsX3_put) := ggX9_noteTold_X3_put
set_option maxRecDepth 20000 in
theorem ggX9_noteTold_X3_widen : GoodIn wsX9_noteTold wsX3_widen := goodIn_r _ [13, 14, 3, 5, 4, 6, 7, 15, 8, 9, 10, 51, 52, 53, 54] (by decide +kernel) (by decide +kernel)
set_option maxRecDepth 20000 in
theorem gX9_noteTold_X3_widen_n303 : GoodIn wsX9_noteTold (wsX3_widen) := ggX9_noteTold_X3_widen
theorem dX9_noteTold_0 : decode cX9_noteTold 0 = .ok (.aload_n 0, 1) := by decide +kernel
theorem dX9_noteTold_1 : decode cX9_noteTold 1 = .ok (.getfield 94, 3) := by decide +kernel
theorem dX9_noteTold_4 : decode cX9_noteTold 4 = .ok (.iconst 0, 1) := by decide +kernel
theorem dX9_noteTold_5 : decode cX9_noteTold 5 = .ok (.invokevirtual 203, 3) := by decide +kernel
theorem dX9_noteTold_8 : decode cX9_noteTold 8 = .ok (.ifCond .ne 7, 3) := by decide +kernel
theorem dX9_noteTold_11 : decode cX9_noteTold 11 = .ok (.iconst 1, 1) := by decide +kernel
theorem dX9_noteTold_12 : decode cX9_noteTold 12 = .ok (.goto 4, 3) := by decide +kernel
theorem dX9_noteTold_15 : decode cX9_noteTold 15 = .ok (.iconst 0, 1) := by decide +kernel
theorem dX9_noteTold_16 : decode cX9_noteTold 16 = .ok (.istore_n 2, 1) := by decide +kernel
theorem dX9_noteTold_17 : decode cX9_noteTold 17 = .ok (.aload_n 0, 1) := by decide +kernel
theorem dX9_noteTold_18 : decode cX9_noteTold 18 = .ok (.getfield 94, 3) := by decide +kernel
theorem dX9_noteTold_21 : decode cX9_noteTold 21 = .ok (.iconst 0, 1) := by decide +kernel
theorem dX9_noteTold_22 : decode cX9_noteTold 22 = .ok (.aload_n 0, 1) := by decide +kernel
theorem dX9_noteTold_23 : decode cX9_noteTold 23 = .ok (.getfield 94, 3) := by decide +kernel
theorem dX9_noteTold_26 : decode cX9_noteTold 26 = .ok (.iconst 0, 1) := by decide +kernel
theorem dX9_noteTold_27 : decode cX9_noteTold 27 = .ok (.invokevirtual 203, 3) := by decide +kernel
theorem dX9_noteTold_30 : decode cX9_noteTold 30 = .ok (.iconst 1, 1) := by decide +kernel
theorem dX9_noteTold_31 : decode cX9_noteTold 31 = .ok (.iadd, 1) := by decide +kernel
theorem dX9_noteTold_32 : decode cX9_noteTold 32 = .ok (.invokevirtual 277, 3) := by decide +kernel
theorem dX9_noteTold_35 : decode cX9_noteTold 35 = .ok (.iload_n 2, 1) := by decide +kernel
theorem dX9_noteTold_36 : decode cX9_noteTold 36 = .ok (.ifCond .eq 42, 3) := by decide +kernel
theorem dX9_noteTold_39 : decode cX9_noteTold 39 = .ok (.aload_n 0, 1) := by decide +kernel
theorem dX9_noteTold_40 : decode cX9_noteTold 40 = .ok (.getfield 94, 3) := by decide +kernel
theorem dX9_noteTold_43 : decode cX9_noteTold 43 = .ok (.iconst 1, 1) := by decide +kernel
theorem dX9_noteTold_44 : decode cX9_noteTold 44 = .ok (.aload_n 0, 1) := by decide +kernel
theorem dX9_noteTold_45 : decode cX9_noteTold 45 = .ok (.getfield 30, 3) := by decide +kernel
theorem dX9_noteTold_48 : decode cX9_noteTold 48 = .ok (.getfield 261, 3) := by decide +kernel
theorem dX9_noteTold_51 : decode cX9_noteTold 51 = .ok (.invokevirtual 277, 3) := by decide +kernel
theorem dX9_noteTold_54 : decode cX9_noteTold 54 = .ok (.aload_n 0, 1) := by decide +kernel
theorem dX9_noteTold_55 : decode cX9_noteTold 55 = .ok (.getfield 94, 3) := by decide +kernel
theorem dX9_noteTold_58 : decode cX9_noteTold 58 = .ok (.iconst 2, 1) := by decide +kernel
theorem dX9_noteTold_59 : decode cX9_noteTold 59 = .ok (.aload_n 0, 1) := by decide +kernel
theorem dX9_noteTold_60 : decode cX9_noteTold 60 = .ok (.getfield 30, 3) := by decide +kernel
theorem dX9_noteTold_63 : decode cX9_noteTold 63 = .ok (.getfield 283, 3) := by decide +kernel
theorem dX9_noteTold_66 : decode cX9_noteTold 66 = .ok (.invokevirtual 277, 3) := by decide +kernel
theorem dX9_noteTold_69 : decode cX9_noteTold 69 = .ok (.aload_n 0, 1) := by decide +kernel
theorem dX9_noteTold_70 : decode cX9_noteTold 70 = .ok (.getfield 94, 3) := by decide +kernel
theorem dX9_noteTold_73 : decode cX9_noteTold 73 = .ok (.iconst 3, 1) := by decide +kernel
theorem dX9_noteTold_74 : decode cX9_noteTold 74 = .ok (.iload_n 1, 1) := by decide +kernel
theorem dX9_noteTold_75 : decode cX9_noteTold 75 = .ok (.invokevirtual 277, 3) := by decide +kernel
theorem dX9_noteTold_78 : decode cX9_noteTold 78 = .ok (.aload_n 0, 1) := by decide +kernel
theorem dX9_noteTold_79 : decode cX9_noteTold 79 = .ok (.getfield 94, 3) := by decide +kernel
theorem dX9_noteTold_82 : decode cX9_noteTold 82 = .ok (.iconst 4, 1) := by decide +kernel
theorem dX9_noteTold_83 : decode cX9_noteTold 83 = .ok (.iload_n 2, 1) := by decide +kernel
theorem dX9_noteTold_84 : decode cX9_noteTold 84 = .ok (.aload_n 0, 1) := by decide +kernel
theorem dX9_noteTold_85 : decode cX9_noteTold 85 = .ok (.getfield 30, 3) := by decide +kernel
theorem dX9_noteTold_88 : decode cX9_noteTold 88 = .ok (.getfield 261, 3) := by decide +kernel
theorem dX9_noteTold_91 : decode cX9_noteTold 91 = .ok (.invokevirtual 303, 3) := by decide +kernel
theorem dX9_noteTold_94 : decode cX9_noteTold 94 = .ok (.aload_n 0, 1) := by decide +kernel
theorem dX9_noteTold_95 : decode cX9_noteTold 95 = .ok (.getfield 94, 3) := by decide +kernel
theorem dX9_noteTold_98 : decode cX9_noteTold 98 = .ok (.bipush 6, 2) := by decide +kernel
theorem dX9_noteTold_100 : decode cX9_noteTold 100 = .ok (.iload_n 2, 1) := by decide +kernel
theorem dX9_noteTold_101 : decode cX9_noteTold 101 = .ok (.aload_n 0, 1) := by decide +kernel
theorem dX9_noteTold_102 : decode cX9_noteTold 102 = .ok (.getfield 30, 3) := by decide +kernel
theorem dX9_noteTold_105 : decode cX9_noteTold 105 = .ok (.getfield 283, 3) := by decide +kernel
theorem dX9_noteTold_108 : decode cX9_noteTold 108 = .ok (.invokevirtual 303, 3) := by decide +kernel
theorem dX9_noteTold_111 : decode cX9_noteTold 111 = .ok (.aload_n 0, 1) := by decide +kernel
theorem dX9_noteTold_112 : decode cX9_noteTold 112 = .ok (.getfield 94, 3) := by decide +kernel
theorem dX9_noteTold_115 : decode cX9_noteTold 115 = .ok (.bipush 8, 2) := by decide +kernel
theorem dX9_noteTold_117 : decode cX9_noteTold 117 = .ok (.iload_n 2, 1) := by decide +kernel
theorem dX9_noteTold_118 : decode cX9_noteTold 118 = .ok (.iload_n 1, 1) := by decide +kernel
theorem dX9_noteTold_119 : decode cX9_noteTold 119 = .ok (.invokevirtual 303, 3) := by decide +kernel
theorem dX9_noteTold_122 : decode cX9_noteTold 122 = .ok (.return_, 1) := by decide +kernel
set_option maxRecDepth 20000 in
theorem ggX10_init_X10_begins : GoodIn wsX10_init wsX10_begins := goodIn_r _ [18, 6, 19, 20, 21, 22, 23, 24, 25, 26, 27, 28, 29, 30, 31, 32, 33, 34, 35, 36, 37, 38, 39, 40, 41, 42, 43, 44, 45] (by decide +kernel) (by decide +kernel)
set_option maxRecDepth 20000 in
theorem gX10_init_X10_begins : GoodIn wsX10_init (wsV RX10 37 RX10 yX10_begins wsX10_begins) := goodIn_app (goodIn_of _ (by decide +kernel)) ggX10_init_X10_begins
theorem dX10_init_0 : decode cX10_init 0 = .ok (.aload_n 0, 1) := by decide +kernel
theorem dX10_init_1 : decode cX10_init 1 = .ok (.invokespecial 1, 3) := by decide +kernel
theorem dX10_init_4 : decode cX10_init 4 = .ok (.aload_n 0, 1) := by decide +kernel
theorem dX10_init_5 : decode cX10_init 5 = .ok (.sipush 300, 3) := by decide +kernel
theorem dX10_init_8 : decode cX10_init 8 = .ok (.newarray .int, 2) := by decide +kernel
theorem dX10_init_10 : decode cX10_init 10 = .ok (.putfield 7, 3) := by decide +kernel
theorem dX10_init_13 : decode cX10_init 13 = .ok (.aload_n 0, 1) := by decide +kernel
theorem dX10_init_14 : decode cX10_init 14 = .ok (.bipush 60, 2) := by decide +kernel
theorem dX10_init_16 : decode cX10_init 16 = .ok (.newarray .int, 2) := by decide +kernel
theorem dX10_init_18 : decode cX10_init 18 = .ok (.putfield 13, 3) := by decide +kernel
theorem dX10_init_21 : decode cX10_init 21 = .ok (.aload_n 0, 1) := by decide +kernel
theorem dX10_init_22 : decode cX10_init 22 = .ok (.bipush 6, 2) := by decide +kernel
theorem dX10_init_24 : decode cX10_init 24 = .ok (.newarray .int, 2) := by decide +kernel
theorem dX10_init_26 : decode cX10_init 26 = .ok (.putfield 16, 3) := by decide +kernel
theorem dX10_init_29 : decode cX10_init 29 = .ok (.aload_n 0, 1) := by decide +kernel
theorem dX10_init_30 : decode cX10_init 30 = .ok (.bipush 6, 2) := by decide +kernel
theorem dX10_init_32 : decode cX10_init 32 = .ok (.newarray .int, 2) := by decide +kernel
theorem dX10_init_34 : decode cX10_init 34 = .ok (.putfield 19, 3) := by decide +kernel
theorem dX10_init_37 : decode cX10_init 37 = .ok (.aload_n 0, 1) := by decide +kernel
theorem dX10_init_38 : decode cX10_init 38 = .ok (.bipush 12, 2) := by decide +kernel
theorem dX10_init_40 : decode cX10_init 40 = .ok (.newarray .int, 2) := by decide +kernel
theorem dX10_init_42 : decode cX10_init 42 = .ok (.putfield 22, 3) := by decide +kernel
theorem dX10_init_45 : decode cX10_init 45 = .ok (.aload_n 0, 1) := by decide +kernel
theorem dX10_init_46 : decode cX10_init 46 = .ok (.bipush 18, 2) := by decide +kernel
theorem dX10_init_48 : decode cX10_init 48 = .ok (.newarray .int, 2) := by decide +kernel
theorem dX10_init_50 : decode cX10_init 50 = .ok (.putfield 25, 3) := by decide +kernel
theorem dX10_init_53 : decode cX10_init 53 = .ok (.aload_n 0, 1) := by decide +kernel
theorem dX10_init_54 : decode cX10_init 54 = .ok (.bipush 8, 2) := by decide +kernel
theorem dX10_init_56 : decode cX10_init 56 = .ok (.newarray .int, 2) := by decide +kernel
theorem dX10_init_58 : decode cX10_init 58 = .ok (.putfield 28, 3) := by decide +kernel
theorem dX10_init_61 : decode cX10_init 61 = .ok (.aload_n 0, 1) := by decide +kernel
theorem dX10_init_62 : decode cX10_init 62 = .ok (.iconst 4, 1) := by decide +kernel
theorem dX10_init_63 : decode cX10_init 63 = .ok (.newarray .int, 2) := by decide +kernel
theorem dX10_init_65 : decode cX10_init 65 = .ok (.putfield 31, 3) := by decide +kernel
theorem dX10_init_68 : decode cX10_init 68 = .ok (.aload_n 0, 1) := by decide +kernel
theorem dX10_init_69 : decode cX10_init 69 = .ok (.bipush 10, 2) := by decide +kernel
theorem dX10_init_71 : decode cX10_init 71 = .ok (.newarray .int, 2) := by decide +kernel
theorem dX10_init_73 : decode cX10_init 73 = .ok (.putfield 34, 3) := by decide +kernel
theorem dX10_init_76 : decode cX10_init 76 = .ok (.aload_n 0, 1) := by decide +kernel
theorem dX10_init_77 : decode cX10_init 77 = .ok (.iconst 0, 1) := by decide +kernel
theorem dX10_init_78 : decode cX10_init 78 = .ok (.invokevirtual 37, 3) := by decide +kernel
theorem dX10_init_81 : decode cX10_init 81 = .ok (.aload_n 0, 1) := by decide +kernel
theorem dX10_init_82 : decode cX10_init 82 = .ok (.getfield 13, 3) := by decide +kernel
theorem dX10_init_85 : decode cX10_init 85 = .ok (.iconst 0, 1) := by decide +kernel
theorem dX10_init_86 : decode cX10_init 86 = .ok (.bipush 20, 2) := by decide +kernel
theorem dX10_init_88 : decode cX10_init 88 = .ok (.iastore, 1) := by decide +kernel
theorem dX10_init_89 : decode cX10_init 89 = .ok (.aload_n 0, 1) := by decide +kernel
theorem dX10_init_90 : decode cX10_init 90 = .ok (.getfield 13, 3) := by decide +kernel
theorem dX10_init_93 : decode cX10_init 93 = .ok (.iconst 1, 1) := by decide +kernel
theorem dX10_init_94 : decode cX10_init 94 = .ok (.bipush 30, 2) := by decide +kernel
theorem dX10_init_96 : decode cX10_init 96 = .ok (.iastore, 1) := by decide +kernel
theorem dX10_init_97 : decode cX10_init 97 = .ok (.aload_n 0, 1) := by decide +kernel
theorem dX10_init_98 : decode cX10_init 98 = .ok (.getfield 13, 3) := by decide +kernel
theorem dX10_init_101 : decode cX10_init 101 = .ok (.iconst 2, 1) := by decide +kernel
theorem dX10_init_102 : decode cX10_init 102 = .ok (.iconst 5, 1) := by decide +kernel
theorem dX10_init_103 : decode cX10_init 103 = .ok (.iastore, 1) := by decide +kernel
theorem dX10_init_104 : decode cX10_init 104 = .ok (.aload_n 0, 1) := by decide +kernel
theorem dX10_init_105 : decode cX10_init 105 = .ok (.getfield 13, 3) := by decide +kernel
theorem dX10_init_108 : decode cX10_init 108 = .ok (.iconst 3, 1) := by decide +kernel
theorem dX10_init_109 : decode cX10_init 109 = .ok (.bipush 9, 2) := by decide +kernel
theorem dX10_init_111 : decode cX10_init 111 = .ok (.iastore, 1) := by decide +kernel
theorem dX10_init_112 : decode cX10_init 112 = .ok (.aload_n 0, 1) := by decide +kernel
theorem dX10_init_113 : decode cX10_init 113 = .ok (.getfield 13, 3) := by decide +kernel
theorem dX10_init_116 : decode cX10_init 116 = .ok (.bipush 17, 2) := by decide +kernel
theorem dX10_init_118 : decode cX10_init 118 = .ok (.iconst 2, 1) := by decide +kernel
theorem dX10_init_119 : decode cX10_init 119 = .ok (.iastore, 1) := by decide +kernel
theorem dX10_init_120 : decode cX10_init 120 = .ok (.aload_n 0, 1) := by decide +kernel
theorem dX10_init_121 : decode cX10_init 121 = .ok (.getfield 13, 3) := by decide +kernel
theorem dX10_init_124 : decode cX10_init 124 = .ok (.bipush 18, 2) := by decide +kernel
theorem dX10_init_126 : decode cX10_init 126 = .ok (.bipush 10, 2) := by decide +kernel
theorem dX10_init_128 : decode cX10_init 128 = .ok (.iastore, 1) := by decide +kernel
theorem dX10_init_129 : decode cX10_init 129 = .ok (.aload_n 0, 1) := by decide +kernel
theorem dX10_init_130 : decode cX10_init 130 = .ok (.getfield 13, 3) := by decide +kernel
theorem dX10_init_133 : decode cX10_init 133 = .ok (.bipush 28, 2) := by decide +kernel
theorem dX10_init_135 : decode cX10_init 135 = .ok (.iconst 1, 1) := by decide +kernel
theorem dX10_init_136 : decode cX10_init 136 = .ok (.iastore, 1) := by decide +kernel
theorem dX10_init_137 : decode cX10_init 137 = .ok (.aload_n 0, 1) := by decide +kernel
theorem dX10_init_138 : decode cX10_init 138 = .ok (.getfield 13, 3) := by decide +kernel
theorem dX10_init_141 : decode cX10_init 141 = .ok (.bipush 29, 2) := by decide +kernel
theorem dX10_init_143 : decode cX10_init 143 = .ok (.iconst 1, 1) := by decide +kernel
theorem dX10_init_144 : decode cX10_init 144 = .ok (.iastore, 1) := by decide +kernel
theorem dX10_init_145 : decode cX10_init 145 = .ok (.return_, 1) := by decide +kernel
theorem dX10_in_0 : decode cX10_in 0 = .ok (.iload_n 0, 1) := by decide +kernel
theorem dX10_in_1 : decode cX10_in 1 = .ok (.iload_n 1, 1) := by decide +kernel
theorem dX10_in_2 : decode cX10_in 2 = .ok (.if_icmp .lt 12, 3) := by decide +kernel
theorem dX10_in_5 : decode cX10_in 5 = .ok (.iload_n 0, 1) := by decide +kernel
theorem dX10_in_6 : decode cX10_in 6 = .ok (.iload_n 2, 1) := by decide +kernel
theorem dX10_in_7 : decode cX10_in 7 = .ok (.if_icmp .gt 7, 3) := by decide +kernel
theorem dX10_in_10 : decode cX10_in 10 = .ok (.iconst 1, 1) := by decide +kernel
theorem dX10_in_11 : decode cX10_in 11 = .ok (.goto 4, 3) := by decide +kernel
theorem dX10_in_14 : decode cX10_in 14 = .ok (.iconst 0, 1) := by decide +kernel
theorem dX10_in_15 : decode cX10_in 15 = .ok (.ireturn, 1) := by decide +kernel
theorem dX10_begins_0 : decode cX10_begins 0 = .ok (.iconst 0, 1) := by decide +kernel
theorem dX10_begins_1 : decode cX10_begins 1 = .ok (.istore_n 2, 1) := by decide +kernel
theorem dX10_begins_2 : decode cX10_begins 2 = .ok (.iload_n 2, 1) := by decide +kernel
theorem dX10_begins_3 : decode cX10_begins 3 = .ok (.bipush 30, 2) := by decide +kernel
theorem dX10_begins_5 : decode cX10_begins 5 = .ok (.if_icmp .ge 56, 3) := by decide +kernel
theorem dX10_begins_8 : decode cX10_begins 8 = .ok (.aload_n 0, 1) := by decide +kernel
theorem dX10_begins_9 : decode cX10_begins 9 = .ok (.getfield 13, 3) := by decide +kernel
theorem dX10_begins_12 : decode cX10_begins 12 = .ok (.iload_n 1, 1) := by decide +kernel
theorem dX10_begins_13 : decode cX10_begins 13 = .ok (.iload_n 2, 1) := by decide +kernel
theorem dX10_begins_14 : decode cX10_begins 14 = .ok (.iadd, 1) := by decide +kernel
theorem dX10_begins_15 : decode cX10_begins 15 = .ok (.iload_n 2, 1) := by decide +kernel
theorem dX10_begins_16 : decode cX10_begins 16 = .ok (.bipush 19, 2) := by decide +kernel
theorem dX10_begins_18 : decode cX10_begins 18 = .ok (.if_icmp .ne 7, 3) := by decide +kernel
theorem dX10_begins_21 : decode cX10_begins 21 = .ok (.iconst 4, 1) := by decide +kernel
theorem dX10_begins_22 : decode cX10_begins 22 = .ok (.goto 32, 3) := by decide +kernel
theorem dX10_begins_25 : decode cX10_begins 25 = .ok (.iload_n 2, 1) := by decide +kernel
theorem dX10_begins_26 : decode cX10_begins 26 = .ok (.bipush 20, 2) := by decide +kernel
theorem dX10_begins_28 : decode cX10_begins 28 = .ok (.if_icmp .eq 9, 3) := by decide +kernel
theorem dX10_begins_31 : decode cX10_begins 31 = .ok (.iload_n 2, 1) := by decide +kernel
theorem dX10_begins_32 : decode cX10_begins 32 = .ok (.bipush 22, 2) := by decide +kernel
theorem dX10_begins_34 : decode cX10_begins 34 = .ok (.if_icmp .ne 8, 3) := by decide +kernel
theorem dX10_begins_37 : decode cX10_begins 37 = .ok (.bipush 10, 2) := by decide +kernel
theorem dX10_begins_39 : decode cX10_begins 39 = .ok (.goto 15, 3) := by decide +kernel
theorem dX10_begins_42 : decode cX10_begins 42 = .ok (.iload_n 2, 1) := by decide +kernel
theorem dX10_begins_43 : decode cX10_begins 43 = .ok (.bipush 21, 2) := by decide +kernel
theorem dX10_begins_45 : decode cX10_begins 45 = .ok (.if_icmp .ne 8, 3) := by decide +kernel
theorem dX10_begins_48 : decode cX10_begins 48 = .ok (.bipush 20, 2) := by decide +kernel
theorem dX10_begins_50 : decode cX10_begins 50 = .ok (.goto 4, 3) := by decide +kernel
theorem dX10_begins_53 : decode cX10_begins 53 = .ok (.iconst 0, 1) := by decide +kernel
theorem dX10_begins_54 : decode cX10_begins 54 = .ok (.iastore, 1) := by decide +kernel
theorem dX10_begins_55 : decode cX10_begins 55 = .ok (.iinc 2 1, 3) := by decide +kernel
theorem dX10_begins_58 : decode cX10_begins 58 = .ok (.goto (-56), 3) := by decide +kernel
theorem dX10_begins_61 : decode cX10_begins 61 = .ok (.return_, 1) := by decide +kernel
set_option maxRecDepth 20000 in
theorem ggX10_write_X10_in : GoodIn wsX10_write wsX10_in := goodIn_r _ [8] (by decide +kernel) (by decide +kernel)
set_option maxRecDepth 20000 in
theorem gX10_write_X10_in : GoodIn wsX10_write (va_wsS RX10 45 yX10_in wsX10_in) := goodIn_app (goodIn_of _ (by decide +kernel)) ggX10_write_X10_in
theorem dX10_write_0 : decode cX10_write 0 = .ok (.aload_n 0, 1) := by decide +kernel
theorem dX10_write_1 : decode cX10_write 1 = .ok (.iconst 0, 1) := by decide +kernel
theorem dX10_write_2 : decode cX10_write 2 = .ok (.putfield 41, 3) := by decide +kernel
theorem dX10_write_5 : decode cX10_write 5 = .ok (.iload_n 1, 1) := by decide +kernel
theorem dX10_write_6 : decode cX10_write 6 = .ok (.iconst 1, 1) := by decide +kernel
theorem dX10_write_7 : decode cX10_write 7 = .ok (.bipush 8, 2) := by decide +kernel
theorem dX10_write_9 : decode cX10_write 9 = .ok (.invokestatic 45, 3) := by decide +kernel
theorem dX10_write_12 : decode cX10_write 12 = .ok (.ifCond .ne 5, 3) := by decide +kernel
theorem dX10_write_15 : decode cX10_write 15 = .ok (.iconst (-1), 1) := by decide +kernel
theorem dX10_write_16 : decode cX10_write 16 = .ok (.ireturn, 1) := by decide +kernel
theorem dX10_write_17 : decode cX10_write 17 = .ok (.aload_n 0, 1) := by decide +kernel
theorem dX10_write_18 : decode cX10_write 18 = .ok (.getfield 49, 3) := by decide +kernel
theorem dX10_write_21 : decode cX10_write 21 = .ok (.iload_n 1, 1) := by decide +kernel
theorem dX10_write_22 : decode cX10_write 22 = .ok (.iadd, 1) := by decide +kernel
theorem dX10_write_23 : decode cX10_write 23 = .ok (.sipush 300, 3) := by decide +kernel
theorem dX10_write_26 : decode cX10_write 26 = .ok (.if_icmp .le 6, 3) := by decide +kernel
theorem dX10_write_29 : decode cX10_write 29 = .ok (.bipush (-3), 2) := by decide +kernel
theorem dX10_write_31 : decode cX10_write 31 = .ok (.ireturn, 1) := by decide +kernel
theorem dX10_write_32 : decode cX10_write 32 = .ok (.iload_n 1, 1) := by decide +kernel
theorem dX10_write_33 : decode cX10_write 33 = .ok (.iconst 1, 1) := by decide +kernel
theorem dX10_write_34 : decode cX10_write 34 = .ok (.isub, 1) := by decide +kernel
theorem dX10_write_35 : decode cX10_write 35 = .ok (.istore 4, 2) := by decide +kernel
theorem dX10_write_37 : decode cX10_write 37 = .ok (.iload 4, 2) := by decide +kernel
theorem dX10_write_39 : decode cX10_write 39 = .ok (.ifCond .lt 40, 3) := by decide +kernel
theorem dX10_write_42 : decode cX10_write 42 = .ok (.aload_n 0, 1) := by decide +kernel
theorem dX10_write_43 : decode cX10_write 43 = .ok (.getfield 7, 3) := by decide +kernel
theorem dX10_write_46 : decode cX10_write 46 = .ok (.aload_n 0, 1) := by decide +kernel
theorem dX10_write_47 : decode cX10_write 47 = .ok (.getfield 49, 3) := by decide +kernel
theorem dX10_write_50 : decode cX10_write 50 = .ok (.lload_n 2, 1) := by decide +kernel
theorem dX10_write_51 : decode cX10_write 51 = .ok (.bipush 8, 2) := by decide +kernel
theorem dX10_write_53 : decode cX10_write 53 = .ok (.iload 4, 2) := by decide +kernel
theorem dX10_write_55 : decode cX10_write 55 = .ok (.imul, 1) := by decide +kernel
theorem dX10_write_56 : decode cX10_write 56 = .ok (.lshr, 1) := by decide +kernel
theorem dX10_write_57 : decode cX10_write 57 = .ok (.ldc2_w 52, 3) := by decide +kernel
theorem dX10_write_60 : decode cX10_write 60 = .ok (.land, 1) := by decide +kernel
theorem dX10_write_61 : decode cX10_write 61 = .ok (.l2i, 1) := by decide +kernel
theorem dX10_write_62 : decode cX10_write 62 = .ok (.iastore, 1) := by decide +kernel
theorem dX10_write_63 : decode cX10_write 63 = .ok (.aload_n 0, 1) := by decide +kernel
theorem dX10_write_64 : decode cX10_write 64 = .ok (.dup, 1) := by decide +kernel
theorem dX10_write_65 : decode cX10_write 65 = .ok (.getfield 49, 3) := by decide +kernel
theorem dX10_write_68 : decode cX10_write 68 = .ok (.iconst 1, 1) := by decide +kernel
theorem dX10_write_69 : decode cX10_write 69 = .ok (.iadd, 1) := by decide +kernel
theorem dX10_write_70 : decode cX10_write 70 = .ok (.putfield 49, 3) := by decide +kernel
theorem dX10_write_73 : decode cX10_write 73 = .ok (.iinc 4 (-1), 3) := by decide +kernel
theorem dX10_write_76 : decode cX10_write 76 = .ok (.goto (-39), 3) := by decide +kernel
theorem dX10_write_79 : decode cX10_write 79 = .ok (.aload_n 0, 1) := by decide +kernel
theorem dX10_write_80 : decode cX10_write 80 = .ok (.getfield 49, 3) := by decide +kernel
theorem dX10_write_83 : decode cX10_write 83 = .ok (.ireturn, 1) := by decide +kernel
theorem dX10_wipe_0 : decode cX10_wipe 0 = .ok (.aload_n 0, 1) := by decide +kernel
theorem dX10_wipe_1 : decode cX10_wipe 1 = .ok (.iconst 0, 1) := by decide +kernel
theorem dX10_wipe_2 : decode cX10_wipe 2 = .ok (.putfield 41, 3) := by decide +kernel
theorem dX10_wipe_5 : decode cX10_wipe 5 = .ok (.aload_n 0, 1) := by decide +kernel
theorem dX10_wipe_6 : decode cX10_wipe 6 = .ok (.getfield 49, 3) := by decide +kernel
theorem dX10_wipe_9 : decode cX10_wipe 9 = .ok (.istore_n 1, 1) := by decide +kernel
theorem dX10_wipe_10 : decode cX10_wipe 10 = .ok (.aload_n 0, 1) := by decide +kernel
theorem dX10_wipe_11 : decode cX10_wipe 11 = .ok (.iconst 0, 1) := by decide +kernel
theorem dX10_wipe_12 : decode cX10_wipe 12 = .ok (.putfield 49, 3) := by decide +kernel
theorem dX10_wipe_15 : decode cX10_wipe 15 = .ok (.iload_n 1, 1) := by decide +kernel
theorem dX10_wipe_16 : decode cX10_wipe 16 = .ok (.ireturn, 1) := by decide +kernel
theorem dX10_byteAt_0 : decode cX10_byteAt 0 = .ok (.iload_n 1, 1) := by decide +kernel
theorem dX10_byteAt_1 : decode cX10_byteAt 1 = .ok (.aload_n 0, 1) := by decide +kernel
theorem dX10_byteAt_2 : decode cX10_byteAt 2 = .ok (.getfield 49, 3) := by decide +kernel
theorem dX10_byteAt_5 : decode cX10_byteAt 5 = .ok (.if_icmp .ge 12, 3) := by decide +kernel
theorem dX10_byteAt_8 : decode cX10_byteAt 8 = .ok (.aload_n 0, 1) := by decide +kernel
theorem dX10_byteAt_9 : decode cX10_byteAt 9 = .ok (.getfield 7, 3) := by decide +kernel
theorem dX10_byteAt_12 : decode cX10_byteAt 12 = .ok (.iload_n 1, 1) := by decide +kernel
theorem dX10_byteAt_13 : decode cX10_byteAt 13 = .ok (.iaload, 1) := by decide +kernel
theorem dX10_byteAt_14 : decode cX10_byteAt 14 = .ok (.goto 4, 3) := by decide +kernel
theorem dX10_byteAt_17 : decode cX10_byteAt 17 = .ok (.iconst (-1), 1) := by decide +kernel
theorem dX10_byteAt_18 : decode cX10_byteAt 18 = .ok (.ireturn, 1) := by decide +kernel
set_option maxRecDepth 20000 in
theorem ggX10_number_X10_byteAt : GoodIn wsX10_number wsX10_byteAt := goodIn_r _ [7, 8, 9, 13, 14, 15, 16, 17, 18, 19, 20, 21, 22, 23, 24, 25, 26, 27, 28, 29, 30, 31, 32, 33, 34, 35, 36, 37, 38, 39] (by decide +kernel) (by decide +kernel)
set_option maxRecDepth 20000 in
theorem gX10_number_X10_byteAt : GoodIn wsX10_number (wsV RX10 57 RX10 yX10_byteAt wsX10_byteAt) := goodIn_app (goodIn_of _ (by decide +kernel)) ggX10_number_X10_byteAt
set_option maxRecDepth 20000 in
theorem ggX10_number_X10_in : GoodIn wsX10_number wsX10_in := goodIn_r _ [12] (by decide +kernel) (by decide +kernel)
set_option maxRecDepth 20000 in
theorem gX10_number_X10_in : GoodIn wsX10_number (va_wsS RX10 45 yX10_in wsX10_in) := goodIn_app (goodIn_of _ (by decide +kernel)) ggX10_number_X10_in
theorem dX10_number_0 : decode cX10_number 0 = .ok (.iconst 0, 1) := by decide +kernel
theorem dX10_number_1 : decode cX10_number 1 = .ok (.istore 4, 2) := by decide +kernel
theorem dX10_number_3 : decode cX10_number 3 = .ok (.iconst 0, 1) := by decide +kernel
theorem dX10_number_4 : decode cX10_number 4 = .ok (.istore 5, 2) := by decide +kernel
theorem dX10_number_6 : decode cX10_number 6 = .ok (.aload_n 0, 1) := by decide +kernel
theorem dX10_number_7 : decode cX10_number 7 = .ok (.aload_n 0, 1) := by decide +kernel
theorem dX10_number_8 : decode cX10_number 8 = .ok (.getfield 54, 3) := by decide +kernel
theorem dX10_number_11 : decode cX10_number 11 = .ok (.invokevirtual 57, 3) := by decide +kernel
theorem dX10_number_14 : decode cX10_number 14 = .ok (.bipush 48, 2) := by decide +kernel
theorem dX10_number_16 : decode cX10_number 16 = .ok (.bipush 57, 2) := by decide +kernel
theorem dX10_number_18 : decode cX10_number 18 = .ok (.invokestatic 45, 3) := by decide +kernel
theorem dX10_number_21 : decode cX10_number 21 = .ok (.ifCond .eq 44, 3) := by decide +kernel
theorem dX10_number_24 : decode cX10_number 24 = .ok (.iload 5, 2) := by decide +kernel
theorem dX10_number_26 : decode cX10_number 26 = .ok (.iconst 4, 1) := by decide +kernel
theorem dX10_number_27 : decode cX10_number 27 = .ok (.if_icmp .ge 38, 3) := by decide +kernel
theorem dX10_number_30 : decode cX10_number 30 = .ok (.bipush 10, 2) := by decide +kernel
theorem dX10_number_32 : decode cX10_number 32 = .ok (.iload 4, 2) := by decide +kernel
theorem dX10_number_34 : decode cX10_number 34 = .ok (.imul, 1) := by decide +kernel
theorem dX10_number_35 : decode cX10_number 35 = .ok (.aload_n 0, 1) := by decide +kernel
theorem dX10_number_36 : decode cX10_number 36 = .ok (.aload_n 0, 1) := by decide +kernel
theorem dX10_number_37 : decode cX10_number 37 = .ok (.getfield 54, 3) := by decide +kernel
theorem dX10_number_40 : decode cX10_number 40 = .ok (.invokevirtual 57, 3) := by decide +kernel
theorem dX10_number_43 : decode cX10_number 43 = .ok (.iadd, 1) := by decide +kernel
theorem dX10_number_44 : decode cX10_number 44 = .ok (.bipush 48, 2) := by decide +kernel
theorem dX10_number_46 : decode cX10_number 46 = .ok (.isub, 1) := by decide +kernel
theorem dX10_number_47 : decode cX10_number 47 = .ok (.istore 4, 2) := by decide +kernel
theorem dX10_number_49 : decode cX10_number 49 = .ok (.aload_n 0, 1) := by decide +kernel
theorem dX10_number_50 : decode cX10_number 50 = .ok (.dup, 1) := by decide +kernel
theorem dX10_number_51 : decode cX10_number 51 = .ok (.getfield 54, 3) := by decide +kernel
theorem dX10_number_54 : decode cX10_number 54 = .ok (.iconst 1, 1) := by decide +kernel
theorem dX10_number_55 : decode cX10_number 55 = .ok (.iadd, 1) := by decide +kernel
theorem dX10_number_56 : decode cX10_number 56 = .ok (.putfield 54, 3) := by decide +kernel
theorem dX10_number_59 : decode cX10_number 59 = .ok (.iinc 5 1, 3) := by decide +kernel
theorem dX10_number_62 : decode cX10_number 62 = .ok (.goto (-56), 3) := by decide +kernel
theorem dX10_number_65 : decode cX10_number 65 = .ok (.aload_n 0, 1) := by decide +kernel
theorem dX10_number_66 : decode cX10_number 66 = .ok (.aload_n 0, 1) := by decide +kernel
theorem dX10_number_67 : decode cX10_number 67 = .ok (.getfield 61, 3) := by decide +kernel
theorem dX10_number_70 : decode cX10_number 70 = .ok (.ifCond .eq 39, 3) := by decide +kernel
theorem dX10_number_73 : decode cX10_number 73 = .ok (.iload 5, 2) := by decide +kernel
theorem dX10_number_75 : decode cX10_number 75 = .ok (.iconst 1, 1) := by decide +kernel
theorem dX10_number_76 : decode cX10_number 76 = .ok (.iconst 3, 1) := by decide +kernel
theorem dX10_number_77 : decode cX10_number 77 = .ok (.invokestatic 45, 3) := by decide +kernel
theorem dX10_number_80 : decode cX10_number 80 = .ok (.ifCond .eq 29, 3) := by decide +kernel
theorem dX10_number_83 : decode cX10_number 83 = .ok (.iload 4, 2) := by decide +kernel
theorem dX10_number_85 : decode cX10_number 85 = .ok (.iload_n 1, 1) := by decide +kernel
theorem dX10_number_86 : decode cX10_number 86 = .ok (.iload_n 2, 1) := by decide +kernel
theorem dX10_number_87 : decode cX10_number 87 = .ok (.invokestatic 45, 3) := by decide +kernel
theorem dX10_number_90 : decode cX10_number 90 = .ok (.ifCond .eq 19, 3) := by decide +kernel
theorem dX10_number_93 : decode cX10_number 93 = .ok (.aload_n 0, 1) := by decide +kernel
theorem dX10_number_94 : decode cX10_number 94 = .ok (.aload_n 0, 1) := by decide +kernel
theorem dX10_number_95 : decode cX10_number 95 = .ok (.getfield 54, 3) := by decide +kernel
theorem dX10_number_98 : decode cX10_number 98 = .ok (.invokevirtual 57, 3) := by decide +kernel
theorem dX10_number_101 : decode cX10_number 101 = .ok (.iload_n 3, 1) := by decide +kernel
theorem dX10_number_102 : decode cX10_number 102 = .ok (.if_icmp .ne 7, 3) := by decide +kernel
theorem dX10_number_105 : decode cX10_number 105 = .ok (.iconst 1, 1) := by decide +kernel
theorem dX10_number_106 : decode cX10_number 106 = .ok (.goto 4, 3) := by decide +kernel
theorem dX10_number_109 : decode cX10_number 109 = .ok (.iconst 0, 1) := by decide +kernel
theorem dX10_number_110 : decode cX10_number 110 = .ok (.putfield 61, 3) := by decide +kernel
theorem dX10_number_113 : decode cX10_number 113 = .ok (.aload_n 0, 1) := by decide +kernel
theorem dX10_number_114 : decode cX10_number 114 = .ok (.dup, 1) := by decide +kernel
theorem dX10_number_115 : decode cX10_number 115 = .ok (.getfield 54, 3) := by decide +kernel
theorem dX10_number_118 : decode cX10_number 118 = .ok (.iconst 1, 1) := by decide +kernel
theorem dX10_number_119 : decode cX10_number 119 = .ok (.iadd, 1) := by decide +kernel
theorem dX10_number_120 : decode cX10_number 120 = .ok (.putfield 54, 3) := by decide +kernel
theorem dX10_number_123 : decode cX10_number 123 = .ok (.aload_n 0, 1) := by decide +kernel
theorem dX10_number_124 : decode cX10_number 124 = .ok (.getfield 61, 3) := by decide +kernel
theorem dX10_number_127 : decode cX10_number 127 = .ok (.ifCond .eq 8, 3) := by decide +kernel
theorem dX10_number_130 : decode cX10_number 130 = .ok (.iload 4, 2) := by decide +kernel
theorem dX10_number_132 : decode cX10_number 132 = .ok (.goto 4, 3) := by decide +kernel
theorem dX10_number_135 : decode cX10_number 135 = .ok (.iload_n 1, 1) := by decide +kernel
theorem dX10_number_136 : decode cX10_number 136 = .ok (.ireturn, 1) := by decide +kernel
theorem dX10_puts_0 : decode cX10_puts 0 = .ok (.aload_n 0, 1) := by decide +kernel
theorem dX10_puts_1 : decode cX10_puts 1 = .ok (.getfield 61, 3) := by decide +kernel
theorem dX10_puts_4 : decode cX10_puts 4 = .ok (.ifCond .eq 13, 3) := by decide +kernel
theorem dX10_puts_7 : decode cX10_puts 7 = .ok (.aload_n 0, 1) := by decide +kernel
theorem dX10_puts_8 : decode cX10_puts 8 = .ok (.getfield 13, 3) := by decide +kernel
theorem dX10_puts_11 : decode cX10_puts 11 = .ok (.bipush 30, 2) := by decide +kernel
theorem dX10_puts_13 : decode cX10_puts 13 = .ok (.iload_n 1, 1) := by decide +kernel
theorem dX10_puts_14 : decode cX10_puts 14 = .ok (.iadd, 1) := by decide +kernel
theorem dX10_puts_15 : decode cX10_puts 15 = .ok (.iload_n 2, 1) := by decide +kernel
theorem dX10_puts_16 : decode cX10_puts 16 = .ok (.iastore, 1) := by decide +kernel
theorem dX10_puts_17 : decode cX10_puts 17 = .ok (.return_, 1) := by decide +kernel
set_option maxRecDepth 20000 in
theorem ggX10_readsItem_X10_number : GoodIn wsX10_readsItem wsX10_number := goodIn_r _ [7, 8, 2, 9, 10, 11, 6, 12, 13, 14, 15, 16, 17, 22, 23, 24, 25, 26, 27, 28, 29, 30, 31, 32, 33, 34, 35, 36, 37, 38, 39, 40, 41, 42, 43, 44, 45, 46, 47, 48] (by decide +kernel) (by decide +kernel)
set_option maxRecDepth 20000 in
theorem gX10_readsItem_X10_number : GoodIn wsX10_readsItem (wsV RX10 65 RX10 yX10_number wsX10_number) := goodIn_app (goodIn_of _ (by decide +kernel)) ggX10_readsItem_X10_number
set_option maxRecDepth 20000 in
theorem ggX10_readsItem_X10_puts : GoodIn wsX10_readsItem wsX10_puts := goodIn_r _ [21, 2, 1, 22, 23, 24, 25, 26, 27, 28, 29, 30, 31, 32, 33, 34, 35, 36, 37, 38, 39, 40, 41, 42, 43, 44, 45, 46, 47, 48] (by decide +kernel) (by decide +kernel)
set_option maxRecDepth 20000 in
theorem gX10_readsItem_X10_puts : GoodIn wsX10_readsItem (wsV RX10 69 RX10 yX10_puts wsX10_puts) := goodIn_app (goodIn_of _ (by decide +kernel)) ggX10_readsItem_X10_puts
theorem dX10_readsItem_0 : decode cX10_readsItem 0 = .ok (.aload_n 0, 1) := by decide +kernel
theorem dX10_readsItem_1 : decode cX10_readsItem 1 = .ok (.getfield 13, 3) := by decide +kernel
theorem dX10_readsItem_4 : decode cX10_readsItem 4 = .ok (.bipush 58, 2) := by decide +kernel
theorem dX10_readsItem_6 : decode cX10_readsItem 6 = .ok (.iaload, 1) := by decide +kernel
theorem dX10_readsItem_7 : decode cX10_readsItem 7 = .ok (.istore_n 2, 1) := by decide +kernel
theorem dX10_readsItem_8 : decode cX10_readsItem 8 = .ok (.iload_n 1, 1) := by decide +kernel
theorem dX10_readsItem_9 : decode cX10_readsItem 9 = .ok (.bipush 113, 2) := by decide +kernel
theorem dX10_readsItem_11 : decode cX10_readsItem 11 = .ok (.if_icmp .ne 129, 3) := by decide +kernel
theorem dX10_readsItem_14 : decode cX10_readsItem 14 = .ok (.aload_n 0, 1) := by decide +kernel
theorem dX10_readsItem_15 : decode cX10_readsItem 15 = .ok (.iconst 1, 1) := by decide +kernel
theorem dX10_readsItem_16 : decode cX10_readsItem 16 = .ok (.bipush 99, 2) := by decide +kernel
theorem dX10_readsItem_18 : decode cX10_readsItem 18 = .ok (.bipush 44, 2) := by decide +kernel
theorem dX10_readsItem_20 : decode cX10_readsItem 20 = .ok (.invokevirtual 65, 3) := by decide +kernel
theorem dX10_readsItem_23 : decode cX10_readsItem 23 = .ok (.istore_n 3, 1) := by decide +kernel
theorem dX10_readsItem_24 : decode cX10_readsItem 24 = .ok (.aload_n 0, 1) := by decide +kernel
theorem dX10_readsItem_25 : decode cX10_readsItem 25 = .ok (.iconst 0, 1) := by decide +kernel
theorem dX10_readsItem_26 : decode cX10_readsItem 26 = .ok (.bipush 90, 2) := by decide +kernel
theorem dX10_readsItem_28 : decode cX10_readsItem 28 = .ok (.bipush 44, 2) := by decide +kernel
theorem dX10_readsItem_30 : decode cX10_readsItem 30 = .ok (.invokevirtual 65, 3) := by decide +kernel
theorem dX10_readsItem_33 : decode cX10_readsItem 33 = .ok (.istore 4, 2) := by decide +kernel
theorem dX10_readsItem_35 : decode cX10_readsItem 35 = .ok (.aload_n 0, 1) := by decide +kernel
theorem dX10_readsItem_36 : decode cX10_readsItem 36 = .ok (.iconst 1, 1) := by decide +kernel
theorem dX10_readsItem_37 : decode cX10_readsItem 37 = .ok (.bipush 40, 2) := by decide +kernel
theorem dX10_readsItem_39 : decode cX10_readsItem 39 = .ok (.bipush 44, 2) := by decide +kernel
theorem dX10_readsItem_41 : decode cX10_readsItem 41 = .ok (.invokevirtual 65, 3) := by decide +kernel
theorem dX10_readsItem_44 : decode cX10_readsItem 44 = .ok (.istore 5, 2) := by decide +kernel
theorem dX10_readsItem_46 : decode cX10_readsItem 46 = .ok (.aload_n 0, 1) := by decide +kernel
theorem dX10_readsItem_47 : decode cX10_readsItem 47 = .ok (.iload 5, 2) := by decide +kernel
theorem dX10_readsItem_49 : decode cX10_readsItem 49 = .ok (.bipush 99, 2) := by decide +kernel
theorem dX10_readsItem_51 : decode cX10_readsItem 51 = .ok (.bipush 59, 2) := by decide +kernel
theorem dX10_readsItem_53 : decode cX10_readsItem 53 = .ok (.invokevirtual 65, 3) := by decide +kernel
theorem dX10_readsItem_56 : decode cX10_readsItem 56 = .ok (.istore 6, 2) := by decide +kernel
theorem dX10_readsItem_58 : decode cX10_readsItem 58 = .ok (.aload_n 0, 1) := by decide +kernel
theorem dX10_readsItem_59 : decode cX10_readsItem 59 = .ok (.aload_n 0, 1) := by decide +kernel
theorem dX10_readsItem_60 : decode cX10_readsItem 60 = .ok (.getfield 61, 3) := by decide +kernel
theorem dX10_readsItem_63 : decode cX10_readsItem 63 = .ok (.ifCond .eq 12, 3) := by decide +kernel
theorem dX10_readsItem_66 : decode cX10_readsItem 66 = .ok (.iload_n 2, 1) := by decide +kernel
theorem dX10_readsItem_67 : decode cX10_readsItem 67 = .ok (.iconst 4, 1) := by decide +kernel
theorem dX10_readsItem_68 : decode cX10_readsItem 68 = .ok (.if_icmp .ge 7, 3) := by decide +kernel
theorem dX10_readsItem_71 : decode cX10_readsItem 71 = .ok (.iconst 1, 1) := by decide +kernel
theorem dX10_readsItem_72 : decode cX10_readsItem 72 = .ok (.goto 4, 3) := by decide +kernel
theorem dX10_readsItem_75 : decode cX10_readsItem 75 = .ok (.iconst 0, 1) := by decide +kernel
theorem dX10_readsItem_76 : decode cX10_readsItem 76 = .ok (.putfield 61, 3) := by decide +kernel
theorem dX10_readsItem_79 : decode cX10_readsItem 79 = .ok (.aload_n 0, 1) := by decide +kernel
theorem dX10_readsItem_80 : decode cX10_readsItem 80 = .ok (.iconst 4, 1) := by decide +kernel
theorem dX10_readsItem_81 : decode cX10_readsItem 81 = .ok (.iload_n 2, 1) := by decide +kernel
theorem dX10_readsItem_82 : decode cX10_readsItem 82 = .ok (.iconst 3, 1) := by decide +kernel
theorem dX10_readsItem_83 : decode cX10_readsItem 83 = .ok (.iand, 1) := by decide +kernel
theorem dX10_readsItem_84 : decode cX10_readsItem 84 = .ok (.imul, 1) := by decide +kernel
theorem dX10_readsItem_85 : decode cX10_readsItem 85 = .ok (.iload_n 3, 1) := by decide +kernel
theorem dX10_readsItem_86 : decode cX10_readsItem 86 = .ok (.invokevirtual 69, 3) := by decide +kernel
theorem dX10_readsItem_89 : decode cX10_readsItem 89 = .ok (.aload_n 0, 1) := by decide +kernel
theorem dX10_readsItem_90 : decode cX10_readsItem 90 = .ok (.iconst 4, 1) := by decide +kernel
theorem dX10_readsItem_91 : decode cX10_readsItem 91 = .ok (.iload_n 2, 1) := by decide +kernel
theorem dX10_readsItem_92 : decode cX10_readsItem 92 = .ok (.iconst 3, 1) := by decide +kernel
theorem dX10_readsItem_93 : decode cX10_readsItem 93 = .ok (.iand, 1) := by decide +kernel
theorem dX10_readsItem_94 : decode cX10_readsItem 94 = .ok (.imul, 1) := by decide +kernel
theorem dX10_readsItem_95 : decode cX10_readsItem 95 = .ok (.iconst 1, 1) := by decide +kernel
theorem dX10_readsItem_96 : decode cX10_readsItem 96 = .ok (.iadd, 1) := by decide +kernel
theorem dX10_readsItem_97 : decode cX10_readsItem 97 = .ok (.iload 4, 2) := by decide +kernel
theorem dX10_readsItem_99 : decode cX10_readsItem 99 = .ok (.invokevirtual 69, 3) := by decide +kernel
theorem dX10_readsItem_102 : decode cX10_readsItem 102 = .ok (.aload_n 0, 1) := by decide +kernel
theorem dX10_readsItem_103 : decode cX10_readsItem 103 = .ok (.iconst 4, 1) := by decide +kernel
theorem dX10_readsItem_104 : decode cX10_readsItem 104 = .ok (.iload_n 2, 1) := by decide +kernel
theorem dX10_readsItem_105 : decode cX10_readsItem 105 = .ok (.iconst 3, 1) := by decide +kernel
theorem dX10_readsItem_106 : decode cX10_readsItem 106 = .ok (.iand, 1) := by decide +kernel
theorem dX10_readsItem_107 : decode cX10_readsItem 107 = .ok (.imul, 1) := by decide +kernel
theorem dX10_readsItem_108 : decode cX10_readsItem 108 = .ok (.iconst 2, 1) := by decide +kernel
theorem dX10_readsItem_109 : decode cX10_readsItem 109 = .ok (.iadd, 1) := by decide +kernel
theorem dX10_readsItem_110 : decode cX10_readsItem 110 = .ok (.iload 5, 2) := by decide +kernel
theorem dX10_readsItem_112 : decode cX10_readsItem 112 = .ok (.invokevirtual 69, 3) := by decide +kernel
theorem dX10_readsItem_115 : decode cX10_readsItem 115 = .ok (.aload_n 0, 1) := by decide +kernel
theorem dX10_readsItem_116 : decode cX10_readsItem 116 = .ok (.iconst 4, 1) := by decide +kernel
theorem dX10_readsItem_117 : decode cX10_readsItem 117 = .ok (.iload_n 2, 1) := by decide +kernel
theorem dX10_readsItem_118 : decode cX10_readsItem 118 = .ok (.iconst 3, 1) := by decide +kernel
theorem dX10_readsItem_119 : decode cX10_readsItem 119 = .ok (.iand, 1) := by decide +kernel
theorem dX10_readsItem_120 : decode cX10_readsItem 120 = .ok (.imul, 1) := by decide +kernel
theorem dX10_readsItem_121 : decode cX10_readsItem 121 = .ok (.iconst 3, 1) := by decide +kernel
theorem dX10_readsItem_122 : decode cX10_readsItem 122 = .ok (.iadd, 1) := by decide +kernel
theorem dX10_readsItem_123 : decode cX10_readsItem 123 = .ok (.iload 6, 2) := by decide +kernel
theorem dX10_readsItem_125 : decode cX10_readsItem 125 = .ok (.invokevirtual 69, 3) := by decide +kernel
theorem dX10_readsItem_128 : decode cX10_readsItem 128 = .ok (.aload_n 0, 1) := by decide +kernel
theorem dX10_readsItem_129 : decode cX10_readsItem 129 = .ok (.bipush 28, 2) := by decide +kernel
theorem dX10_readsItem_131 : decode cX10_readsItem 131 = .ok (.iload_n 2, 1) := by decide +kernel
theorem dX10_readsItem_132 : decode cX10_readsItem 132 = .ok (.iconst 1, 1) := by decide +kernel
theorem dX10_readsItem_133 : decode cX10_readsItem 133 = .ok (.iadd, 1) := by decide +kernel
theorem dX10_readsItem_134 : decode cX10_readsItem 134 = .ok (.invokevirtual 69, 3) := by decide +kernel
theorem dX10_readsItem_137 : decode cX10_readsItem 137 = .ok (.goto 285, 3) := by decide +kernel
theorem dX10_readsItem_140 : decode cX10_readsItem 140 = .ok (.iload_n 1, 1) := by decide +kernel
theorem dX10_readsItem_141 : decode cX10_readsItem 141 = .ok (.bipush 98, 2) := by decide +kernel
theorem dX10_readsItem_143 : decode cX10_readsItem 143 = .ok (.if_icmp .ne 69, 3) := by decide +kernel
theorem dX10_readsItem_146 : decode cX10_readsItem 146 = .ok (.aload_n 0, 1) := by decide +kernel
theorem dX10_readsItem_147 : decode cX10_readsItem 147 = .ok (.iconst 0, 1) := by decide +kernel
theorem dX10_readsItem_148 : decode cX10_readsItem 148 = .ok (.iload_n 2, 1) := by decide +kernel
theorem dX10_readsItem_149 : decode cX10_readsItem 149 = .ok (.iconst 1, 1) := by decide +kernel
theorem dX10_readsItem_150 : decode cX10_readsItem 150 = .ok (.isub, 1) := by decide +kernel
theorem dX10_readsItem_151 : decode cX10_readsItem 151 = .ok (.bipush 44, 2) := by decide +kernel
theorem dX10_readsItem_153 : decode cX10_readsItem 153 = .ok (.invokevirtual 65, 3) := by decide +kernel
theorem dX10_readsItem_156 : decode cX10_readsItem 156 = .ok (.istore_n 3, 1) := by decide +kernel
theorem dX10_readsItem_157 : decode cX10_readsItem 157 = .ok (.aload_n 0, 1) := by decide +kernel
theorem dX10_readsItem_158 : decode cX10_readsItem 158 = .ok (.iconst 1, 1) := by decide +kernel
theorem dX10_readsItem_159 : decode cX10_readsItem 159 = .ok (.bipush 8, 2) := by decide +kernel
theorem dX10_readsItem_161 : decode cX10_readsItem 161 = .ok (.bipush 44, 2) := by decide +kernel
theorem dX10_readsItem_163 : decode cX10_readsItem 163 = .ok (.invokevirtual 65, 3) := by decide +kernel
theorem dX10_readsItem_166 : decode cX10_readsItem 166 = .ok (.istore 4, 2) := by decide +kernel
theorem dX10_readsItem_168 : decode cX10_readsItem 168 = .ok (.aload_n 0, 1) := by decide +kernel
theorem dX10_readsItem_169 : decode cX10_readsItem 169 = .ok (.iconst 1, 1) := by decide +kernel
theorem dX10_readsItem_170 : decode cX10_readsItem 170 = .ok (.bipush 40, 2) := by decide +kernel
theorem dX10_readsItem_172 : decode cX10_readsItem 172 = .ok (.bipush 59, 2) := by decide +kernel
theorem dX10_readsItem_174 : decode cX10_readsItem 174 = .ok (.invokevirtual 65, 3) := by decide +kernel
theorem dX10_readsItem_177 : decode cX10_readsItem 177 = .ok (.istore 5, 2) := by decide +kernel
theorem dX10_readsItem_179 : decode cX10_readsItem 179 = .ok (.aload_n 0, 1) := by decide +kernel
theorem dX10_readsItem_180 : decode cX10_readsItem 180 = .ok (.bipush 16, 2) := by decide +kernel
theorem dX10_readsItem_182 : decode cX10_readsItem 182 = .ok (.iload_n 3, 1) := by decide +kernel
theorem dX10_readsItem_183 : decode cX10_readsItem 183 = .ok (.invokevirtual 69, 3) := by decide +kernel
theorem dX10_readsItem_186 : decode cX10_readsItem 186 = .ok (.aload_n 0, 1) := by decide +kernel
theorem dX10_readsItem_187 : decode cX10_readsItem 187 = .ok (.bipush 17, 2) := by decide +kernel
theorem dX10_readsItem_189 : decode cX10_readsItem 189 = .ok (.iload 4, 2) := by decide +kernel
theorem dX10_readsItem_191 : decode cX10_readsItem 191 = .ok (.invokevirtual 69, 3) := by decide +kernel
theorem dX10_readsItem_194 : decode cX10_readsItem 194 = .ok (.aload_n 0, 1) := by decide +kernel
theorem dX10_readsItem_195 : decode cX10_readsItem 195 = .ok (.bipush 18, 2) := by decide +kernel
theorem dX10_readsItem_197 : decode cX10_readsItem 197 = .ok (.iload 5, 2) := by decide +kernel
theorem dX10_readsItem_199 : decode cX10_readsItem 199 = .ok (.invokevirtual 69, 3) := by decide +kernel
theorem dX10_readsItem_202 : decode cX10_readsItem 202 = .ok (.aload_n 0, 1) := by decide +kernel
theorem dX10_readsItem_203 : decode cX10_readsItem 203 = .ok (.bipush 29, 2) := by decide +kernel
theorem dX10_readsItem_205 : decode cX10_readsItem 205 = .ok (.iconst 1, 1) := by decide +kernel
theorem dX10_readsItem_206 : decode cX10_readsItem 206 = .ok (.invokevirtual 69, 3) := by decide +kernel
theorem dX10_readsItem_209 : decode cX10_readsItem 209 = .ok (.goto 213, 3) := by decide +kernel
theorem dX10_readsItem_212 : decode cX10_readsItem 212 = .ok (.iload_n 1, 1) := by decide +kernel
theorem dX10_readsItem_213 : decode cX10_readsItem 213 = .ok (.bipush 112, 2) := by decide +kernel
theorem dX10_readsItem_215 : decode cX10_readsItem 215 = .ok (.if_icmp .ne 42, 3) := by decide +kernel
theorem dX10_readsItem_218 : decode cX10_readsItem 218 = .ok (.aload_n 0, 1) := by decide +kernel
theorem dX10_readsItem_219 : decode cX10_readsItem 219 = .ok (.iconst 1, 1) := by decide +kernel
theorem dX10_readsItem_220 : decode cX10_readsItem 220 = .ok (.bipush 9, 2) := by decide +kernel
theorem dX10_readsItem_222 : decode cX10_readsItem 222 = .ok (.bipush 44, 2) := by decide +kernel
theorem dX10_readsItem_224 : decode cX10_readsItem 224 = .ok (.invokevirtual 65, 3) := by decide +kernel
theorem dX10_readsItem_227 : decode cX10_readsItem 227 = .ok (.istore_n 3, 1) := by decide +kernel
theorem dX10_readsItem_228 : decode cX10_readsItem 228 = .ok (.aload_n 0, 1) := by decide +kernel
theorem dX10_readsItem_229 : decode cX10_readsItem 229 = .ok (.iconst 1, 1) := by decide +kernel
theorem dX10_readsItem_230 : decode cX10_readsItem 230 = .ok (.bipush 20, 2) := by decide +kernel
theorem dX10_readsItem_232 : decode cX10_readsItem 232 = .ok (.bipush 59, 2) := by decide +kernel
theorem dX10_readsItem_234 : decode cX10_readsItem 234 = .ok (.invokevirtual 65, 3) := by decide +kernel
theorem dX10_readsItem_237 : decode cX10_readsItem 237 = .ok (.istore 4, 2) := by decide +kernel
theorem dX10_readsItem_239 : decode cX10_readsItem 239 = .ok (.aload_n 0, 1) := by decide +kernel
theorem dX10_readsItem_240 : decode cX10_readsItem 240 = .ok (.bipush 19, 2) := by decide +kernel
theorem dX10_readsItem_242 : decode cX10_readsItem 242 = .ok (.iload_n 3, 1) := by decide +kernel
theorem dX10_readsItem_243 : decode cX10_readsItem 243 = .ok (.invokevirtual 69, 3) := by decide +kernel
theorem dX10_readsItem_246 : decode cX10_readsItem 246 = .ok (.aload_n 0, 1) := by decide +kernel
theorem dX10_readsItem_247 : decode cX10_readsItem 247 = .ok (.bipush 20, 2) := by decide +kernel
theorem dX10_readsItem_249 : decode cX10_readsItem 249 = .ok (.iload 4, 2) := by decide +kernel
theorem dX10_readsItem_251 : decode cX10_readsItem 251 = .ok (.invokevirtual 69, 3) := by decide +kernel
theorem dX10_readsItem_254 : decode cX10_readsItem 254 = .ok (.goto 168, 3) := by decide +kernel
theorem dX10_readsItem_257 : decode cX10_readsItem 257 = .ok (.iload_n 1, 1) := by decide +kernel
theorem dX10_readsItem_258 : decode cX10_readsItem 258 = .ok (.bipush 104, 2) := by decide +kernel
theorem dX10_readsItem_260 : decode cX10_readsItem 260 = .ok (.if_icmp .ne 61, 3) := by decide +kernel
theorem dX10_readsItem_263 : decode cX10_readsItem 263 = .ok (.aload_n 0, 1) := by decide +kernel
theorem dX10_readsItem_264 : decode cX10_readsItem 264 = .ok (.iconst 1, 1) := by decide +kernel
theorem dX10_readsItem_265 : decode cX10_readsItem 265 = .ok (.bipush 99, 2) := by decide +kernel
theorem dX10_readsItem_267 : decode cX10_readsItem 267 = .ok (.bipush 44, 2) := by decide +kernel
theorem dX10_readsItem_269 : decode cX10_readsItem 269 = .ok (.invokevirtual 65, 3) := by decide +kernel
theorem dX10_readsItem_272 : decode cX10_readsItem 272 = .ok (.istore_n 3, 1) := by decide +kernel
theorem dX10_readsItem_273 : decode cX10_readsItem 273 = .ok (.aload_n 0, 1) := by decide +kernel
theorem dX10_readsItem_274 : decode cX10_readsItem 274 = .ok (.iconst 1, 1) := by decide +kernel
theorem dX10_readsItem_275 : decode cX10_readsItem 275 = .ok (.bipush 99, 2) := by decide +kernel
theorem dX10_readsItem_277 : decode cX10_readsItem 277 = .ok (.bipush 44, 2) := by decide +kernel
theorem dX10_readsItem_279 : decode cX10_readsItem 279 = .ok (.invokevirtual 65, 3) := by decide +kernel
theorem dX10_readsItem_282 : decode cX10_readsItem 282 = .ok (.istore 4, 2) := by decide +kernel
theorem dX10_readsItem_284 : decode cX10_readsItem 284 = .ok (.aload_n 0, 1) := by decide +kernel
theorem dX10_readsItem_285 : decode cX10_readsItem 285 = .ok (.iconst 0, 1) := by decide +kernel
theorem dX10_readsItem_286 : decode cX10_readsItem 286 = .ok (.bipush 20, 2) := by decide +kernel
theorem dX10_readsItem_288 : decode cX10_readsItem 288 = .ok (.bipush 59, 2) := by decide +kernel
theorem dX10_readsItem_290 : decode cX10_readsItem 290 = .ok (.invokevirtual 65, 3) := by decide +kernel
theorem dX10_readsItem_293 : decode cX10_readsItem 293 = .ok (.istore 5, 2) := by decide +kernel
theorem dX10_readsItem_295 : decode cX10_readsItem 295 = .ok (.aload_n 0, 1) := by decide +kernel
theorem dX10_readsItem_296 : decode cX10_readsItem 296 = .ok (.bipush 21, 2) := by decide +kernel
theorem dX10_readsItem_298 : decode cX10_readsItem 298 = .ok (.iload_n 3, 1) := by decide +kernel
theorem dX10_readsItem_299 : decode cX10_readsItem 299 = .ok (.invokevirtual 69, 3) := by decide +kernel
theorem dX10_readsItem_302 : decode cX10_readsItem 302 = .ok (.aload_n 0, 1) := by decide +kernel
theorem dX10_readsItem_303 : decode cX10_readsItem 303 = .ok (.bipush 22, 2) := by decide +kernel
theorem dX10_readsItem_305 : decode cX10_readsItem 305 = .ok (.iload 4, 2) := by decide +kernel
theorem dX10_readsItem_307 : decode cX10_readsItem 307 = .ok (.invokevirtual 69, 3) := by decide +kernel
theorem dX10_readsItem_310 : decode cX10_readsItem 310 = .ok (.aload_n 0, 1) := by decide +kernel
theorem dX10_readsItem_311 : decode cX10_readsItem 311 = .ok (.bipush 23, 2) := by decide +kernel
theorem dX10_readsItem_313 : decode cX10_readsItem 313 = .ok (.iload 5, 2) := by decide +kernel
theorem dX10_readsItem_315 : decode cX10_readsItem 315 = .ok (.invokevirtual 69, 3) := by decide +kernel
theorem dX10_readsItem_318 : decode cX10_readsItem 318 = .ok (.goto 104, 3) := by decide +kernel
theorem dX10_readsItem_321 : decode cX10_readsItem 321 = .ok (.iload_n 1, 1) := by decide +kernel
theorem dX10_readsItem_322 : decode cX10_readsItem 322 = .ok (.bipush 114, 2) := by decide +kernel
theorem dX10_readsItem_324 : decode cX10_readsItem 324 = .ok (.if_icmp .ne 21, 3) := by decide +kernel
theorem dX10_readsItem_327 : decode cX10_readsItem 327 = .ok (.aload_n 0, 1) := by decide +kernel
theorem dX10_readsItem_328 : decode cX10_readsItem 328 = .ok (.bipush 24, 2) := by decide +kernel
theorem dX10_readsItem_330 : decode cX10_readsItem 330 = .ok (.aload_n 0, 1) := by decide +kernel
theorem dX10_readsItem_331 : decode cX10_readsItem 331 = .ok (.iconst 0, 1) := by decide +kernel
theorem dX10_readsItem_332 : decode cX10_readsItem 332 = .ok (.bipush 20, 2) := by decide +kernel
theorem dX10_readsItem_334 : decode cX10_readsItem 334 = .ok (.bipush 59, 2) := by decide +kernel
theorem dX10_readsItem_336 : decode cX10_readsItem 336 = .ok (.invokevirtual 65, 3) := by decide +kernel
theorem dX10_readsItem_339 : decode cX10_readsItem 339 = .ok (.invokevirtual 69, 3) := by decide +kernel
theorem dX10_readsItem_342 : decode cX10_readsItem 342 = .ok (.goto 80, 3) := by decide +kernel
theorem dX10_readsItem_345 : decode cX10_readsItem 345 = .ok (.iload_n 1, 1) := by decide +kernel
theorem dX10_readsItem_346 : decode cX10_readsItem 346 = .ok (.bipush 99, 2) := by decide +kernel
theorem dX10_readsItem_348 : decode cX10_readsItem 348 = .ok (.if_icmp .ne 21, 3) := by decide +kernel
theorem dX10_readsItem_351 : decode cX10_readsItem 351 = .ok (.aload_n 0, 1) := by decide +kernel
theorem dX10_readsItem_352 : decode cX10_readsItem 352 = .ok (.bipush 25, 2) := by decide +kernel
theorem dX10_readsItem_354 : decode cX10_readsItem 354 = .ok (.aload_n 0, 1) := by decide +kernel
theorem dX10_readsItem_355 : decode cX10_readsItem 355 = .ok (.iconst 0, 1) := by decide +kernel
theorem dX10_readsItem_356 : decode cX10_readsItem 356 = .ok (.bipush 30, 2) := by decide +kernel
theorem dX10_readsItem_358 : decode cX10_readsItem 358 = .ok (.bipush 59, 2) := by decide +kernel
theorem dX10_readsItem_360 : decode cX10_readsItem 360 = .ok (.invokevirtual 65, 3) := by decide +kernel
theorem dX10_readsItem_363 : decode cX10_readsItem 363 = .ok (.invokevirtual 69, 3) := by decide +kernel
theorem dX10_readsItem_366 : decode cX10_readsItem 366 = .ok (.goto 56, 3) := by decide +kernel
theorem dX10_readsItem_369 : decode cX10_readsItem 369 = .ok (.iload_n 1, 1) := by decide +kernel
theorem dX10_readsItem_370 : decode cX10_readsItem 370 = .ok (.bipush 97, 2) := by decide +kernel
theorem dX10_readsItem_372 : decode cX10_readsItem 372 = .ok (.if_icmp .ne 21, 3) := by decide +kernel
theorem dX10_readsItem_375 : decode cX10_readsItem 375 = .ok (.aload_n 0, 1) := by decide +kernel
theorem dX10_readsItem_376 : decode cX10_readsItem 376 = .ok (.bipush 26, 2) := by decide +kernel
theorem dX10_readsItem_378 : decode cX10_readsItem 378 = .ok (.aload_n 0, 1) := by decide +kernel
theorem dX10_readsItem_379 : decode cX10_readsItem 379 = .ok (.iconst 0, 1) := by decide +kernel
theorem dX10_readsItem_380 : decode cX10_readsItem 380 = .ok (.bipush 60, 2) := by decide +kernel
theorem dX10_readsItem_382 : decode cX10_readsItem 382 = .ok (.bipush 59, 2) := by decide +kernel
theorem dX10_readsItem_384 : decode cX10_readsItem 384 = .ok (.invokevirtual 65, 3) := by decide +kernel
theorem dX10_readsItem_387 : decode cX10_readsItem 387 = .ok (.invokevirtual 69, 3) := by decide +kernel
theorem dX10_readsItem_390 : decode cX10_readsItem 390 = .ok (.goto 32, 3) := by decide +kernel
theorem dX10_readsItem_393 : decode cX10_readsItem 393 = .ok (.iload_n 1, 1) := by decide +kernel
theorem dX10_readsItem_394 : decode cX10_readsItem 394 = .ok (.bipush 119, 2) := by decide +kernel
theorem dX10_readsItem_396 : decode cX10_readsItem 396 = .ok (.if_icmp .ne 21, 3) := by decide +kernel
theorem dX10_readsItem_399 : decode cX10_readsItem 399 = .ok (.aload_n 0, 1) := by decide +kernel
theorem dX10_readsItem_400 : decode cX10_readsItem 400 = .ok (.bipush 27, 2) := by decide +kernel
theorem dX10_readsItem_402 : decode cX10_readsItem 402 = .ok (.aload_n 0, 1) := by decide +kernel
theorem dX10_readsItem_403 : decode cX10_readsItem 403 = .ok (.iconst 0, 1) := by decide +kernel
theorem dX10_readsItem_404 : decode cX10_readsItem 404 = .ok (.bipush 9, 2) := by decide +kernel
theorem dX10_readsItem_406 : decode cX10_readsItem 406 = .ok (.bipush 59, 2) := by decide +kernel
theorem dX10_readsItem_408 : decode cX10_readsItem 408 = .ok (.invokevirtual 65, 3) := by decide +kernel
theorem dX10_readsItem_411 : decode cX10_readsItem 411 = .ok (.invokevirtual 69, 3) := by decide +kernel
theorem dX10_readsItem_414 : decode cX10_readsItem 414 = .ok (.goto 8, 3) := by decide +kernel
theorem dX10_readsItem_417 : decode cX10_readsItem 417 = .ok (.aload_n 0, 1) := by decide +kernel
theorem dX10_readsItem_418 : decode cX10_readsItem 418 = .ok (.iconst 0, 1) := by decide +kernel
theorem dX10_readsItem_419 : decode cX10_readsItem 419 = .ok (.putfield 61, 3) := by decide +kernel
theorem dX10_readsItem_422 : decode cX10_readsItem 422 = .ok (.return_, 1) := by decide +kernel
set_option maxRecDepth 20000 in
theorem ggX10_reads_X10_begins : GoodIn wsX10_reads wsX10_begins := goodIn_r _ [8, 9, 30, 31, 32, 33, 34, 35, 36, 37, 38, 39, 40, 41, 42, 43, 44, 45, 46, 47, 48, 49, 50, 51, 52, 53, 54, 55, 56] (by decide +kernel) (by decide +kernel)
set_option maxRecDepth 20000 in
theorem gX10_reads_X10_begins : GoodIn wsX10_reads (wsV RX10 37 RX10 yX10_begins wsX10_begins) := goodIn_app (goodIn_of _ (by decide +kernel)) ggX10_reads_X10_begins
set_option maxRecDepth 20000 in
theorem ggX10_reads_X10_byteAt : GoodIn wsX10_reads wsX10_byteAt := goodIn_r _ [13, 3, 14, 30, 31, 32, 33, 34, 35, 36, 37, 38, 39, 40, 41, 42, 43, 44, 45, 46, 47, 48, 49, 50, 51, 52, 53, 54, 55, 56] (by decide +kernel) (by decide +kernel)
set_option maxRecDepth 20000 in
theorem gX10_reads_X10_byteAt : GoodIn wsX10_reads (wsV RX10 57 RX10 yX10_byteAt wsX10_byteAt) := goodIn_app (goodIn_of _ (by decide +kernel)) ggX10_reads_X10_byteAt
set_option maxRecDepth 20000 in
theorem ggX10_reads_X10_readsItem : GoodIn wsX10_reads wsX10_readsItem := goodIn_r _ [18, 9, 2, 19, 20, 21, 7, 22, 1, 10, 11, 12, 13, 3, 14, 23, 24, 25, 26, 27, 28, 29, 30, 31, 32, 33, 34, 35, 36, 37, 38, 39, 40, 41, 42, 43, 44, 45, 46, 47, 48, 49, 50, 51, 52, 53, 54, 55, 56] (by decide +kernel) (by decide +kernel)
set_option maxRecDepth 20000 in
theorem gX10_reads_X10_readsItem : GoodIn wsX10_reads (wsV RX10 73 RX10 yX10_readsItem wsX10_readsItem) := goodIn_app (goodIn_of _ (by decide +kernel)) ggX10_reads_X10_readsItem
theorem dX10_reads_0 : decode cX10_reads 0 = .ok (.aload_n 0, 1) := by decide +kernel
theorem dX10_reads_1 : decode cX10_reads 1 = .ok (.bipush 30, 2) := by decide +kernel
theorem dX10_reads_3 : decode cX10_reads 3 = .ok (.invokevirtual 37, 3) := by decide +kernel
theorem dX10_reads_6 : decode cX10_reads 6 = .ok (.aload_n 0, 1) := by decide +kernel
theorem dX10_reads_7 : decode cX10_reads 7 = .ok (.iconst 0, 1) := by decide +kernel
theorem dX10_reads_8 : decode cX10_reads 8 = .ok (.putfield 54, 3) := by decide +kernel
theorem dX10_reads_11 : decode cX10_reads 11 = .ok (.aload_n 0, 1) := by decide +kernel
theorem dX10_reads_12 : decode cX10_reads 12 = .ok (.iconst 1, 1) := by decide +kernel
theorem dX10_reads_13 : decode cX10_reads 13 = .ok (.putfield 61, 3) := by decide +kernel
theorem dX10_reads_16 : decode cX10_reads 16 = .ok (.aload_n 0, 1) := by decide +kernel
theorem dX10_reads_17 : decode cX10_reads 17 = .ok (.getfield 54, 3) := by decide +kernel
theorem dX10_reads_20 : decode cX10_reads 20 = .ok (.aload_n 0, 1) := by decide +kernel
theorem dX10_reads_21 : decode cX10_reads 21 = .ok (.getfield 49, 3) := by decide +kernel
theorem dX10_reads_24 : decode cX10_reads 24 = .ok (.if_icmp .ge 44, 3) := by decide +kernel
theorem dX10_reads_27 : decode cX10_reads 27 = .ok (.aload_n 0, 1) := by decide +kernel
theorem dX10_reads_28 : decode cX10_reads 28 = .ok (.getfield 54, 3) := by decide +kernel
theorem dX10_reads_31 : decode cX10_reads 31 = .ok (.istore_n 1, 1) := by decide +kernel
theorem dX10_reads_32 : decode cX10_reads 32 = .ok (.aload_n 0, 1) := by decide +kernel
theorem dX10_reads_33 : decode cX10_reads 33 = .ok (.aload_n 0, 1) := by decide +kernel
theorem dX10_reads_34 : decode cX10_reads 34 = .ok (.getfield 54, 3) := by decide +kernel
theorem dX10_reads_37 : decode cX10_reads 37 = .ok (.invokevirtual 57, 3) := by decide +kernel
theorem dX10_reads_40 : decode cX10_reads 40 = .ok (.istore_n 2, 1) := by decide +kernel
theorem dX10_reads_41 : decode cX10_reads 41 = .ok (.aload_n 0, 1) := by decide +kernel
theorem dX10_reads_42 : decode cX10_reads 42 = .ok (.dup, 1) := by decide +kernel
theorem dX10_reads_43 : decode cX10_reads 43 = .ok (.getfield 54, 3) := by decide +kernel
theorem dX10_reads_46 : decode cX10_reads 46 = .ok (.iconst 1, 1) := by decide +kernel
theorem dX10_reads_47 : decode cX10_reads 47 = .ok (.iadd, 1) := by decide +kernel
theorem dX10_reads_48 : decode cX10_reads 48 = .ok (.putfield 54, 3) := by decide +kernel
theorem dX10_reads_51 : decode cX10_reads 51 = .ok (.aload_n 0, 1) := by decide +kernel
theorem dX10_reads_52 : decode cX10_reads 52 = .ok (.iload_n 2, 1) := by decide +kernel
theorem dX10_reads_53 : decode cX10_reads 53 = .ok (.invokevirtual 73, 3) := by decide +kernel
theorem dX10_reads_56 : decode cX10_reads 56 = .ok (.aload_n 0, 1) := by decide +kernel
theorem dX10_reads_57 : decode cX10_reads 57 = .ok (.getfield 61, 3) := by decide +kernel
theorem dX10_reads_60 : decode cX10_reads 60 = .ok (.ifCond .ne 5, 3) := by decide +kernel
theorem dX10_reads_63 : decode cX10_reads 63 = .ok (.iload_n 1, 1) := by decide +kernel
theorem dX10_reads_64 : decode cX10_reads 64 = .ok (.ireturn, 1) := by decide +kernel
theorem dX10_reads_65 : decode cX10_reads 65 = .ok (.goto (-49), 3) := by decide +kernel
theorem dX10_reads_68 : decode cX10_reads 68 = .ok (.bipush (-4), 2) := by decide +kernel
theorem dX10_reads_70 : decode cX10_reads 70 = .ok (.ireturn, 1) := by decide +kernel
set_option maxRecDepth 20000 in
theorem ggX10_fault_X10_reads : GoodIn wsX10_fault wsX10_reads := goodIn_r _ [6, 7, 8, 9, 10, 11, 12, 5, 13, 14, 15, 16, 17, 18, 19, 20, 21, 22, 23, 24, 25, 26, 27, 28, 29, 30, 31, 32, 33, 34, 35, 36, 37, 38, 39, 40, 41, 42, 43, 44, 45, 46, 47, 48, 49, 50, 51, 52, 53, 54, 55, 56, 57, 58, 59, 60, 61] (by decide +kernel) (by decide +kernel)
set_option maxRecDepth 20000 in
theorem gX10_fault_X10_reads : GoodIn wsX10_fault (wsV RX10 76 RX10 yX10_reads wsX10_reads) := goodIn_app (goodIn_of _ (by decide +kernel)) ggX10_fault_X10_reads
theorem dX10_fault_0 : decode cX10_fault 0 = .ok (.aload_n 0, 1) := by decide +kernel
theorem dX10_fault_1 : decode cX10_fault 1 = .ok (.iconst 0, 1) := by decide +kernel
theorem dX10_fault_2 : decode cX10_fault 2 = .ok (.putfield 41, 3) := by decide +kernel
theorem dX10_fault_5 : decode cX10_fault 5 = .ok (.aload_n 0, 1) := by decide +kernel
theorem dX10_fault_6 : decode cX10_fault 6 = .ok (.invokevirtual 76, 3) := by decide +kernel
theorem dX10_fault_9 : decode cX10_fault 9 = .ok (.ireturn, 1) := by decide +kernel
set_option maxRecDepth 20000 in
theorem ggX10_lay_X10_reads : GoodIn wsX10_lay wsX10_reads := goodIn_r _ [11, 12, 13, 14, 15, 16, 17, 10, 18, 2, 19, 20, 21, 22, 23, 24, 25, 26, 27, 28, 29, 30, 31, 32, 33, 34, 35, 36, 37, 38, 39, 40, 41, 42, 43, 44, 45, 46, 47, 48, 49, 50, 51, 52, 53, 54, 55, 56, 57, 58, 59, 60, 61, 62, 63, 64, 65] (by decide +kernel) (by decide +kernel)
set_option maxRecDepth 20000 in
theorem gX10_lay_X10_reads : GoodIn wsX10_lay (wsV RX10 76 RX10 yX10_reads wsX10_reads) := goodIn_app (goodIn_of _ (by decide +kernel)) ggX10_lay_X10_reads
theorem dX10_lay_0 : decode cX10_lay 0 = .ok (.aload_n 0, 1) := by decide +kernel
theorem dX10_lay_1 : decode cX10_lay 1 = .ok (.iconst 0, 1) := by decide +kernel
theorem dX10_lay_2 : decode cX10_lay 2 = .ok (.putfield 41, 3) := by decide +kernel
theorem dX10_lay_5 : decode cX10_lay 5 = .ok (.aload_n 0, 1) := by decide +kernel
theorem dX10_lay_6 : decode cX10_lay 6 = .ok (.invokevirtual 76, 3) := by decide +kernel
theorem dX10_lay_9 : decode cX10_lay 9 = .ok (.bipush (-4), 2) := by decide +kernel
theorem dX10_lay_11 : decode cX10_lay 11 = .ok (.if_icmp .ne 13, 3) := by decide +kernel
theorem dX10_lay_14 : decode cX10_lay 14 = .ok (.aload_n 0, 1) := by decide +kernel
theorem dX10_lay_15 : decode cX10_lay 15 = .ok (.getfield 13, 3) := by decide +kernel
theorem dX10_lay_18 : decode cX10_lay 18 = .ok (.bipush 59, 2) := by decide +kernel
theorem dX10_lay_20 : decode cX10_lay 20 = .ok (.iaload, 1) := by decide +kernel
theorem dX10_lay_21 : decode cX10_lay 21 = .ok (.ifCond .ne 6, 3) := by decide +kernel
theorem dX10_lay_24 : decode cX10_lay 24 = .ok (.bipush (-2), 2) := by decide +kernel
theorem dX10_lay_26 : decode cX10_lay 26 = .ok (.ireturn, 1) := by decide +kernel
theorem dX10_lay_27 : decode cX10_lay 27 = .ok (.iconst 0, 1) := by decide +kernel
theorem dX10_lay_28 : decode cX10_lay 28 = .ok (.istore_n 1, 1) := by decide +kernel
theorem dX10_lay_29 : decode cX10_lay 29 = .ok (.iload_n 1, 1) := by decide +kernel
theorem dX10_lay_30 : decode cX10_lay 30 = .ok (.bipush 30, 2) := by decide +kernel
theorem dX10_lay_32 : decode cX10_lay 32 = .ok (.if_icmp .ge 24, 3) := by decide +kernel
theorem dX10_lay_35 : decode cX10_lay 35 = .ok (.aload_n 0, 1) := by decide +kernel
theorem dX10_lay_36 : decode cX10_lay 36 = .ok (.getfield 13, 3) := by decide +kernel
theorem dX10_lay_39 : decode cX10_lay 39 = .ok (.iload_n 1, 1) := by decide +kernel
theorem dX10_lay_40 : decode cX10_lay 40 = .ok (.aload_n 0, 1) := by decide +kernel
theorem dX10_lay_41 : decode cX10_lay 41 = .ok (.getfield 13, 3) := by decide +kernel
theorem dX10_lay_44 : decode cX10_lay 44 = .ok (.bipush 30, 2) := by decide +kernel
theorem dX10_lay_46 : decode cX10_lay 46 = .ok (.iload_n 1, 1) := by decide +kernel
theorem dX10_lay_47 : decode cX10_lay 47 = .ok (.iadd, 1) := by decide +kernel
theorem dX10_lay_48 : decode cX10_lay 48 = .ok (.iaload, 1) := by decide +kernel
theorem dX10_lay_49 : decode cX10_lay 49 = .ok (.iastore, 1) := by decide +kernel
theorem dX10_lay_50 : decode cX10_lay 50 = .ok (.iinc 1 1, 3) := by decide +kernel
theorem dX10_lay_53 : decode cX10_lay 53 = .ok (.goto (-24), 3) := by decide +kernel
theorem dX10_lay_56 : decode cX10_lay 56 = .ok (.iconst 0, 1) := by decide +kernel
theorem dX10_lay_57 : decode cX10_lay 57 = .ok (.istore_n 1, 1) := by decide +kernel
theorem dX10_lay_58 : decode cX10_lay 58 = .ok (.iload_n 1, 1) := by decide +kernel
theorem dX10_lay_59 : decode cX10_lay 59 = .ok (.bipush 6, 2) := by decide +kernel
theorem dX10_lay_61 : decode cX10_lay 61 = .ok (.if_icmp .ge 16, 3) := by decide +kernel
theorem dX10_lay_64 : decode cX10_lay 64 = .ok (.aload_n 0, 1) := by decide +kernel
theorem dX10_lay_65 : decode cX10_lay 65 = .ok (.getfield 16, 3) := by decide +kernel
theorem dX10_lay_68 : decode cX10_lay 68 = .ok (.iload_n 1, 1) := by decide +kernel
theorem dX10_lay_69 : decode cX10_lay 69 = .ok (.iconst 0, 1) := by decide +kernel
theorem dX10_lay_70 : decode cX10_lay 70 = .ok (.iastore, 1) := by decide +kernel
theorem dX10_lay_71 : decode cX10_lay 71 = .ok (.iinc 1 1, 3) := by decide +kernel
theorem dX10_lay_74 : decode cX10_lay 74 = .ok (.goto (-16), 3) := by decide +kernel
theorem dX10_lay_77 : decode cX10_lay 77 = .ok (.aload_n 0, 1) := by decide +kernel
theorem dX10_lay_78 : decode cX10_lay 78 = .ok (.iconst 0, 1) := by decide +kernel
theorem dX10_lay_79 : decode cX10_lay 79 = .ok (.putfield 80, 3) := by decide +kernel
theorem dX10_lay_82 : decode cX10_lay 82 = .ok (.aload_n 0, 1) := by decide +kernel
theorem dX10_lay_83 : decode cX10_lay 83 = .ok (.iconst 0, 1) := by decide +kernel
theorem dX10_lay_84 : decode cX10_lay 84 = .ok (.putfield 83, 3) := by decide +kernel
theorem dX10_lay_87 : decode cX10_lay 87 = .ok (.aload_n 0, 1) := by decide +kernel
theorem dX10_lay_88 : decode cX10_lay 88 = .ok (.iconst 0, 1) := by decide +kernel
theorem dX10_lay_89 : decode cX10_lay 89 = .ok (.putfield 86, 3) := by decide +kernel
theorem dX10_lay_92 : decode cX10_lay 92 = .ok (.aload_n 0, 1) := by decide +kernel
theorem dX10_lay_93 : decode cX10_lay 93 = .ok (.getfield 13, 3) := by decide +kernel
theorem dX10_lay_96 : decode cX10_lay 96 = .ok (.bipush 28, 2) := by decide +kernel
theorem dX10_lay_98 : decode cX10_lay 98 = .ok (.iaload, 1) := by decide +kernel
theorem dX10_lay_99 : decode cX10_lay 99 = .ok (.ireturn, 1) := by decide +kernel
theorem dX10_asItIs_0 : decode cX10_asItIs 0 = .ok (.iconst 4, 1) := by decide +kernel
theorem dX10_asItIs_1 : decode cX10_asItIs 1 = .ok (.aload_n 0, 1) := by decide +kernel
theorem dX10_asItIs_2 : decode cX10_asItIs 2 = .ok (.getfield 13, 3) := by decide +kernel
theorem dX10_asItIs_5 : decode cX10_asItIs 5 = .ok (.bipush 16, 2) := by decide +kernel
theorem dX10_asItIs_7 : decode cX10_asItIs 7 = .ok (.iaload, 1) := by decide +kernel
theorem dX10_asItIs_8 : decode cX10_asItIs 8 = .ok (.imul, 1) := by decide +kernel
theorem dX10_asItIs_9 : decode cX10_asItIs 9 = .ok (.istore_n 1, 1) := by decide +kernel
theorem dX10_asItIs_10 : decode cX10_asItIs 10 = .ok (.aload_n 0, 1) := by decide +kernel
theorem dX10_asItIs_11 : decode cX10_asItIs 11 = .ok (.aload_n 0, 1) := by decide +kernel
theorem dX10_asItIs_12 : decode cX10_asItIs 12 = .ok (.getfield 13, 3) := by decide +kernel
theorem dX10_asItIs_15 : decode cX10_asItIs 15 = .ok (.iload_n 1, 1) := by decide +kernel
theorem dX10_asItIs_16 : decode cX10_asItIs 16 = .ok (.iaload, 1) := by decide +kernel
theorem dX10_asItIs_17 : decode cX10_asItIs 17 = .ok (.putfield 89, 3) := by decide +kernel
theorem dX10_asItIs_20 : decode cX10_asItIs 20 = .ok (.aload_n 0, 1) := by decide +kernel
theorem dX10_asItIs_21 : decode cX10_asItIs 21 = .ok (.aload_n 0, 1) := by decide +kernel
theorem dX10_asItIs_22 : decode cX10_asItIs 22 = .ok (.getfield 13, 3) := by decide +kernel
theorem dX10_asItIs_25 : decode cX10_asItIs 25 = .ok (.iload_n 1, 1) := by decide +kernel
theorem dX10_asItIs_26 : decode cX10_asItIs 26 = .ok (.iconst 1, 1) := by decide +kernel
theorem dX10_asItIs_27 : decode cX10_asItIs 27 = .ok (.iadd, 1) := by decide +kernel
theorem dX10_asItIs_28 : decode cX10_asItIs 28 = .ok (.iaload, 1) := by decide +kernel
theorem dX10_asItIs_29 : decode cX10_asItIs 29 = .ok (.putfield 92, 3) := by decide +kernel
theorem dX10_asItIs_32 : decode cX10_asItIs 32 = .ok (.aload_n 0, 1) := by decide +kernel
theorem dX10_asItIs_33 : decode cX10_asItIs 33 = .ok (.aload_n 0, 1) := by decide +kernel
theorem dX10_asItIs_34 : decode cX10_asItIs 34 = .ok (.getfield 13, 3) := by decide +kernel
theorem dX10_asItIs_37 : decode cX10_asItIs 37 = .ok (.iload_n 1, 1) := by decide +kernel
theorem dX10_asItIs_38 : decode cX10_asItIs 38 = .ok (.iconst 2, 1) := by decide +kernel
theorem dX10_asItIs_39 : decode cX10_asItIs 39 = .ok (.iadd, 1) := by decide +kernel
theorem dX10_asItIs_40 : decode cX10_asItIs 40 = .ok (.iaload, 1) := by decide +kernel
theorem dX10_asItIs_41 : decode cX10_asItIs 41 = .ok (.putfield 95, 3) := by decide +kernel
theorem dX10_asItIs_44 : decode cX10_asItIs 44 = .ok (.aload_n 0, 1) := by decide +kernel
theorem dX10_asItIs_45 : decode cX10_asItIs 45 = .ok (.aload_n 0, 1) := by decide +kernel
theorem dX10_asItIs_46 : decode cX10_asItIs 46 = .ok (.getfield 13, 3) := by decide +kernel
theorem dX10_asItIs_49 : decode cX10_asItIs 49 = .ok (.bipush 17, 2) := by decide +kernel
theorem dX10_asItIs_51 : decode cX10_asItIs 51 = .ok (.iaload, 1) := by decide +kernel
theorem dX10_asItIs_52 : decode cX10_asItIs 52 = .ok (.putfield 98, 3) := by decide +kernel
theorem dX10_asItIs_55 : decode cX10_asItIs 55 = .ok (.aload_n 0, 1) := by decide +kernel
theorem dX10_asItIs_56 : decode cX10_asItIs 56 = .ok (.aload_n 0, 1) := by decide +kernel
theorem dX10_asItIs_57 : decode cX10_asItIs 57 = .ok (.getfield 13, 3) := by decide +kernel
theorem dX10_asItIs_60 : decode cX10_asItIs 60 = .ok (.bipush 18, 2) := by decide +kernel
theorem dX10_asItIs_62 : decode cX10_asItIs 62 = .ok (.iaload, 1) := by decide +kernel
theorem dX10_asItIs_63 : decode cX10_asItIs 63 = .ok (.putfield 101, 3) := by decide +kernel
theorem dX10_asItIs_66 : decode cX10_asItIs 66 = .ok (.aload_n 0, 1) := by decide +kernel
theorem dX10_asItIs_67 : decode cX10_asItIs 67 = .ok (.aload_n 0, 1) := by decide +kernel
theorem dX10_asItIs_68 : decode cX10_asItIs 68 = .ok (.getfield 13, 3) := by decide +kernel
theorem dX10_asItIs_71 : decode cX10_asItIs 71 = .ok (.bipush 19, 2) := by decide +kernel
theorem dX10_asItIs_73 : decode cX10_asItIs 73 = .ok (.iaload, 1) := by decide +kernel
theorem dX10_asItIs_74 : decode cX10_asItIs 74 = .ok (.putfield 104, 3) := by decide +kernel
theorem dX10_asItIs_77 : decode cX10_asItIs 77 = .ok (.aload_n 0, 1) := by decide +kernel
theorem dX10_asItIs_78 : decode cX10_asItIs 78 = .ok (.aload_n 0, 1) := by decide +kernel
theorem dX10_asItIs_79 : decode cX10_asItIs 79 = .ok (.getfield 13, 3) := by decide +kernel
theorem dX10_asItIs_82 : decode cX10_asItIs 82 = .ok (.bipush 24, 2) := by decide +kernel
theorem dX10_asItIs_84 : decode cX10_asItIs 84 = .ok (.iaload, 1) := by decide +kernel
theorem dX10_asItIs_85 : decode cX10_asItIs 85 = .ok (.putfield 107, 3) := by decide +kernel
theorem dX10_asItIs_88 : decode cX10_asItIs 88 = .ok (.return_, 1) := by decide +kernel
theorem dX10_woundPull_0 : decode cX10_woundPull 0 = .ok (.aload_n 0, 1) := by decide +kernel
theorem dX10_woundPull_1 : decode cX10_woundPull 1 = .ok (.getfield 89, 3) := by decide +kernel
theorem dX10_woundPull_4 : decode cX10_woundPull 4 = .ok (.aload_n 0, 1) := by decide +kernel
theorem dX10_woundPull_5 : decode cX10_woundPull 5 = .ok (.getfield 98, 3) := by decide +kernel
theorem dX10_woundPull_8 : decode cX10_woundPull 8 = .ok (.imul, 1) := by decide +kernel
theorem dX10_woundPull_9 : decode cX10_woundPull 9 = .ok (.iload_n 1, 1) := by decide +kernel
theorem dX10_woundPull_10 : decode cX10_woundPull 10 = .ok (.imul, 1) := by decide +kernel
theorem dX10_woundPull_11 : decode cX10_woundPull 11 = .ok (.bipush 10, 2) := by decide +kernel
theorem dX10_woundPull_13 : decode cX10_woundPull 13 = .ok (.aload_n 0, 1) := by decide +kernel
theorem dX10_woundPull_14 : decode cX10_woundPull 14 = .ok (.getfield 101, 3) := by decide +kernel
theorem dX10_woundPull_17 : decode cX10_woundPull 17 = .ok (.imul, 1) := by decide +kernel
theorem dX10_woundPull_18 : decode cX10_woundPull 18 = .ok (.idiv, 1) := by decide +kernel
theorem dX10_woundPull_19 : decode cX10_woundPull 19 = .ok (.istore_n 2, 1) := by decide +kernel
theorem dX10_woundPull_20 : decode cX10_woundPull 20 = .ok (.bipush 10, 2) := by decide +kernel
theorem dX10_woundPull_22 : decode cX10_woundPull 22 = .ok (.aload_n 0, 1) := by decide +kernel
theorem dX10_woundPull_23 : decode cX10_woundPull 23 = .ok (.getfield 95, 3) := by decide +kernel
theorem dX10_woundPull_26 : decode cX10_woundPull 26 = .ok (.imul, 1) := by decide +kernel
theorem dX10_woundPull_27 : decode cX10_woundPull 27 = .ok (.aload_n 0, 1) := by decide +kernel
theorem dX10_woundPull_28 : decode cX10_woundPull 28 = .ok (.getfield 101, 3) := by decide +kernel
theorem dX10_woundPull_31 : decode cX10_woundPull 31 = .ok (.imul, 1) := by decide +kernel
theorem dX10_woundPull_32 : decode cX10_woundPull 32 = .ok (.aload_n 0, 1) := by decide +kernel
