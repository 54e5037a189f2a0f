theorem dX3_put_5 : decode cX3_put 5 = .ok (.aload_n 0, 1) := by decide +kernel
theorem dX3_put_6 : decode cX3_put 6 = .ok (.getfield 7, 3) := by decide +kernel
theorem dX3_put_9 : decode cX3_put 9 = .ok (.arraylength, 1) := by decide +kernel
theorem dX3_put_10 : decode cX3_put 10 = .ok (.if_icmp .ge 10, 3) := by decide +kernel
theorem dX3_put_13 : decode cX3_put 13 = .ok (.aload_n 0, 1) := by decide +kernel
theorem dX3_put_14 : decode cX3_put 14 = .ok (.getfield 7, 3) := by decide +kernel
theorem dX3_put_17 : decode cX3_put 17 = .ok (.iload_n 1, 1) := by decide +kernel
theorem dX3_put_18 : decode cX3_put 18 = .ok (.iload_n 2, 1) := by decide +kernel
theorem dX3_put_19 : decode cX3_put 19 = .ok (.iastore, 1) := by decide +kernel
theorem dX3_put_20 : decode cX3_put 20 = .ok (.return_, 1) := by decide +kernel
set_option maxRecDepth 20000 in
theorem ggX3_widen_X3_answer : GoodIn wsX3_widen wsX3_answer := goodIn_r _ [5, 6, 11, 12, 13, 14] (by decide +kernel) (by decide +kernel)
set_option maxRecDepth 20000 in
theorem gX3_widen_X3_answer : GoodIn wsX3_widen (wsV RX3 24 RX3 yX3_answer wsX3_answer) := goodIn_app (goodIn_of _ (by decide +kernel)) ggX3_widen_X3_answer
set_option maxRecDepth 20000 in
theorem ggX3_widen_X3_put : GoodIn wsX3_widen wsX3_put := goodIn_r _ [10, 6, 11, 12, 13, 14] (by decide +kernel) (by decide +kernel)
set_option maxRecDepth 20000 in
theorem gX3_widen_X3_put : GoodIn wsX3_widen (wsV RX3 28 RX3 yX3_put wsX3_put) := goodIn_app (goodIn_of _ (by decide +kernel)) ggX3_widen_X3_put
theorem dX3_widen_0 : decode cX3_widen 0 = .ok (.iload_n 2, 1) := by decide +kernel
theorem dX3_widen_1 : decode cX3_widen 1 = .ok (.ifCond .ne 12, 3) := by decide +kernel
theorem dX3_widen_4 : decode cX3_widen 4 = .ok (.iload_n 3, 1) := by decide +kernel
theorem dX3_widen_5 : decode cX3_widen 5 = .ok (.aload_n 0, 1) := by decide +kernel
theorem dX3_widen_6 : decode cX3_widen 6 = .ok (.iload_n 1, 1) := by decide +kernel
theorem dX3_widen_7 : decode cX3_widen 7 = .ok (.invokevirtual 24, 3) := by decide +kernel
theorem dX3_widen_10 : decode cX3_widen 10 = .ok (.if_icmp .ge 9, 3) := by decide +kernel
theorem dX3_widen_13 : decode cX3_widen 13 = .ok (.aload_n 0, 1) := by decide +kernel
theorem dX3_widen_14 : decode cX3_widen 14 = .ok (.iload_n 1, 1) := by decide +kernel
theorem dX3_widen_15 : decode cX3_widen 15 = .ok (.iload_n 3, 1) := by decide +kernel
theorem dX3_widen_16 : decode cX3_widen 16 = .ok (.invokevirtual 28, 3) := by decide +kernel
theorem dX3_widen_19 : decode cX3_widen 19 = .ok (.iload_n 2, 1) := by decide +kernel
theorem dX3_widen_20 : decode cX3_widen 20 = .ok (.ifCond .ne 14, 3) := by decide +kernel
theorem dX3_widen_23 : decode cX3_widen 23 = .ok (.iload_n 3, 1) := by decide +kernel
theorem dX3_widen_24 : decode cX3_widen 24 = .ok (.aload_n 0, 1) := by decide +kernel
theorem dX3_widen_25 : decode cX3_widen 25 = .ok (.iload_n 1, 1) := by decide +kernel
theorem dX3_widen_26 : decode cX3_widen 26 = .ok (.iconst 1, 1) := by decide +kernel
theorem dX3_widen_27 : decode cX3_widen 27 = .ok (.iadd, 1) := by decide +kernel
theorem dX3_widen_28 : decode cX3_widen 28 = .ok (.invokevirtual 24, 3) := by decide +kernel
theorem dX3_widen_31 : decode cX3_widen 31 = .ok (.if_icmp .le 11, 3) := by decide +kernel
theorem dX3_widen_34 : decode cX3_widen 34 = .ok (.aload_n 0, 1) := by decide +kernel
theorem dX3_widen_35 : decode cX3_widen 35 = .ok (.iload_n 1, 1) := by decide +kernel
theorem dX3_widen_36 : decode cX3_widen 36 = .ok (.iconst 1, 1) := by decide +kernel
theorem dX3_widen_37 : decode cX3_widen 37 = .ok (.iadd, 1) := by decide +kernel
theorem dX3_widen_38 : decode cX3_widen 38 = .ok (.iload_n 3, 1) := by decide +kernel
theorem dX3_widen_39 : decode cX3_widen 39 = .ok (.invokevirtual 28, 3) := by decide +kernel
theorem dX3_widen_42 : decode cX3_widen 42 = .ok (.return_, 1) := by decide +kernel
theorem dX4_init_0 : decode cX4_init 0 = .ok (.aload_n 0, 1) := by decide +kernel
theorem dX4_init_1 : decode cX4_init 1 = .ok (.invokespecial 3, 3) := by decide +kernel
theorem dX4_init_4 : decode cX4_init 4 = .ok (.return_, 1) := by decide +kernel
theorem dX4_rest_0 : decode cX4_rest 0 = .ok (.aload_n 0, 1) := by decide +kernel
theorem dX4_rest_1 : decode cX4_rest 1 = .ok (.iconst 0, 1) := by decide +kernel
theorem dX4_rest_2 : decode cX4_rest 2 = .ok (.putfield 9, 3) := by decide +kernel
theorem dX4_rest_5 : decode cX4_rest 5 = .ok (.aload_n 0, 1) := by decide +kernel
theorem dX4_rest_6 : decode cX4_rest 6 = .ok (.iconst 0, 1) := by decide +kernel
theorem dX4_rest_7 : decode cX4_rest 7 = .ok (.putfield 15, 3) := by decide +kernel
theorem dX4_rest_10 : decode cX4_rest 10 = .ok (.aload_n 0, 1) := by decide +kernel
theorem dX4_rest_11 : decode cX4_rest 11 = .ok (.iconst 0, 1) := by decide +kernel
theorem dX4_rest_12 : decode cX4_rest 12 = .ok (.putfield 18, 3) := by decide +kernel
theorem dX4_rest_15 : decode cX4_rest 15 = .ok (.aload_n 0, 1) := by decide +kernel
theorem dX4_rest_16 : decode cX4_rest 16 = .ok (.iconst 0, 1) := by decide +kernel
theorem dX4_rest_17 : decode cX4_rest 17 = .ok (.putfield 21, 3) := by decide +kernel
theorem dX4_rest_20 : decode cX4_rest 20 = .ok (.aload_n 0, 1) := by decide +kernel
theorem dX4_rest_21 : decode cX4_rest 21 = .ok (.iconst 0, 1) := by decide +kernel
theorem dX4_rest_22 : decode cX4_rest 22 = .ok (.putfield 24, 3) := by decide +kernel
theorem dX4_rest_25 : decode cX4_rest 25 = .ok (.aload_n 0, 1) := by decide +kernel
theorem dX4_rest_26 : decode cX4_rest 26 = .ok (.iconst 0, 1) := by decide +kernel
theorem dX4_rest_27 : decode cX4_rest 27 = .ok (.putfield 27, 3) := by decide +kernel
theorem dX4_rest_30 : decode cX4_rest 30 = .ok (.aload_n 0, 1) := by decide +kernel
theorem dX4_rest_31 : decode cX4_rest 31 = .ok (.iconst 0, 1) := by decide +kernel
theorem dX4_rest_32 : decode cX4_rest 32 = .ok (.putfield 30, 3) := by decide +kernel
theorem dX4_rest_35 : decode cX4_rest 35 = .ok (.return_, 1) := by decide +kernel
theorem dX4_copy_0 : decode cX4_copy 0 = .ok (.aload_n 0, 1) := by decide +kernel
theorem dX4_copy_1 : decode cX4_copy 1 = .ok (.aload_n 1, 1) := by decide +kernel
theorem dX4_copy_2 : decode cX4_copy 2 = .ok (.getfield 9, 3) := by decide +kernel
theorem dX4_copy_5 : decode cX4_copy 5 = .ok (.putfield 9, 3) := by decide +kernel
theorem dX4_copy_8 : decode cX4_copy 8 = .ok (.aload_n 0, 1) := by decide +kernel
theorem dX4_copy_9 : decode cX4_copy 9 = .ok (.aload_n 1, 1) := by decide +kernel
theorem dX4_copy_10 : decode cX4_copy 10 = .ok (.getfield 15, 3) := by decide +kernel
theorem dX4_copy_13 : decode cX4_copy 13 = .ok (.putfield 15, 3) := by decide +kernel
theorem dX4_copy_16 : decode cX4_copy 16 = .ok (.aload_n 0, 1) := by decide +kernel
theorem dX4_copy_17 : decode cX4_copy 17 = .ok (.aload_n 1, 1) := by decide +kernel
theorem dX4_copy_18 : decode cX4_copy 18 = .ok (.getfield 18, 3) := by decide +kernel
theorem dX4_copy_21 : decode cX4_copy 21 = .ok (.putfield 18, 3) := by decide +kernel
theorem dX4_copy_24 : decode cX4_copy 24 = .ok (.aload_n 0, 1) := by decide +kernel
theorem dX4_copy_25 : decode cX4_copy 25 = .ok (.aload_n 1, 1) := by decide +kernel
theorem dX4_copy_26 : decode cX4_copy 26 = .ok (.getfield 21, 3) := by decide +kernel
theorem dX4_copy_29 : decode cX4_copy 29 = .ok (.putfield 21, 3) := by decide +kernel
theorem dX4_copy_32 : decode cX4_copy 32 = .ok (.aload_n 0, 1) := by decide +kernel
theorem dX4_copy_33 : decode cX4_copy 33 = .ok (.aload_n 1, 1) := by decide +kernel
theorem dX4_copy_34 : decode cX4_copy 34 = .ok (.getfield 24, 3) := by decide +kernel
theorem dX4_copy_37 : decode cX4_copy 37 = .ok (.putfield 24, 3) := by decide +kernel
theorem dX4_copy_40 : decode cX4_copy 40 = .ok (.aload_n 0, 1) := by decide +kernel
theorem dX4_copy_41 : decode cX4_copy 41 = .ok (.aload_n 1, 1) := by decide +kernel
theorem dX4_copy_42 : decode cX4_copy 42 = .ok (.getfield 27, 3) := by decide +kernel
theorem dX4_copy_45 : decode cX4_copy 45 = .ok (.putfield 27, 3) := by decide +kernel
theorem dX4_copy_48 : decode cX4_copy 48 = .ok (.aload_n 0, 1) := by decide +kernel
theorem dX4_copy_49 : decode cX4_copy 49 = .ok (.aload_n 1, 1) := by decide +kernel
theorem dX4_copy_50 : decode cX4_copy 50 = .ok (.getfield 30, 3) := by decide +kernel
theorem dX4_copy_53 : decode cX4_copy 53 = .ok (.putfield 30, 3) := by decide +kernel
theorem dX4_copy_56 : decode cX4_copy 56 = .ok (.return_, 1) := by decide +kernel
theorem dX4_isOver_0 : decode cX4_isOver 0 = .ok (.aload_n 0, 1) := by decide +kernel
theorem dX4_isOver_1 : decode cX4_isOver 1 = .ok (.getfield 9, 3) := by decide +kernel
theorem dX4_isOver_4 : decode cX4_isOver 4 = .ok (.ifCond .ne 14, 3) := by decide +kernel
theorem dX4_isOver_7 : decode cX4_isOver 7 = .ok (.aload_n 0, 1) := by decide +kernel
theorem dX4_isOver_8 : decode cX4_isOver 8 = .ok (.getfield 15, 3) := by decide +kernel
theorem dX4_isOver_11 : decode cX4_isOver 11 = .ok (.ifCond .ne 7, 3) := by decide +kernel
theorem dX4_isOver_14 : decode cX4_isOver 14 = .ok (.iconst 1, 1) := by decide +kernel
theorem dX4_isOver_15 : decode cX4_isOver 15 = .ok (.goto 4, 3) := by decide +kernel
theorem dX4_isOver_18 : decode cX4_isOver 18 = .ok (.iconst 0, 1) := by decide +kernel
theorem dX4_isOver_19 : decode cX4_isOver 19 = .ok (.ireturn, 1) := by decide +kernel
set_option maxRecDepth 20000 in
theorem ggX4_step_X0_loosed : GoodIn wsX4_step wsX0_loosed := goodIn_r _ [14, 15, 16, 17, 18, 19, 12, 20, 21, 22, 23, 24, 55, 56, 57, 58, 59, 60, 61] (by decide +kernel) (by decide +kernel)
set_option maxRecDepth 20000 in
theorem gX4_step_X0_loosed_n34 : GoodIn wsX4_step (wsX0_loosed) := ggX4_step_X0_loosed
set_option maxRecDepth 20000 in
theorem ggX4_step_X9_cut : GoodIn wsX4_step wsX9_cut := goodIn_r _ [27] (by decide +kernel) (by decide +kernel)
set_option maxRecDepth 20000 in
theorem gX4_step_X9_cut_n43 : GoodIn wsX4_step (wsX9_cut) := ggX4_step_X9_cut
set_option maxRecDepth 20000 in
theorem ggX4_step_X4_gustOf : GoodIn wsX4_step wsX4_gustOf := goodIn_r _ [32, 33, 34, 35, 36, 48, 49, 50, 51, 52, 53, 54] (by decide +kernel) (by decide +kernel)
set_option maxRecDepth 20000 in
theorem gX4_step_X4_gustOf : GoodIn wsX4_step (wsV RX4 69 RX4 yX4_gustOf wsX4_gustOf) := goodIn_app (goodIn_of _ (by decide +kernel)) ggX4_step_X4_gustOf
set_option maxRecDepth 20000 in
theorem ggX4_step_X9_limit : GoodIn wsX4_step wsX9_limit := goodIn_r _ [38] (by decide +kernel) (by decide +kernel)
set_option maxRecDepth 20000 in
theorem gX4_step_X9_limit_n75 : GoodIn wsX4_step (wsX9_limit) := ggX4_step_X9_limit
set_option maxRecDepth 20000 in
theorem ggX4_step_X4_drift : GoodIn wsX4_step wsX4_drift := goodIn_r _ [42, 43, 6, 44, 45, 46, 47, 35, 37, 26, 38, 48, 49, 50, 51, 52, 53, 54, 62, 63, 64, 65, 66, 67, 68, 69, 70, 71, 72, 73, 74, 75, 76, 77, 78] (by decide +kernel) (by decide +kernel)
set_option maxRecDepth 20000 in
theorem gX4_step_X4_drift : GoodIn wsX4_step (wsV RX4 79 RX4 yX4_drift wsX4_drift) := goodIn_app (goodIn_of _ (by decide +kernel)) ggX4_step_X4_drift
theorem dX4_step_0 : decode cX4_step 0 = .ok (.aload_n 2, 1) := by decide +kernel
theorem dX4_step_1 : decode cX4_step 1 = .ok (.aload_n 0, 1) := by decide +kernel
theorem dX4_step_2 : decode cX4_step 2 = .ok (.getfield 9, 3) := by decide +kernel
theorem dX4_step_5 : decode cX4_step 5 = .ok (.invokevirtual 34, 3) := by decide +kernel
theorem dX4_step_8 : decode cX4_step 8 = .ok (.aload_n 2, 1) := by decide +kernel
theorem dX4_step_9 : decode cX4_step 9 = .ok (.getfield 40, 3) := by decide +kernel
theorem dX4_step_12 : decode cX4_step 12 = .ok (.invokestatic 43, 3) := by decide +kernel
theorem dX4_step_15 : decode cX4_step 15 = .ok (.aload_n 0, 1) := by decide +kernel
theorem dX4_step_16 : decode cX4_step 16 = .ok (.getfield 9, 3) := by decide +kernel
theorem dX4_step_19 : decode cX4_step 19 = .ok (.invokestatic 47, 3) := by decide +kernel
theorem dX4_step_22 : decode cX4_step 22 = .ok (.istore 4, 2) := by decide +kernel
theorem dX4_step_24 : decode cX4_step 24 = .ok (.aload_n 1, 1) := by decide +kernel
theorem dX4_step_25 : decode cX4_step 25 = .ok (.getfield 52, 3) := by decide +kernel
theorem dX4_step_28 : decode cX4_step 28 = .ok (.iload 4, 2) := by decide +kernel
theorem dX4_step_30 : decode cX4_step 30 = .ok (.imul, 1) := by decide +kernel
theorem dX4_step_31 : decode cX4_step 31 = .ok (.bipush 10, 2) := by decide +kernel
theorem dX4_step_33 : decode cX4_step 33 = .ok (.idiv, 1) := by decide +kernel
theorem dX4_step_34 : decode cX4_step 34 = .ok (.aload_n 0, 1) := by decide +kernel
theorem dX4_step_35 : decode cX4_step 35 = .ok (.getfield 15, 3) := by decide +kernel
theorem dX4_step_38 : decode cX4_step 38 = .ok (.isub, 1) := by decide +kernel
theorem dX4_step_39 : decode cX4_step 39 = .ok (.iconst 0, 1) := by decide +kernel
theorem dX4_step_40 : decode cX4_step 40 = .ok (.invokestatic 57, 3) := by decide +kernel
theorem dX4_step_43 : decode cX4_step 43 = .ok (.aload_n 1, 1) := by decide +kernel
theorem dX4_step_44 : decode cX4_step 44 = .ok (.getfield 60, 3) := by decide +kernel
theorem dX4_step_47 : decode cX4_step 47 = .ok (.imul, 1) := by decide +kernel
theorem dX4_step_48 : decode cX4_step 48 = .ok (.bipush 10, 2) := by decide +kernel
theorem dX4_step_50 : decode cX4_step 50 = .ok (.idiv, 1) := by decide +kernel
theorem dX4_step_51 : decode cX4_step 51 = .ok (.istore 5, 2) := by decide +kernel
theorem dX4_step_53 : decode cX4_step 53 = .ok (.aload_n 0, 1) := by decide +kernel
theorem dX4_step_54 : decode cX4_step 54 = .ok (.getfield 15, 3) := by decide +kernel
theorem dX4_step_57 : decode cX4_step 57 = .ok (.aload_n 0, 1) := by decide +kernel
theorem dX4_step_58 : decode cX4_step 58 = .ok (.getfield 15, 3) := by decide +kernel
theorem dX4_step_61 : decode cX4_step 61 = .ok (.imul, 1) := by decide +kernel
theorem dX4_step_62 : decode cX4_step 62 = .ok (.aload_n 1, 1) := by decide +kernel
theorem dX4_step_63 : decode cX4_step 63 = .ok (.getfield 63, 3) := by decide +kernel
theorem dX4_step_66 : decode cX4_step 66 = .ok (.imul, 1) := by decide +kernel
theorem dX4_step_67 : decode cX4_step 67 = .ok (.sipush 1000, 3) := by decide +kernel
theorem dX4_step_70 : decode cX4_step 70 = .ok (.idiv, 1) := by decide +kernel
theorem dX4_step_71 : decode cX4_step 71 = .ok (.aload_n 0, 1) := by decide +kernel
theorem dX4_step_72 : decode cX4_step 72 = .ok (.aload_n 1, 1) := by decide +kernel
theorem dX4_step_73 : decode cX4_step 73 = .ok (.getfield 66, 3) := by decide +kernel
theorem dX4_step_76 : decode cX4_step 76 = .ok (.iload_n 3, 1) := by decide +kernel
theorem dX4_step_77 : decode cX4_step 77 = .ok (.invokevirtual 69, 3) := by decide +kernel
theorem dX4_step_80 : decode cX4_step 80 = .ok (.iadd, 1) := by decide +kernel
theorem dX4_step_81 : decode cX4_step 81 = .ok (.istore 6, 2) := by decide +kernel
theorem dX4_step_83 : decode cX4_step 83 = .ok (.aload_n 0, 1) := by decide +kernel
theorem dX4_step_84 : decode cX4_step 84 = .ok (.getfield 15, 3) := by decide +kernel
theorem dX4_step_87 : decode cX4_step 87 = .ok (.istore 7, 2) := by decide +kernel
theorem dX4_step_89 : decode cX4_step 89 = .ok (.aload_n 0, 1) := by decide +kernel
theorem dX4_step_90 : decode cX4_step 90 = .ok (.dup, 1) := by decide +kernel
theorem dX4_step_91 : decode cX4_step 91 = .ok (.getfield 9, 3) := by decide +kernel
theorem dX4_step_94 : decode cX4_step 94 = .ok (.iload 4, 2) := by decide +kernel
theorem dX4_step_96 : decode cX4_step 96 = .ok (.isub, 1) := by decide +kernel
theorem dX4_step_97 : decode cX4_step 97 = .ok (.putfield 9, 3) := by decide +kernel
theorem dX4_step_100 : decode cX4_step 100 = .ok (.aload_n 0, 1) := by decide +kernel
theorem dX4_step_101 : decode cX4_step 101 = .ok (.aload_n 0, 1) := by decide +kernel
theorem dX4_step_102 : decode cX4_step 102 = .ok (.getfield 15, 3) := by decide +kernel
theorem dX4_step_105 : decode cX4_step 105 = .ok (.iload 5, 2) := by decide +kernel
theorem dX4_step_107 : decode cX4_step 107 = .ok (.iload 6, 2) := by decide +kernel
theorem dX4_step_109 : decode cX4_step 109 = .ok (.isub, 1) := by decide +kernel
theorem dX4_step_110 : decode cX4_step 110 = .ok (.aload_n 1, 1) := by decide +kernel
theorem dX4_step_111 : decode cX4_step 111 = .ok (.getfield 72, 3) := by decide +kernel
theorem dX4_step_114 : decode cX4_step 114 = .ok (.invokestatic 43, 3) := by decide +kernel
theorem dX4_step_117 : decode cX4_step 117 = .ok (.iadd, 1) := by decide +kernel
theorem dX4_step_118 : decode cX4_step 118 = .ok (.iconst 0, 1) := by decide +kernel
theorem dX4_step_119 : decode cX4_step 119 = .ok (.sipush 999, 3) := by decide +kernel
theorem dX4_step_122 : decode cX4_step 122 = .ok (.invokestatic 75, 3) := by decide +kernel
theorem dX4_step_125 : decode cX4_step 125 = .ok (.putfield 15, 3) := by decide +kernel
theorem dX4_step_128 : decode cX4_step 128 = .ok (.aload_n 0, 1) := by decide +kernel
theorem dX4_step_129 : decode cX4_step 129 = .ok (.iload 4, 2) := by decide +kernel
theorem dX4_step_131 : decode cX4_step 131 = .ok (.ifCond .ne 16, 3) := by decide +kernel
theorem dX4_step_134 : decode cX4_step 134 = .ok (.aload_n 0, 1) := by decide +kernel
theorem dX4_step_135 : decode cX4_step 135 = .ok (.getfield 15, 3) := by decide +kernel
theorem dX4_step_138 : decode cX4_step 138 = .ok (.iload 7, 2) := by decide +kernel
theorem dX4_step_140 : decode cX4_step 140 = .ok (.if_icmp .ne 7, 3) := by decide +kernel
theorem dX4_step_143 : decode cX4_step 143 = .ok (.iconst 1, 1) := by decide +kernel
theorem dX4_step_144 : decode cX4_step 144 = .ok (.goto 4, 3) := by decide +kernel
theorem dX4_step_147 : decode cX4_step 147 = .ok (.iconst 0, 1) := by decide +kernel
theorem dX4_step_148 : decode cX4_step 148 = .ok (.putfield 30, 3) := by decide +kernel
theorem dX4_step_151 : decode cX4_step 151 = .ok (.aload_n 0, 1) := by decide +kernel
theorem dX4_step_152 : decode cX4_step 152 = .ok (.aload_n 1, 1) := by decide +kernel
theorem dX4_step_153 : decode cX4_step 153 = .ok (.iload 5, 2) := by decide +kernel
theorem dX4_step_155 : decode cX4_step 155 = .ok (.invokevirtual 79, 3) := by decide +kernel
theorem dX4_step_158 : decode cX4_step 158 = .ok (.return_, 1) := by decide +kernel
set_option maxRecDepth 20000 in
theorem ggX4_drift_X9_limit : GoodIn wsX4_drift wsX9_limit := goodIn_r _ [10] (by decide +kernel) (by decide +kernel)
set_option maxRecDepth 20000 in
theorem gX4_drift_X9_limit_n75 : GoodIn wsX4_drift (wsX9_limit) := ggX4_drift_X9_limit
theorem dX4_drift_0 : decode cX4_drift 0 = .ok (.aload_n 0, 1) := by decide +kernel
theorem dX4_drift_1 : decode cX4_drift 1 = .ok (.dup, 1) := by decide +kernel
theorem dX4_drift_2 : decode cX4_drift 2 = .ok (.getfield 18, 3) := by decide +kernel
theorem dX4_drift_5 : decode cX4_drift 5 = .ok (.aload_n 0, 1) := by decide +kernel
theorem dX4_drift_6 : decode cX4_drift 6 = .ok (.getfield 15, 3) := by decide +kernel
theorem dX4_drift_9 : decode cX4_drift 9 = .ok (.iadd, 1) := by decide +kernel
theorem dX4_drift_10 : decode cX4_drift 10 = .ok (.putfield 18, 3) := by decide +kernel
theorem dX4_drift_13 : decode cX4_drift 13 = .ok (.aload_n 0, 1) := by decide +kernel
theorem dX4_drift_14 : decode cX4_drift 14 = .ok (.aload_n 0, 1) := by decide +kernel
theorem dX4_drift_15 : decode cX4_drift 15 = .ok (.getfield 21, 3) := by decide +kernel
theorem dX4_drift_18 : decode cX4_drift 18 = .ok (.iload_n 2, 1) := by decide +kernel
theorem dX4_drift_19 : decode cX4_drift 19 = .ok (.aload_n 1, 1) := by decide +kernel
theorem dX4_drift_20 : decode cX4_drift 20 = .ok (.getfield 83, 3) := by decide +kernel
theorem dX4_drift_23 : decode cX4_drift 23 = .ok (.imul, 1) := by decide +kernel
theorem dX4_drift_24 : decode cX4_drift 24 = .ok (.aload_n 0, 1) := by decide +kernel
theorem dX4_drift_25 : decode cX4_drift 25 = .ok (.getfield 15, 3) := by decide +kernel
theorem dX4_drift_28 : decode cX4_drift 28 = .ok (.aload_n 1, 1) := by decide +kernel
theorem dX4_drift_29 : decode cX4_drift 29 = .ok (.getfield 86, 3) := by decide +kernel
theorem dX4_drift_32 : decode cX4_drift 32 = .ok (.imul, 1) := by decide +kernel
theorem dX4_drift_33 : decode cX4_drift 33 = .ok (.isub, 1) := by decide +kernel
theorem dX4_drift_34 : decode cX4_drift 34 = .ok (.bipush 100, 2) := by decide +kernel
theorem dX4_drift_36 : decode cX4_drift 36 = .ok (.idiv, 1) := by decide +kernel
theorem dX4_drift_37 : decode cX4_drift 37 = .ok (.iadd, 1) := by decide +kernel
theorem dX4_drift_38 : decode cX4_drift 38 = .ok (.sipush (-9999), 3) := by decide +kernel
theorem dX4_drift_41 : decode cX4_drift 41 = .ok (.sipush 9999, 3) := by decide +kernel
theorem dX4_drift_44 : decode cX4_drift 44 = .ok (.invokestatic 75, 3) := by decide +kernel
theorem dX4_drift_47 : decode cX4_drift 47 = .ok (.putfield 21, 3) := by decide +kernel
theorem dX4_drift_50 : decode cX4_drift 50 = .ok (.aload_n 0, 1) := by decide +kernel
theorem dX4_drift_51 : decode cX4_drift 51 = .ok (.aload_n 0, 1) := by decide +kernel
theorem dX4_drift_52 : decode cX4_drift 52 = .ok (.getfield 24, 3) := by decide +kernel
theorem dX4_drift_55 : decode cX4_drift 55 = .ok (.aload_n 0, 1) := by decide +kernel
theorem dX4_drift_56 : decode cX4_drift 56 = .ok (.getfield 15, 3) := by decide +kernel
theorem dX4_drift_59 : decode cX4_drift 59 = .ok (.aload_n 0, 1) := by decide +kernel
theorem dX4_drift_60 : decode cX4_drift 60 = .ok (.getfield 21, 3) := by decide +kernel
theorem dX4_drift_63 : decode cX4_drift 63 = .ok (.imul, 1) := by decide +kernel
theorem dX4_drift_64 : decode cX4_drift 64 = .ok (.sipush 1000, 3) := by decide +kernel
theorem dX4_drift_67 : decode cX4_drift 67 = .ok (.idiv, 1) := by decide +kernel
theorem dX4_drift_68 : decode cX4_drift 68 = .ok (.iadd, 1) := by decide +kernel
theorem dX4_drift_69 : decode cX4_drift 69 = .ok (.ldc 89, 2) := by decide +kernel
theorem dX4_drift_71 : decode cX4_drift 71 = .ok (.ldc 90, 2) := by decide +kernel
theorem dX4_drift_73 : decode cX4_drift 73 = .ok (.invokestatic 75, 3) := by decide +kernel
theorem dX4_drift_76 : decode cX4_drift 76 = .ok (.putfield 24, 3) := by decide +kernel
theorem dX4_drift_79 : decode cX4_drift 79 = .ok (.aload_n 0, 1) := by decide +kernel
theorem dX4_drift_80 : decode cX4_drift 80 = .ok (.dup, 1) := by decide +kernel
theorem dX4_drift_81 : decode cX4_drift 81 = .ok (.getfield 27, 3) := by decide +kernel
theorem dX4_drift_84 : decode cX4_drift 84 = .ok (.iconst 1, 1) := by decide +kernel
theorem dX4_drift_85 : decode cX4_drift 85 = .ok (.iadd, 1) := by decide +kernel
theorem dX4_drift_86 : decode cX4_drift 86 = .ok (.putfield 27, 3) := by decide +kernel
theorem dX4_drift_89 : decode cX4_drift 89 = .ok (.return_, 1) := by decide +kernel
theorem dX4_gustOf_0 : decode cX4_gustOf 0 = .ok (.iload_n 2, 1) := by decide +kernel
theorem dX4_gustOf_1 : decode cX4_gustOf 1 = .ok (.ifCond .lt 7, 3) := by decide +kernel
theorem dX4_gustOf_4 : decode cX4_gustOf 4 = .ok (.iload_n 1, 1) := by decide +kernel
theorem dX4_gustOf_5 : decode cX4_gustOf 5 = .ok (.ifCond .ge 5, 3) := by decide +kernel
theorem dX4_gustOf_8 : decode cX4_gustOf 8 = .ok (.iconst 0, 1) := by decide +kernel
theorem dX4_gustOf_9 : decode cX4_gustOf 9 = .ok (.ireturn, 1) := by decide +kernel
theorem dX4_gustOf_10 : decode cX4_gustOf 10 = .ok (.ldc2_w 91, 3) := by decide +kernel
theorem dX4_gustOf_13 : decode cX4_gustOf 13 = .ok (.iload_n 2, 1) := by decide +kernel
theorem dX4_gustOf_14 : decode cX4_gustOf 14 = .ok (.i2l, 1) := by decide +kernel
theorem dX4_gustOf_15 : decode cX4_gustOf 15 = .ok (.lmul, 1) := by decide +kernel
theorem dX4_gustOf_16 : decode cX4_gustOf 16 = .ok (.ldc2_w 93, 3) := by decide +kernel
theorem dX4_gustOf_19 : decode cX4_gustOf 19 = .ok (.aload_n 0, 1) := by decide +kernel
theorem dX4_gustOf_20 : decode cX4_gustOf 20 = .ok (.getfield 27, 3) := by decide +kernel
theorem dX4_gustOf_23 : decode cX4_gustOf 23 = .ok (.i2l, 1) := by decide +kernel
theorem dX4_gustOf_24 : decode cX4_gustOf 24 = .ok (.lmul, 1) := by decide +kernel
theorem dX4_gustOf_25 : decode cX4_gustOf 25 = .ok (.ladd, 1) := by decide +kernel
theorem dX4_gustOf_26 : decode cX4_gustOf 26 = .ok (.lconst 1, 1) := by decide +kernel
theorem dX4_gustOf_27 : decode cX4_gustOf 27 = .ok (.ladd, 1) := by decide +kernel
theorem dX4_gustOf_28 : decode cX4_gustOf 28 = .ok (.lstore_n 3, 1) := by decide +kernel
theorem dX4_gustOf_29 : decode cX4_gustOf 29 = .ok (.lload_n 3, 1) := by decide +kernel
theorem dX4_gustOf_30 : decode cX4_gustOf 30 = .ok (.lload_n 3, 1) := by decide +kernel
theorem dX4_gustOf_31 : decode cX4_gustOf 31 = .ok (.lmul, 1) := by decide +kernel
theorem dX4_gustOf_32 : decode cX4_gustOf 32 = .ok (.ldc2_w 95, 3) := by decide +kernel
theorem dX4_gustOf_35 : decode cX4_gustOf 35 = .ok (.lrem, 1) := by decide +kernel
theorem dX4_gustOf_36 : decode cX4_gustOf 36 = .ok (.iload_n 1, 1) := by decide +kernel
theorem dX4_gustOf_37 : decode cX4_gustOf 37 = .ok (.iconst 1, 1) := by decide +kernel
theorem dX4_gustOf_38 : decode cX4_gustOf 38 = .ok (.iadd, 1) := by decide +kernel
theorem dX4_gustOf_39 : decode cX4_gustOf 39 = .ok (.i2l, 1) := by decide +kernel
theorem dX4_gustOf_40 : decode cX4_gustOf 40 = .ok (.lrem, 1) := by decide +kernel
theorem dX4_gustOf_41 : decode cX4_gustOf 41 = .ok (.l2i, 1) := by decide +kernel
theorem dX4_gustOf_42 : decode cX4_gustOf 42 = .ok (.ireturn, 1) := by decide +kernel
set_option maxRecDepth 20000 in
theorem ggX5_init_X6_init : GoodIn wsX5_init wsX6_init := goodIn_r _ [12, 13, 2, 3] (by decide +kernel) (by decide +kernel)
set_option maxRecDepth 20000 in
theorem gX5_init_X6_init_n11 : GoodIn wsX5_init (wsX6_init) := ggX5_init_X6_init
theorem dX5_init_0 : decode cX5_init 0 = .ok (.aload_n 0, 1) := by decide +kernel
theorem dX5_init_1 : decode cX5_init 1 = .ok (.invokespecial 3, 3) := by decide +kernel
theorem dX5_init_4 : decode cX5_init 4 = .ok (.aload_n 0, 1) := by decide +kernel
theorem dX5_init_5 : decode cX5_init 5 = .ok (.new 9, 3) := by decide +kernel
theorem dX5_init_8 : decode cX5_init 8 = .ok (.dup, 1) := by decide +kernel
theorem dX5_init_9 : decode cX5_init 9 = .ok (.invokespecial 11, 3) := by decide +kernel
theorem dX5_init_12 : decode cX5_init 12 = .ok (.putfield 12, 3) := by decide +kernel
theorem dX5_init_15 : decode cX5_init 15 = .ok (.aload_n 0, 1) := by decide +kernel
theorem dX5_init_16 : decode cX5_init 16 = .ok (.bipush 16, 2) := by decide +kernel
theorem dX5_init_18 : decode cX5_init 18 = .ok (.newarray .int, 2) := by decide +kernel
theorem dX5_init_20 : decode cX5_init 20 = .ok (.putfield 18, 3) := by decide +kernel
theorem dX5_init_23 : decode cX5_init 23 = .ok (.aload_n 0, 1) := by decide +kernel
theorem dX5_init_24 : decode cX5_init 24 = .ok (.iconst 4, 1) := by decide +kernel
theorem dX5_init_25 : decode cX5_init 25 = .ok (.newarray .int, 2) := by decide +kernel
theorem dX5_init_27 : decode cX5_init 27 = .ok (.putfield 22, 3) := by decide +kernel
theorem dX5_init_30 : decode cX5_init 30 = .ok (.return_, 1) := by decide +kernel
set_option maxRecDepth 20000 in
theorem ggX5_readAll_X6_clear : GoodIn wsX5_readAll wsX6_clear := goodIn_r _ [5, 6, 7, 8, 9, 10, 11, 12, 13, 14, 15, 16, 17, 18, 19, 20, 21, 22, 75, 76, 77, 78, 79, 80, 81, 82, 83, 84, 85, 86, 87, 88, 89, 90, 91] (by decide +kernel) (by decide +kernel)
set_option maxRecDepth 20000 in
theorem gX5_readAll_X6_clear_n25 : GoodIn wsX5_readAll (wsX6_clear) := ggX5_readAll_X6_clear
set_option maxRecDepth 20000 in
theorem ggX5_readAll_X5_itemEnd : GoodIn wsX5_readAll wsX5_itemEnd := goodIn_r _ [27, 28, 29, 30, 31, 32, 33, 34, 35, 26, 36, 37, 38, 39, 40, 41, 42, 43, 44, 45, 46, 47, 48, 1, 49, 50, 51, 52, 53, 54, 55, 56, 57, 58, 59, 60, 61, 62, 63, 64, 65, 66, 67, 68, 69, 73, 74, 70, 71, 72, 75, 76, 77, 78, 79, 80, 81, 82, 83, 84, 85, 86, 87, 88, 89, 90, 91] (by decide +kernel) (by decide +kernel)
set_option maxRecDepth 20000 in
theorem gX5_readAll_X5_itemEnd : GoodIn wsX5_readAll (wsV RX5 34 RX5 yX5_itemEnd wsX5_itemEnd) := goodIn_app (goodIn_of _ (by decide +kernel)) ggX5_readAll_X5_itemEnd
theorem dX5_readAll_0 : decode cX5_readAll 0 = .ok (.aload_n 0, 1) := by decide +kernel
theorem dX5_readAll_1 : decode cX5_readAll 1 = .ok (.getfield 12, 3) := by decide +kernel
theorem dX5_readAll_4 : decode cX5_readAll 4 = .ok (.invokevirtual 25, 3) := by decide +kernel
theorem dX5_readAll_7 : decode cX5_readAll 7 = .ok (.iconst 0, 1) := by decide +kernel
theorem dX5_readAll_8 : decode cX5_readAll 8 = .ok (.istore_n 2, 1) := by decide +kernel
theorem dX5_readAll_9 : decode cX5_readAll 9 = .ok (.iconst 0, 1) := by decide +kernel
theorem dX5_readAll_10 : decode cX5_readAll 10 = .ok (.istore_n 3, 1) := by decide +kernel
theorem dX5_readAll_11 : decode cX5_readAll 11 = .ok (.iload_n 3, 1) := by decide +kernel
theorem dX5_readAll_12 : decode cX5_readAll 12 = .ok (.sipush 300, 3) := by decide +kernel
theorem dX5_readAll_15 : decode cX5_readAll 15 = .ok (.if_icmp .ge 36, 3) := by decide +kernel
theorem dX5_readAll_18 : decode cX5_readAll 18 = .ok (.iload_n 2, 1) := by decide +kernel
theorem dX5_readAll_19 : decode cX5_readAll 19 = .ok (.aload_n 1, 1) := by decide +kernel
theorem dX5_readAll_20 : decode cX5_readAll 20 = .ok (.getfield 28, 3) := by decide +kernel
theorem dX5_readAll_23 : decode cX5_readAll 23 = .ok (.if_icmp .ge 28, 3) := by decide +kernel
theorem dX5_readAll_26 : decode cX5_readAll 26 = .ok (.aload_n 0, 1) := by decide +kernel
theorem dX5_readAll_27 : decode cX5_readAll 27 = .ok (.aload_n 1, 1) := by decide +kernel
theorem dX5_readAll_28 : decode cX5_readAll 28 = .ok (.iload_n 2, 1) := by decide +kernel
theorem dX5_readAll_29 : decode cX5_readAll 29 = .ok (.invokevirtual 34, 3) := by decide +kernel
theorem dX5_readAll_32 : decode cX5_readAll 32 = .ok (.istore 4, 2) := by decide +kernel
theorem dX5_readAll_34 : decode cX5_readAll 34 = .ok (.iload 4, 2) := by decide +kernel
theorem dX5_readAll_36 : decode cX5_readAll 36 = .ok (.iconst (-1), 1) := by decide +kernel
theorem dX5_readAll_37 : decode cX5_readAll 37 = .ok (.if_icmp .ne 5, 3) := by decide +kernel
theorem dX5_readAll_40 : decode cX5_readAll 40 = .ok (.iload_n 2, 1) := by decide +kernel
theorem dX5_readAll_41 : decode cX5_readAll 41 = .ok (.ireturn, 1) := by decide +kernel
theorem dX5_readAll_42 : decode cX5_readAll 42 = .ok (.iload 4, 2) := by decide +kernel
theorem dX5_readAll_44 : decode cX5_readAll 44 = .ok (.istore_n 2, 1) := by decide +kernel
theorem dX5_readAll_45 : decode cX5_readAll 45 = .ok (.iinc 3 1, 3) := by decide +kernel
theorem dX5_readAll_48 : decode cX5_readAll 48 = .ok (.goto (-37), 3) := by decide +kernel
theorem dX5_readAll_51 : decode cX5_readAll 51 = .ok (.bipush (-4), 2) := by decide +kernel
theorem dX5_readAll_53 : decode cX5_readAll 53 = .ok (.ireturn, 1) := by decide +kernel
set_option maxRecDepth 20000 in
theorem ggX5_itemEnd_X7_at : GoodIn wsX5_itemEnd wsX7_at := goodIn_r _ [4, 5, 6, 45, 46] (by decide +kernel) (by decide +kernel)
set_option maxRecDepth 20000 in
theorem gX5_itemEnd_X7_at_n38 : GoodIn wsX5_itemEnd (wsX7_at) := ggX5_itemEnd_X7_at
set_option maxRecDepth 20000 in
theorem ggX5_itemEnd_X5_numbersOf : GoodIn wsX5_itemEnd wsX5_numbersOf := goodIn_r _ [10] (by decide +kernel) (by decide +kernel)
set_option maxRecDepth 20000 in
theorem gX5_itemEnd_X5_numbersOf : GoodIn wsX5_itemEnd (va_wsS RX5 42 yX5_numbersOf wsX5_numbersOf) := goodIn_app (goodIn_of _ (by decide +kernel)) ggX5_itemEnd_X5_numbersOf
set_option maxRecDepth 20000 in
theorem ggX5_itemEnd_X5_numberEnd : GoodIn wsX5_itemEnd wsX5_numberEnd := goodIn_r _ [14, 15, 1, 2, 3, 4, 5, 6, 16, 17, 18, 47, 48, 49, 45, 46] (by decide +kernel) (by decide +kernel)
set_option maxRecDepth 20000 in
theorem gX5_itemEnd_X5_numberEnd : GoodIn wsX5_itemEnd (wsV RX5 45 RX5 yX5_numberEnd wsX5_numberEnd) := goodIn_app (goodIn_of _ (by decide +kernel)) ggX5_itemEnd_X5_numberEnd
set_option maxRecDepth 20000 in
theorem ggX5_itemEnd_X5_take : GoodIn wsX5_itemEnd wsX5_take := goodIn_r _ [22, 15, 23, 24, 25, 26, 9, 27, 28, 29, 30, 31, 32, 16, 17, 18, 33, 34, 35, 36, 37, 38, 39, 40, 41, 42, 43, 44, 47, 48, 49, 50, 51, 52, 53, 54, 55, 56, 57, 58, 59, 60, 61, 62, 63, 64, 65, 66] (by decide +kernel) (by decide +kernel)
set_option maxRecDepth 20000 in
theorem gX5_itemEnd_X5_take : GoodIn wsX5_itemEnd (wsV RX5 49 RX5 yX5_take wsX5_take) := goodIn_app (goodIn_of _ (by decide +kernel)) ggX5_itemEnd_X5_take
theorem dX5_itemEnd_0 : decode cX5_itemEnd 0 = .ok (.aload_n 1, 1) := by decide +kernel
theorem dX5_itemEnd_1 : decode cX5_itemEnd 1 = .ok (.iload_n 2, 1) := by decide +kernel
theorem dX5_itemEnd_2 : decode cX5_itemEnd 2 = .ok (.invokevirtual 38, 3) := by decide +kernel
theorem dX5_itemEnd_5 : decode cX5_itemEnd 5 = .ok (.istore_n 3, 1) := by decide +kernel
theorem dX5_itemEnd_6 : decode cX5_itemEnd 6 = .ok (.iload_n 3, 1) := by decide +kernel
theorem dX5_itemEnd_7 : decode cX5_itemEnd 7 = .ok (.invokestatic 42, 3) := by decide +kernel
theorem dX5_itemEnd_10 : decode cX5_itemEnd 10 = .ok (.istore 4, 2) := by decide +kernel
theorem dX5_itemEnd_12 : decode cX5_itemEnd 12 = .ok (.iload_n 2, 1) := by decide +kernel
theorem dX5_itemEnd_13 : decode cX5_itemEnd 13 = .ok (.iconst 1, 1) := by decide +kernel
theorem dX5_itemEnd_14 : decode cX5_itemEnd 14 = .ok (.iadd, 1) := by decide +kernel
theorem dX5_itemEnd_15 : decode cX5_itemEnd 15 = .ok (.istore 5, 2) := by decide +kernel
theorem dX5_itemEnd_17 : decode cX5_itemEnd 17 = .ok (.iconst 0, 1) := by decide +kernel
theorem dX5_itemEnd_18 : decode cX5_itemEnd 18 = .ok (.istore 6, 2) := by decide +kernel
theorem dX5_itemEnd_20 : decode cX5_itemEnd 20 = .ok (.iload 6, 2) := by decide +kernel
theorem dX5_itemEnd_22 : decode cX5_itemEnd 22 = .ok (.iload 4, 2) := by decide +kernel
theorem dX5_itemEnd_24 : decode cX5_itemEnd 24 = .ok (.if_icmp .ge 44, 3) := by decide +kernel
theorem dX5_itemEnd_27 : decode cX5_itemEnd 27 = .ok (.aload_n 0, 1) := by decide +kernel
theorem dX5_itemEnd_28 : decode cX5_itemEnd 28 = .ok (.aload_n 1, 1) := by decide +kernel
theorem dX5_itemEnd_29 : decode cX5_itemEnd 29 = .ok (.iload 5, 2) := by decide +kernel
theorem dX5_itemEnd_31 : decode cX5_itemEnd 31 = .ok (.iload 6, 2) := by decide +kernel
theorem dX5_itemEnd_33 : decode cX5_itemEnd 33 = .ok (.iload 6, 2) := by decide +kernel
theorem dX5_itemEnd_35 : decode cX5_itemEnd 35 = .ok (.iload 4, 2) := by decide +kernel
theorem dX5_itemEnd_37 : decode cX5_itemEnd 37 = .ok (.iconst 1, 1) := by decide +kernel
theorem dX5_itemEnd_38 : decode cX5_itemEnd 38 = .ok (.isub, 1) := by decide +kernel
theorem dX5_itemEnd_39 : decode cX5_itemEnd 39 = .ok (.if_icmp .ne 8, 3) := by decide +kernel
theorem dX5_itemEnd_42 : decode cX5_itemEnd 42 = .ok (.bipush 59, 2) := by decide +kernel
theorem dX5_itemEnd_44 : decode cX5_itemEnd 44 = .ok (.goto 5, 3) := by decide +kernel
theorem dX5_itemEnd_47 : decode cX5_itemEnd 47 = .ok (.bipush 44, 2) := by decide +kernel
theorem dX5_itemEnd_49 : decode cX5_itemEnd 49 = .ok (.invokevirtual 45, 3) := by decide +kernel
theorem dX5_itemEnd_52 : decode cX5_itemEnd 52 = .ok (.istore 5, 2) := by decide +kernel
theorem dX5_itemEnd_54 : decode cX5_itemEnd 54 = .ok (.iload 5, 2) := by decide +kernel
theorem dX5_itemEnd_56 : decode cX5_itemEnd 56 = .ok (.iconst (-1), 1) := by decide +kernel
theorem dX5_itemEnd_57 : decode cX5_itemEnd 57 = .ok (.if_icmp .ne 5, 3) := by decide +kernel
theorem dX5_itemEnd_60 : decode cX5_itemEnd 60 = .ok (.iconst (-1), 1) := by decide +kernel
theorem dX5_itemEnd_61 : decode cX5_itemEnd 61 = .ok (.ireturn, 1) := by decide +kernel
theorem dX5_itemEnd_62 : decode cX5_itemEnd 62 = .ok (.iinc 6 1, 3) := by decide +kernel
theorem dX5_itemEnd_65 : decode cX5_itemEnd 65 = .ok (.goto (-45), 3) := by decide +kernel
theorem dX5_itemEnd_68 : decode cX5_itemEnd 68 = .ok (.iload 4, 2) := by decide +kernel
theorem dX5_itemEnd_70 : decode cX5_itemEnd 70 = .ok (.ifCond .le 16, 3) := by decide +kernel
theorem dX5_itemEnd_73 : decode cX5_itemEnd 73 = .ok (.aload_n 0, 1) := by decide +kernel
theorem dX5_itemEnd_74 : decode cX5_itemEnd 74 = .ok (.iload_n 3, 1) := by decide +kernel
theorem dX5_itemEnd_75 : decode cX5_itemEnd 75 = .ok (.invokevirtual 49, 3) := by decide +kernel
theorem dX5_itemEnd_78 : decode cX5_itemEnd 78 = .ok (.ifCond .eq 8, 3) := by decide +kernel
theorem dX5_itemEnd_81 : decode cX5_itemEnd 81 = .ok (.iload 5, 2) := by decide +kernel
theorem dX5_itemEnd_83 : decode cX5_itemEnd 83 = .ok (.goto 4, 3) := by decide +kernel
theorem dX5_itemEnd_86 : decode cX5_itemEnd 86 = .ok (.iconst (-1), 1) := by decide +kernel
theorem dX5_itemEnd_87 : decode cX5_itemEnd 87 = .ok (.ireturn, 1) := by decide +kernel
set_option maxRecDepth 20000 in
theorem ggX5_numberEnd_X7_at : GoodIn wsX5_numberEnd wsX7_at := goodIn_r _ [5, 6, 7, 14, 15] (by decide +kernel) (by decide +kernel)
set_option maxRecDepth 20000 in
theorem gX5_numberEnd_X7_at_n38 : GoodIn wsX5_numberEnd (wsX7_at) := ggX5_numberEnd_X7_at
set_option maxRecDepth 20000 in
theorem ggX5_numberEnd_X9_within : GoodIn wsX5_numberEnd wsX9_within := goodIn_r _ [10] (by decide +kernel) (by decide +kernel)
set_option maxRecDepth 20000 in
theorem gX5_numberEnd_X9_within_n53 : GoodIn wsX5_numberEnd (wsX9_within) := ggX5_numberEnd_X9_within
theorem dX5_numberEnd_0 : decode cX5_numberEnd 0 = .ok (.iconst 0, 1) := by decide +kernel
theorem dX5_numberEnd_1 : decode cX5_numberEnd 1 = .ok (.istore 5, 2) := by decide +kernel
theorem dX5_numberEnd_3 : decode cX5_numberEnd 3 = .ok (.iload_n 2, 1) := by decide +kernel
theorem dX5_numberEnd_4 : decode cX5_numberEnd 4 = .ok (.istore 6, 2) := by decide +kernel
theorem dX5_numberEnd_6 : decode cX5_numberEnd 6 = .ok (.iload 6, 2) := by decide +kernel
theorem dX5_numberEnd_8 : decode cX5_numberEnd 8 = .ok (.iload_n 2, 1) := by decide +kernel
theorem dX5_numberEnd_9 : decode cX5_numberEnd 9 = .ok (.iconst 3, 1) := by decide +kernel
theorem dX5_numberEnd_10 : decode cX5_numberEnd 10 = .ok (.iadd, 1) := by decide +kernel
theorem dX5_numberEnd_11 : decode cX5_numberEnd 11 = .ok (.if_icmp .ge 42, 3) := by decide +kernel
theorem dX5_numberEnd_14 : decode cX5_numberEnd 14 = .ok (.aload_n 1, 1) := by decide +kernel
theorem dX5_numberEnd_15 : decode cX5_numberEnd 15 = .ok (.iload 6, 2) := by decide +kernel
theorem dX5_numberEnd_17 : decode cX5_numberEnd 17 = .ok (.invokevirtual 38, 3) := by decide +kernel
theorem dX5_numberEnd_20 : decode cX5_numberEnd 20 = .ok (.bipush 48, 2) := by decide +kernel
theorem dX5_numberEnd_22 : decode cX5_numberEnd 22 = .ok (.bipush 57, 2) := by decide +kernel
theorem dX5_numberEnd_24 : decode cX5_numberEnd 24 = .ok (.invokestatic 53, 3) := by decide +kernel
theorem dX5_numberEnd_27 : decode cX5_numberEnd 27 = .ok (.ifCond .eq 26, 3) := by decide +kernel
theorem dX5_numberEnd_30 : decode cX5_numberEnd 30 = .ok (.bipush 10, 2) := by decide +kernel
theorem dX5_numberEnd_32 : decode cX5_numberEnd 32 = .ok (.iload 5, 2) := by decide +kernel
theorem dX5_numberEnd_34 : decode cX5_numberEnd 34 = .ok (.imul, 1) := by decide +kernel
theorem dX5_numberEnd_35 : decode cX5_numberEnd 35 = .ok (.aload_n 1, 1) := by decide +kernel
theorem dX5_numberEnd_36 : decode cX5_numberEnd 36 = .ok (.iload 6, 2) := by decide +kernel
theorem dX5_numberEnd_38 : decode cX5_numberEnd 38 = .ok (.invokevirtual 38, 3) := by decide +kernel
theorem dX5_numberEnd_41 : decode cX5_numberEnd 41 = .ok (.iadd, 1) := by decide +kernel
theorem dX5_numberEnd_42 : decode cX5_numberEnd 42 = .ok (.bipush 48, 2) := by decide +kernel
theorem dX5_numberEnd_44 : decode cX5_numberEnd 44 = .ok (.isub, 1) := by decide +kernel
theorem dX5_numberEnd_45 : decode cX5_numberEnd 45 = .ok (.istore 5, 2) := by decide +kernel
theorem dX5_numberEnd_47 : decode cX5_numberEnd 47 = .ok (.iinc 6 1, 3) := by decide +kernel
theorem dX5_numberEnd_50 : decode cX5_numberEnd 50 = .ok (.goto (-44), 3) := by decide +kernel
theorem dX5_numberEnd_53 : decode cX5_numberEnd 53 = .ok (.iload 6, 2) := by decide +kernel
theorem dX5_numberEnd_55 : decode cX5_numberEnd 55 = .ok (.iload_n 2, 1) := by decide +kernel
theorem dX5_numberEnd_56 : decode cX5_numberEnd 56 = .ok (.if_icmp .eq 29, 3) := by decide +kernel
theorem dX5_numberEnd_59 : decode cX5_numberEnd 59 = .ok (.aload_n 1, 1) := by decide +kernel
theorem dX5_numberEnd_60 : decode cX5_numberEnd 60 = .ok (.iload 6, 2) := by decide +kernel
theorem dX5_numberEnd_62 : decode cX5_numberEnd 62 = .ok (.invokevirtual 38, 3) := by decide +kernel
theorem dX5_numberEnd_65 : decode cX5_numberEnd 65 = .ok (.iload 4, 2) := by decide +kernel
theorem dX5_numberEnd_67 : decode cX5_numberEnd 67 = .ok (.if_icmp .ne 18, 3) := by decide +kernel
theorem dX5_numberEnd_70 : decode cX5_numberEnd 70 = .ok (.iload_n 3, 1) := by decide +kernel
theorem dX5_numberEnd_71 : decode cX5_numberEnd 71 = .ok (.iconst 0, 1) := by decide +kernel
theorem dX5_numberEnd_72 : decode cX5_numberEnd 72 = .ok (.aload_n 0, 1) := by decide +kernel
theorem dX5_numberEnd_73 : decode cX5_numberEnd 73 = .ok (.getfield 22, 3) := by decide +kernel
theorem dX5_numberEnd_76 : decode cX5_numberEnd 76 = .ok (.arraylength, 1) := by decide +kernel
theorem dX5_numberEnd_77 : decode cX5_numberEnd 77 = .ok (.iconst 1, 1) := by decide +kernel
theorem dX5_numberEnd_78 : decode cX5_numberEnd 78 = .ok (.isub, 1) := by decide +kernel
theorem dX5_numberEnd_79 : decode cX5_numberEnd 79 = .ok (.invokestatic 53, 3) := by decide +kernel
theorem dX5_numberEnd_82 : decode cX5_numberEnd 82 = .ok (.ifCond .ne 5, 3) := by decide +kernel
theorem dX5_numberEnd_85 : decode cX5_numberEnd 85 = .ok (.iconst (-1), 1) := by decide +kernel
theorem dX5_numberEnd_86 : decode cX5_numberEnd 86 = .ok (.ireturn, 1) := by decide +kernel
theorem dX5_numberEnd_87 : decode cX5_numberEnd 87 = .ok (.aload_n 0, 1) := by decide +kernel
theorem dX5_numberEnd_88 : decode cX5_numberEnd 88 = .ok (.getfield 22, 3) := by decide +kernel
theorem dX5_numberEnd_91 : decode cX5_numberEnd 91 = .ok (.iload_n 3, 1) := by decide +kernel
theorem dX5_numberEnd_92 : decode cX5_numberEnd 92 = .ok (.iload 5, 2) := by decide +kernel
theorem dX5_numberEnd_94 : decode cX5_numberEnd 94 = .ok (.iastore, 1) := by decide +kernel
theorem dX5_numberEnd_95 : decode cX5_numberEnd 95 = .ok (.iload 6, 2) := by decide +kernel
theorem dX5_numberEnd_97 : decode cX5_numberEnd 97 = .ok (.iconst 1, 1) := by decide +kernel
theorem dX5_numberEnd_98 : decode cX5_numberEnd 98 = .ok (.iadd, 1) := by decide +kernel
theorem dX5_numberEnd_99 : decode cX5_numberEnd 99 = .ok (.ireturn, 1) := by decide +kernel
theorem dX5_numbersOf_0 : decode cX5_numbersOf 0 = .ok (.iload_n 0, 1) := by decide +kernel
theorem dX5_numbersOf_1 : decode cX5_numbersOf 1 = .ok (.tableswitch 115 97 119 #[113, 109, 113, 115, 115, 115, 115, 109, 115, 115, 115, 115, 115, 115, 115, 111, 107, 113, 115, 115, 115, 115, 113], 107) := by decide +kernel
theorem dX5_numbersOf_108 : decode cX5_numbersOf 108 = .ok (.iconst 4, 1) := by decide +kernel
theorem dX5_numbersOf_109 : decode cX5_numbersOf 109 = .ok (.ireturn, 1) := by decide +kernel
theorem dX5_numbersOf_110 : decode cX5_numbersOf 110 = .ok (.iconst 3, 1) := by decide +kernel
theorem dX5_numbersOf_111 : decode cX5_numbersOf 111 = .ok (.ireturn, 1) := by decide +kernel
theorem dX5_numbersOf_112 : decode cX5_numbersOf 112 = .ok (.iconst 2, 1) := by decide +kernel
theorem dX5_numbersOf_113 : decode cX5_numbersOf 113 = .ok (.ireturn, 1) := by decide +kernel
theorem dX5_numbersOf_114 : decode cX5_numbersOf 114 = .ok (.iconst 1, 1) := by decide +kernel
theorem dX5_numbersOf_115 : decode cX5_numbersOf 115 = .ok (.ireturn, 1) := by decide +kernel
theorem dX5_numbersOf_116 : decode cX5_numbersOf 116 = .ok (.iconst 0, 1) := by decide +kernel
theorem dX5_numbersOf_117 : decode cX5_numbersOf 117 = .ok (.ireturn, 1) := by decide +kernel
set_option maxRecDepth 20000 in
theorem ggX5_take_X5_takeStuff : GoodIn wsX5_take wsX5_takeStuff := goodIn_r _ [7, 2, 1, 8, 9, 10, 11, 12, 13, 14, 15, 28, 29, 30, 31, 32, 33, 34, 35, 36, 37, 38, 39, 40, 41, 42, 43, 44, 45, 46, 47] (by decide +kernel) (by decide +kernel)
set_option maxRecDepth 20000 in
theorem gX5_take_X5_takeStuff : GoodIn wsX5_take (wsV RX5 57 RX5 yX5_takeStuff wsX5_takeStuff) := goodIn_app (goodIn_of _ (by decide +kernel)) ggX5_take_X5_takeStuff
set_option maxRecDepth 20000 in
theorem ggX5_take_X5_takeBand : GoodIn wsX5_take wsX5_takeBand := goodIn_r _ [19, 1, 2, 8, 13, 14, 15, 28, 29, 30, 31, 32, 33, 34, 35, 36, 37, 38, 39, 40, 41, 42, 43, 44, 45, 46, 47] (by decide +kernel) (by decide +kernel)
set_option maxRecDepth 20000 in
theorem gX5_take_X5_takeBand : GoodIn wsX5_take (wsV RX5 61 RX5 yX5_takeBand wsX5_takeBand) := goodIn_app (goodIn_of _ (by decide +kernel)) ggX5_take_X5_takeBand
set_option maxRecDepth 20000 in
theorem ggX5_take_X5_takeBlade : GoodIn wsX5_take wsX5_takeBlade := goodIn_r _ [23, 2, 1, 13, 14, 15, 28, 29, 30, 31, 32, 33, 34, 35, 36, 37, 38, 39, 40, 41, 42, 43, 44, 45, 46, 47] (by decide +kernel) (by decide +kernel)
set_option maxRecDepth 20000 in
theorem gX5_take_X5_takeBlade : GoodIn wsX5_take (wsV RX5 64 RX5 yX5_takeBlade wsX5_takeBlade) := goodIn_app (goodIn_of _ (by decide +kernel)) ggX5_take_X5_takeBlade
set_option maxRecDepth 20000 in
theorem ggX5_take_X5_takeHull : GoodIn wsX5_take wsX5_takeHull := goodIn_r _ [27, 2, 1, 13, 14, 15, 28, 29, 30, 31, 32, 33, 34, 35, 36, 37, 38, 39, 40, 41, 42, 43, 44, 45, 46, 47] (by decide +kernel) (by decide +kernel)
set_option maxRecDepth 20000 in
theorem gX5_take_X5_takeHull : GoodIn wsX5_take (wsV RX5 67 RX5 yX5_takeHull wsX5_takeHull) := goodIn_app (goodIn_of _ (by decide +kernel)) ggX5_take_X5_takeHull
set_option maxRecDepth 20000 in
theorem ggX5_take_X9_within : GoodIn wsX5_take wsX9_within := goodIn_r _ [15] (by decide +kernel) (by decide +kernel)
set_option maxRecDepth 20000 in
theorem gX5_take_X9_within_n53 : GoodIn wsX5_take (wsX9_within) := ggX5_take_X9_within
theorem dX5_take_0 : decode cX5_take 0 = .ok (.aload_n 0, 1) := by decide +kernel
theorem dX5_take_1 : decode cX5_take 1 = .ok (.getfield 22, 3) := by decide +kernel
theorem dX5_take_4 : decode cX5_take 4 = .ok (.iconst 0, 1) := by decide +kernel
theorem dX5_take_5 : decode cX5_take 5 = .ok (.iaload, 1) := by decide +kernel
theorem dX5_take_6 : decode cX5_take 6 = .ok (.istore_n 2, 1) := by decide +kernel
theorem dX5_take_7 : decode cX5_take 7 = .ok (.iload_n 1, 1) := by decide +kernel
theorem dX5_take_8 : decode cX5_take 8 = .ok (.tableswitch 192 97 119 #[160, 113, 144, 192, 192, 192, 192, 123, 192, 192, 192, 192, 192, 192, 192, 118, 108, 128, 192, 192, 192, 192, 176], 108) := by decide +kernel
theorem dX5_take_116 : decode cX5_take 116 = .ok (.aload_n 0, 1) := by decide +kernel
theorem dX5_take_117 : decode cX5_take 117 = .ok (.invokevirtual 57, 3) := by decide +kernel
theorem dX5_take_120 : decode cX5_take 120 = .ok (.ireturn, 1) := by decide +kernel
theorem dX5_take_121 : decode cX5_take 121 = .ok (.aload_n 0, 1) := by decide +kernel
theorem dX5_take_122 : decode cX5_take 122 = .ok (.invokevirtual 61, 3) := by decide +kernel
theorem dX5_take_125 : decode cX5_take 125 = .ok (.ireturn, 1) := by decide +kernel
theorem dX5_take_126 : decode cX5_take 126 = .ok (.aload_n 0, 1) := by decide +kernel
theorem dX5_take_127 : decode cX5_take 127 = .ok (.invokevirtual 64, 3) := by decide +kernel
theorem dX5_take_130 : decode cX5_take 130 = .ok (.ireturn, 1) := by decide +kernel
theorem dX5_take_131 : decode cX5_take 131 = .ok (.aload_n 0, 1) := by decide +kernel
theorem dX5_take_132 : decode cX5_take 132 = .ok (.invokevirtual 67, 3) := by decide +kernel
theorem dX5_take_135 : decode cX5_take 135 = .ok (.ireturn, 1) := by decide +kernel
theorem dX5_take_136 : decode cX5_take 136 = .ok (.aload_n 0, 1) := by decide +kernel
theorem dX5_take_137 : decode cX5_take 137 = .ok (.getfield 12, 3) := by decide +kernel
theorem dX5_take_140 : decode cX5_take 140 = .ok (.iload_n 2, 1) := by decide +kernel
theorem dX5_take_141 : decode cX5_take 141 = .ok (.putfield 70, 3) := by decide +kernel
theorem dX5_take_144 : decode cX5_take 144 = .ok (.iload_n 2, 1) := by decide +kernel
theorem dX5_take_145 : decode cX5_take 145 = .ok (.iconst 0, 1) := by decide +kernel
theorem dX5_take_146 : decode cX5_take 146 = .ok (.bipush 20, 2) := by decide +kernel
theorem dX5_take_148 : decode cX5_take 148 = .ok (.invokestatic 53, 3) := by decide +kernel
theorem dX5_take_151 : decode cX5_take 151 = .ok (.ireturn, 1) := by decide +kernel
theorem dX5_take_152 : decode cX5_take 152 = .ok (.aload_n 0, 1) := by decide +kernel
theorem dX5_take_153 : decode cX5_take 153 = .ok (.getfield 12, 3) := by decide +kernel
theorem dX5_take_156 : decode cX5_take 156 = .ok (.iload_n 2, 1) := by decide +kernel
theorem dX5_take_157 : decode cX5_take 157 = .ok (.putfield 73, 3) := by decide +kernel
theorem dX5_take_160 : decode cX5_take 160 = .ok (.iload_n 2, 1) := by decide +kernel
theorem dX5_take_161 : decode cX5_take 161 = .ok (.iconst 0, 1) := by decide +kernel
theorem dX5_take_162 : decode cX5_take 162 = .ok (.bipush 30, 2) := by decide +kernel
theorem dX5_take_164 : decode cX5_take 164 = .ok (.invokestatic 53, 3) := by decide +kernel
theorem dX5_take_167 : decode cX5_take 167 = .ok (.ireturn, 1) := by decide +kernel
theorem dX5_take_168 : decode cX5_take 168 = .ok (.aload_n 0, 1) := by decide +kernel
theorem dX5_take_169 : decode cX5_take 169 = .ok (.getfield 12, 3) := by decide +kernel
theorem dX5_take_172 : decode cX5_take 172 = .ok (.iload_n 2, 1) := by decide +kernel
theorem dX5_take_173 : decode cX5_take 173 = .ok (.putfield 76, 3) := by decide +kernel
theorem dX5_take_176 : decode cX5_take 176 = .ok (.iload_n 2, 1) := by decide +kernel
theorem dX5_take_177 : decode cX5_take 177 = .ok (.iconst 0, 1) := by decide +kernel
theorem dX5_take_178 : decode cX5_take 178 = .ok (.bipush 60, 2) := by decide +kernel
theorem dX5_take_180 : decode cX5_take 180 = .ok (.invokestatic 53, 3) := by decide +kernel
theorem dX5_take_183 : decode cX5_take 183 = .ok (.ireturn, 1) := by decide +kernel
theorem dX5_take_184 : decode cX5_take 184 = .ok (.aload_n 0, 1) := by decide +kernel
theorem dX5_take_185 : decode cX5_take 185 = .ok (.getfield 12, 3) := by decide +kernel
theorem dX5_take_188 : decode cX5_take 188 = .ok (.iload_n 2, 1) := by decide +kernel
theorem dX5_take_189 : decode cX5_take 189 = .ok (.putfield 79, 3) := by decide +kernel
theorem dX5_take_192 : decode cX5_take 192 = .ok (.iload_n 2, 1) := by decide +kernel
theorem dX5_take_193 : decode cX5_take 193 = .ok (.iconst 0, 1) := by decide +kernel
theorem dX5_take_194 : decode cX5_take 194 = .ok (.bipush 9, 2) := by decide +kernel
theorem dX5_take_196 : decode cX5_take 196 = .ok (.invokestatic 53, 3) := by decide +kernel
theorem dX5_take_199 : decode cX5_take 199 = .ok (.ireturn, 1) := by decide +kernel
theorem dX5_take_200 : decode cX5_take 200 = .ok (.iconst 0, 1) := by decide +kernel
theorem dX5_take_201 : decode cX5_take 201 = .ok (.ireturn, 1) := by decide +kernel
set_option maxRecDepth 20000 in
theorem ggX5_takeStuff_X9_within : GoodIn wsX5_takeStuff wsX9_within := goodIn_r _ [10] (by decide +kernel) (by decide +kernel)
set_option maxRecDepth 20000 in
theorem gX5_takeStuff_X9_within_n53 : GoodIn wsX5_takeStuff (wsX9_within) := ggX5_takeStuff_X9_within
theorem dX5_takeStuff_0 : decode cX5_takeStuff 0 = .ok (.iconst 4, 1) := by decide +kernel
theorem dX5_takeStuff_1 : decode cX5_takeStuff 1 = .ok (.aload_n 0, 1) := by decide +kernel
theorem dX5_takeStuff_2 : decode cX5_takeStuff 2 = .ok (.getfield 12, 3) := by decide +kernel
theorem dX5_takeStuff_5 : decode cX5_takeStuff 5 = .ok (.getfield 82, 3) := by decide +kernel
theorem dX5_takeStuff_8 : decode cX5_takeStuff 8 = .ok (.imul, 1) := by decide +kernel
theorem dX5_takeStuff_9 : decode cX5_takeStuff 9 = .ok (.istore_n 1, 1) := by decide +kernel
theorem dX5_takeStuff_10 : decode cX5_takeStuff 10 = .ok (.aload_n 0, 1) := by decide +kernel
theorem dX5_takeStuff_11 : decode cX5_takeStuff 11 = .ok (.getfield 22, 3) := by decide +kernel
theorem dX5_takeStuff_14 : decode cX5_takeStuff 14 = .ok (.iconst 0, 1) := by decide +kernel
theorem dX5_takeStuff_15 : decode cX5_takeStuff 15 = .ok (.iaload, 1) := by decide +kernel
theorem dX5_takeStuff_16 : decode cX5_takeStuff 16 = .ok (.iconst 1, 1) := by decide +kernel
theorem dX5_takeStuff_17 : decode cX5_takeStuff 17 = .ok (.bipush 99, 2) := by decide +kernel
theorem dX5_takeStuff_19 : decode cX5_takeStuff 19 = .ok (.invokestatic 53, 3) := by decide +kernel
theorem dX5_takeStuff_22 : decode cX5_takeStuff 22 = .ok (.ifCond .eq 68, 3) := by decide +kernel
theorem dX5_takeStuff_25 : decode cX5_takeStuff 25 = .ok (.aload_n 0, 1) := by decide +kernel
theorem dX5_takeStuff_26 : decode cX5_takeStuff 26 = .ok (.getfield 22, 3) := by decide +kernel
theorem dX5_takeStuff_29 : decode cX5_takeStuff 29 = .ok (.iconst 1, 1) := by decide +kernel
theorem dX5_takeStuff_30 : decode cX5_takeStuff 30 = .ok (.iaload, 1) := by decide +kernel
theorem dX5_takeStuff_31 : decode cX5_takeStuff 31 = .ok (.iconst 0, 1) := by decide +kernel
theorem dX5_takeStuff_32 : decode cX5_takeStuff 32 = .ok (.bipush 90, 2) := by decide +kernel
theorem dX5_takeStuff_34 : decode cX5_takeStuff 34 = .ok (.invokestatic 53, 3) := by decide +kernel
theorem dX5_takeStuff_37 : decode cX5_takeStuff 37 = .ok (.ifCond .eq 53, 3) := by decide +kernel
theorem dX5_takeStuff_40 : decode cX5_takeStuff 40 = .ok (.aload_n 0, 1) := by decide +kernel
theorem dX5_takeStuff_41 : decode cX5_takeStuff 41 = .ok (.getfield 22, 3) := by decide +kernel
theorem dX5_takeStuff_44 : decode cX5_takeStuff 44 = .ok (.iconst 2, 1) := by decide +kernel
theorem dX5_takeStuff_45 : decode cX5_takeStuff 45 = .ok (.iaload, 1) := by decide +kernel
theorem dX5_takeStuff_46 : decode cX5_takeStuff 46 = .ok (.iconst 1, 1) := by decide +kernel
theorem dX5_takeStuff_47 : decode cX5_takeStuff 47 = .ok (.bipush 40, 2) := by decide +kernel
theorem dX5_takeStuff_49 : decode cX5_takeStuff 49 = .ok (.invokestatic 53, 3) := by decide +kernel
theorem dX5_takeStuff_52 : decode cX5_takeStuff 52 = .ok (.ifCond .eq 38, 3) := by decide +kernel
theorem dX5_takeStuff_55 : decode cX5_takeStuff 55 = .ok (.aload_n 0, 1) := by decide +kernel
theorem dX5_takeStuff_56 : decode cX5_takeStuff 56 = .ok (.getfield 22, 3) := by decide +kernel
theorem dX5_takeStuff_59 : decode cX5_takeStuff 59 = .ok (.iconst 3, 1) := by decide +kernel
theorem dX5_takeStuff_60 : decode cX5_takeStuff 60 = .ok (.iaload, 1) := by decide +kernel
theorem dX5_takeStuff_61 : decode cX5_takeStuff 61 = .ok (.aload_n 0, 1) := by decide +kernel
theorem dX5_takeStuff_62 : decode cX5_takeStuff 62 = .ok (.getfield 22, 3) := by decide +kernel
theorem dX5_takeStuff_65 : decode cX5_takeStuff 65 = .ok (.iconst 2, 1) := by decide +kernel
theorem dX5_takeStuff_66 : decode cX5_takeStuff 66 = .ok (.iaload, 1) := by decide +kernel
theorem dX5_takeStuff_67 : decode cX5_takeStuff 67 = .ok (.bipush 99, 2) := by decide +kernel
theorem dX5_takeStuff_69 : decode cX5_takeStuff 69 = .ok (.invokestatic 53, 3) := by decide +kernel
theorem dX5_takeStuff_72 : decode cX5_takeStuff 72 = .ok (.ifCond .eq 18, 3) := by decide +kernel
theorem dX5_takeStuff_75 : decode cX5_takeStuff 75 = .ok (.iload_n 1, 1) := by decide +kernel
theorem dX5_takeStuff_76 : decode cX5_takeStuff 76 = .ok (.iconst 0, 1) := by decide +kernel
theorem dX5_takeStuff_77 : decode cX5_takeStuff 77 = .ok (.aload_n 0, 1) := by decide +kernel
theorem dX5_takeStuff_78 : decode cX5_takeStuff 78 = .ok (.getfield 18, 3) := by decide +kernel
theorem dX5_takeStuff_81 : decode cX5_takeStuff 81 = .ok (.arraylength, 1) := by decide +kernel
theorem dX5_takeStuff_82 : decode cX5_takeStuff 82 = .ok (.iconst 4, 1) := by decide +kernel
theorem dX5_takeStuff_83 : decode cX5_takeStuff 83 = .ok (.isub, 1) := by decide +kernel
theorem dX5_takeStuff_84 : decode cX5_takeStuff 84 = .ok (.invokestatic 53, 3) := by decide +kernel
theorem dX5_takeStuff_87 : decode cX5_takeStuff 87 = .ok (.ifCond .ne 5, 3) := by decide +kernel
theorem dX5_takeStuff_90 : decode cX5_takeStuff 90 = .ok (.iconst 0, 1) := by decide +kernel
theorem dX5_takeStuff_91 : decode cX5_takeStuff 91 = .ok (.ireturn, 1) := by decide +kernel
theorem dX5_takeStuff_92 : decode cX5_takeStuff 92 = .ok (.aload_n 0, 1) := by decide +kernel
theorem dX5_takeStuff_93 : decode cX5_takeStuff 93 = .ok (.getfield 22, 3) := by decide +kernel
theorem dX5_takeStuff_96 : decode cX5_takeStuff 96 = .ok (.iconst 0, 1) := by decide +kernel
theorem dX5_takeStuff_97 : decode cX5_takeStuff 97 = .ok (.aload_n 0, 1) := by decide +kernel
theorem dX5_takeStuff_98 : decode cX5_takeStuff 98 = .ok (.getfield 18, 3) := by decide +kernel
theorem dX5_takeStuff_101 : decode cX5_takeStuff 101 = .ok (.iload_n 1, 1) := by decide +kernel
theorem dX5_takeStuff_102 : decode cX5_takeStuff 102 = .ok (.iconst 4, 1) := by decide +kernel
theorem dX5_takeStuff_103 : decode cX5_takeStuff 103 = .ok (.invokestatic 85, 3) := by decide +kernel
theorem dX5_takeStuff_106 : decode cX5_takeStuff 106 = .ok (.aload_n 0, 1) := by decide +kernel
theorem dX5_takeStuff_107 : decode cX5_takeStuff 107 = .ok (.getfield 12, 3) := by decide +kernel
theorem dX5_takeStuff_110 : decode cX5_takeStuff 110 = .ok (.dup, 1) := by decide +kernel
theorem dX5_takeStuff_111 : decode cX5_takeStuff 111 = .ok (.getfield 82, 3) := by decide +kernel
theorem dX5_takeStuff_114 : decode cX5_takeStuff 114 = .ok (.iconst 1, 1) := by decide +kernel
theorem dX5_takeStuff_115 : decode cX5_takeStuff 115 = .ok (.iadd, 1) := by decide +kernel
theorem dX5_takeStuff_116 : decode cX5_takeStuff 116 = .ok (.putfield 82, 3) := by decide +kernel
theorem dX5_takeStuff_119 : decode cX5_takeStuff 119 = .ok (.iconst 1, 1) := by decide +kernel
theorem dX5_takeStuff_120 : decode cX5_takeStuff 120 = .ok (.ireturn, 1) := by decide +kernel
set_option maxRecDepth 20000 in
theorem ggX5_takeBand_X9_within : GoodIn wsX5_takeBand wsX9_within := goodIn_r _ [6] (by decide +kernel) (by decide +kernel)
set_option maxRecDepth 20000 in
theorem gX5_takeBand_X9_within_n53 : GoodIn wsX5_takeBand (wsX9_within) := ggX5_takeBand_X9_within
theorem dX5_takeBand_0 : decode cX5_takeBand 0 = .ok (.iconst 4, 1) := by decide +kernel
theorem dX5_takeBand_1 : decode cX5_takeBand 1 = .ok (.aload_n 0, 1) := by decide +kernel
theorem dX5_takeBand_2 : decode cX5_takeBand 2 = .ok (.getfield 22, 3) := by decide +kernel
theorem dX5_takeBand_5 : decode cX5_takeBand 5 = .ok (.iconst 0, 1) := by decide +kernel
theorem dX5_takeBand_6 : decode cX5_takeBand 6 = .ok (.iaload, 1) := by decide +kernel
theorem dX5_takeBand_7 : decode cX5_takeBand 7 = .ok (.imul, 1) := by decide +kernel
theorem dX5_takeBand_8 : decode cX5_takeBand 8 = .ok (.istore_n 1, 1) := by decide +kernel
theorem dX5_takeBand_9 : decode cX5_takeBand 9 = .ok (.aload_n 0, 1) := by decide +kernel
theorem dX5_takeBand_10 : decode cX5_takeBand 10 = .ok (.getfield 22, 3) := by decide +kernel
theorem dX5_takeBand_13 : decode cX5_takeBand 13 = .ok (.iconst 0, 1) := by decide +kernel
theorem dX5_takeBand_14 : decode cX5_takeBand 14 = .ok (.iaload, 1) := by decide +kernel
theorem dX5_takeBand_15 : decode cX5_takeBand 15 = .ok (.iconst 0, 1) := by decide +kernel
theorem dX5_takeBand_16 : decode cX5_takeBand 16 = .ok (.aload_n 0, 1) := by decide +kernel
theorem dX5_takeBand_17 : decode cX5_takeBand 17 = .ok (.getfield 12, 3) := by decide +kernel
theorem dX5_takeBand_20 : decode cX5_takeBand 20 = .ok (.getfield 82, 3) := by decide +kernel
theorem dX5_takeBand_23 : decode cX5_takeBand 23 = .ok (.iconst 1, 1) := by decide +kernel
theorem dX5_takeBand_24 : decode cX5_takeBand 24 = .ok (.isub, 1) := by decide +kernel
theorem dX5_takeBand_25 : decode cX5_takeBand 25 = .ok (.invokestatic 53, 3) := by decide +kernel
theorem dX5_takeBand_28 : decode cX5_takeBand 28 = .ok (.ifCond .eq 48, 3) := by decide +kernel
theorem dX5_takeBand_31 : decode cX5_takeBand 31 = .ok (.aload_n 0, 1) := by decide +kernel
theorem dX5_takeBand_32 : decode cX5_takeBand 32 = .ok (.getfield 22, 3) := by decide +kernel
theorem dX5_takeBand_35 : decode cX5_takeBand 35 = .ok (.iconst 1, 1) := by decide +kernel
theorem dX5_takeBand_36 : decode cX5_takeBand 36 = .ok (.iaload, 1) := by decide +kernel
theorem dX5_takeBand_37 : decode cX5_takeBand 37 = .ok (.iconst 1, 1) := by decide +kernel
theorem dX5_takeBand_38 : decode cX5_takeBand 38 = .ok (.bipush 8, 2) := by decide +kernel
theorem dX5_takeBand_40 : decode cX5_takeBand 40 = .ok (.invokestatic 53, 3) := by decide +kernel
theorem dX5_takeBand_43 : decode cX5_takeBand 43 = .ok (.ifCond .eq 33, 3) := by decide +kernel
theorem dX5_takeBand_46 : decode cX5_takeBand 46 = .ok (.aload_n 0, 1) := by decide +kernel
theorem dX5_takeBand_47 : decode cX5_takeBand 47 = .ok (.getfield 22, 3) := by decide +kernel
theorem dX5_takeBand_50 : decode cX5_takeBand 50 = .ok (.iconst 2, 1) := by decide +kernel
theorem dX5_takeBand_51 : decode cX5_takeBand 51 = .ok (.iaload, 1) := by decide +kernel
theorem dX5_takeBand_52 : decode cX5_takeBand 52 = .ok (.iconst 1, 1) := by decide +kernel
theorem dX5_takeBand_53 : decode cX5_takeBand 53 = .ok (.bipush 40, 2) := by decide +kernel
theorem dX5_takeBand_55 : decode cX5_takeBand 55 = .ok (.invokestatic 53, 3) := by decide +kernel
theorem dX5_takeBand_58 : decode cX5_takeBand 58 = .ok (.ifCond .eq 18, 3) := by decide +kernel
theorem dX5_takeBand_61 : decode cX5_takeBand 61 = .ok (.iload_n 1, 1) := by decide +kernel
theorem dX5_takeBand_62 : decode cX5_takeBand 62 = .ok (.iconst 0, 1) := by decide +kernel
theorem dX5_takeBand_63 : decode cX5_takeBand 63 = .ok (.aload_n 0, 1) := by decide +kernel
theorem dX5_takeBand_64 : decode cX5_takeBand 64 = .ok (.getfield 18, 3) := by decide +kernel
theorem dX5_takeBand_67 : decode cX5_takeBand 67 = .ok (.arraylength, 1) := by decide +kernel
theorem dX5_takeBand_68 : decode cX5_takeBand 68 = .ok (.iconst 4, 1) := by decide +kernel
theorem dX5_takeBand_69 : decode cX5_takeBand 69 = .ok (.isub, 1) := by decide +kernel
theorem dX5_takeBand_70 : decode cX5_takeBand 70 = .ok (.invokestatic 53, 3) := by decide +kernel
theorem dX5_takeBand_73 : decode cX5_takeBand 73 = .ok (.ifCond .ne 5, 3) := by decide +kernel
theorem dX5_takeBand_76 : decode cX5_takeBand 76 = .ok (.iconst 0, 1) := by decide +kernel
theorem dX5_takeBand_77 : decode cX5_takeBand 77 = .ok (.ireturn, 1) := by decide +kernel
theorem dX5_takeBand_78 : decode cX5_takeBand 78 = .ok (.aload_n 0, 1) := by decide +kernel
theorem dX5_takeBand_79 : decode cX5_takeBand 79 = .ok (.getfield 12, 3) := by decide +kernel
theorem dX5_takeBand_82 : decode cX5_takeBand 82 = .ok (.aload_n 0, 1) := by decide +kernel
theorem dX5_takeBand_83 : decode cX5_takeBand 83 = .ok (.getfield 18, 3) := by decide +kernel
theorem dX5_takeBand_86 : decode cX5_takeBand 86 = .ok (.iload_n 1, 1) := by decide +kernel
theorem dX5_takeBand_87 : decode cX5_takeBand 87 = .ok (.iaload, 1) := by decide +kernel
theorem dX5_takeBand_88 : decode cX5_takeBand 88 = .ok (.putfield 91, 3) := by decide +kernel
theorem dX5_takeBand_91 : decode cX5_takeBand 91 = .ok (.aload_n 0, 1) := by decide +kernel
theorem dX5_takeBand_92 : decode cX5_takeBand 92 = .ok (.getfield 12, 3) := by decide +kernel
theorem dX5_takeBand_95 : decode cX5_takeBand 95 = .ok (.aload_n 0, 1) := by decide +kernel
theorem dX5_takeBand_96 : decode cX5_takeBand 96 = .ok (.getfield 18, 3) := by decide +kernel
theorem dX5_takeBand_99 : decode cX5_takeBand 99 = .ok (.iload_n 1, 1) := by decide +kernel
theorem dX5_takeBand_100 : decode cX5_takeBand 100 = .ok (.iconst 1, 1) := by decide +kernel
theorem dX5_takeBand_101 : decode cX5_takeBand 101 = .ok (.iadd, 1) := by decide +kernel
theorem dX5_takeBand_102 : decode cX5_takeBand 102 = .ok (.iaload, 1) := by decide +kernel
theorem dX5_takeBand_103 : decode cX5_takeBand 103 = .ok (.putfield 94, 3) := by decide +kernel
theorem dX5_takeBand_106 : decode cX5_takeBand 106 = .ok (.aload_n 0, 1) := by decide +kernel
theorem dX5_takeBand_107 : decode cX5_takeBand 107 = .ok (.getfield 12, 3) := by decide +kernel
theorem dX5_takeBand_110 : decode cX5_takeBand 110 = .ok (.aload_n 0, 1) := by decide +kernel
theorem dX5_takeBand_111 : decode cX5_takeBand 111 = .ok (.getfield 18, 3) := by decide +kernel
theorem dX5_takeBand_114 : decode cX5_takeBand 114 = .ok (.iload_n 1, 1) := by decide +kernel
theorem dX5_takeBand_115 : decode cX5_takeBand 115 = .ok (.iconst 2, 1) := by decide +kernel
theorem dX5_takeBand_116 : decode cX5_takeBand 116 = .ok (.iadd, 1) := by decide +kernel
theorem dX5_takeBand_117 : decode cX5_takeBand 117 = .ok (.iaload, 1) := by decide +kernel
theorem dX5_takeBand_118 : decode cX5_takeBand 118 = .ok (.putfield 97, 3) := by decide +kernel
theorem dX5_takeBand_121 : decode cX5_takeBand 121 = .ok (.aload_n 0, 1) := by decide +kernel
theorem dX5_takeBand_122 : decode cX5_takeBand 122 = .ok (.getfield 12, 3) := by decide +kernel
theorem dX5_takeBand_125 : decode cX5_takeBand 125 = .ok (.aload_n 0, 1) := by decide +kernel
theorem dX5_takeBand_126 : decode cX5_takeBand 126 = .ok (.getfield 18, 3) := by decide +kernel
theorem dX5_takeBand_129 : decode cX5_takeBand 129 = .ok (.iload_n 1, 1) := by decide +kernel
theorem dX5_takeBand_130 : decode cX5_takeBand 130 = .ok (.iconst 3, 1) := by decide +kernel
theorem dX5_takeBand_131 : decode cX5_takeBand 131 = .ok (.iadd, 1) := by decide +kernel
theorem dX5_takeBand_132 : decode cX5_takeBand 132 = .ok (.iaload, 1) := by decide +kernel
theorem dX5_takeBand_133 : decode cX5_takeBand 133 = .ok (.putfield 100, 3) := by decide +kernel
theorem dX5_takeBand_136 : decode cX5_takeBand 136 = .ok (.aload_n 0, 1) := by decide +kernel
theorem dX5_takeBand_137 : decode cX5_takeBand 137 = .ok (.getfield 12, 3) := by decide +kernel
theorem dX5_takeBand_140 : decode cX5_takeBand 140 = .ok (.aload_n 0, 1) := by decide +kernel
theorem dX5_takeBand_141 : decode cX5_takeBand 141 = .ok (.getfield 22, 3) := by decide +kernel
theorem dX5_takeBand_144 : decode cX5_takeBand 144 = .ok (.iconst 1, 1) := by decide +kernel
theorem dX5_takeBand_145 : decode cX5_takeBand 145 = .ok (.iaload, 1) := by decide +kernel
theorem dX5_takeBand_146 : decode cX5_takeBand 146 = .ok (.putfield 103, 3) := by decide +kernel
theorem dX5_takeBand_149 : decode cX5_takeBand 149 = .ok (.aload_n 0, 1) := by decide +kernel
theorem dX5_takeBand_150 : decode cX5_takeBand 150 = .ok (.getfield 12, 3) := by decide +kernel
theorem dX5_takeBand_153 : decode cX5_takeBand 153 = .ok (.aload_n 0, 1) := by decide +kernel
theorem dX5_takeBand_154 : decode cX5_takeBand 154 = .ok (.getfield 22, 3) := by decide +kernel
theorem dX5_takeBand_157 : decode cX5_takeBand 157 = .ok (.iconst 2, 1) := by decide +kernel
theorem dX5_takeBand_158 : decode cX5_takeBand 158 = .ok (.iaload, 1) := by decide +kernel
theorem dX5_takeBand_159 : decode cX5_takeBand 159 = .ok (.putfield 106, 3) := by decide +kernel
theorem dX5_takeBand_162 : decode cX5_takeBand 162 = .ok (.aload_n 0, 1) := by decide +kernel
theorem dX5_takeBand_163 : decode cX5_takeBand 163 = .ok (.getfield 12, 3) := by decide +kernel
theorem dX5_takeBand_166 : decode cX5_takeBand 166 = .ok (.iconst 1, 1) := by decide +kernel
theorem dX5_takeBand_167 : decode cX5_takeBand 167 = .ok (.putfield 107, 3) := by decide +kernel
theorem dX5_takeBand_170 : decode cX5_takeBand 170 = .ok (.iconst 1, 1) := by decide +kernel
theorem dX5_takeBand_171 : decode cX5_takeBand 171 = .ok (.ireturn, 1) := by decide +kernel
set_option maxRecDepth 20000 in
theorem ggX5_takeBlade_X9_within : GoodIn wsX5_takeBlade wsX9_within := goodIn_r _ [5] (by decide +kernel) (by decide +kernel)
set_option maxRecDepth 20000 in
theorem gX5_takeBlade_X9_within_n53 : GoodIn wsX5_takeBlade (wsX9_within) := ggX5_takeBlade_X9_within
theorem dX5_takeBlade_0 : decode cX5_takeBlade 0 = .ok (.aload_n 0, 1) := by decide +kernel
theorem dX5_takeBlade_1 : decode cX5_takeBlade 1 = .ok (.getfield 12, 3) := by decide +kernel
theorem dX5_takeBlade_4 : decode cX5_takeBlade 4 = .ok (.aload_n 0, 1) := by decide +kernel
theorem dX5_takeBlade_5 : decode cX5_takeBlade 5 = .ok (.getfield 22, 3) := by decide +kernel
theorem dX5_takeBlade_8 : decode cX5_takeBlade 8 = .ok (.iconst 0, 1) := by decide +kernel
theorem dX5_takeBlade_9 : decode cX5_takeBlade 9 = .ok (.iaload, 1) := by decide +kernel
theorem dX5_takeBlade_10 : decode cX5_takeBlade 10 = .ok (.putfield 111, 3) := by decide +kernel
theorem dX5_takeBlade_13 : decode cX5_takeBlade 13 = .ok (.aload_n 0, 1) := by decide +kernel
theorem dX5_takeBlade_14 : decode cX5_takeBlade 14 = .ok (.getfield 12, 3) := by decide +kernel
theorem dX5_takeBlade_17 : decode cX5_takeBlade 17 = .ok (.aload_n 0, 1) := by decide +kernel
theorem dX5_takeBlade_18 : decode cX5_takeBlade 18 = .ok (.getfield 22, 3) := by decide +kernel
theorem dX5_takeBlade_21 : decode cX5_takeBlade 21 = .ok (.iconst 1, 1) := by decide +kernel
theorem dX5_takeBlade_22 : decode cX5_takeBlade 22 = .ok (.iaload, 1) := by decide +kernel
theorem dX5_takeBlade_23 : decode cX5_takeBlade 23 = .ok (.putfield 114, 3) := by decide +kernel
theorem dX5_takeBlade_26 : decode cX5_takeBlade 26 = .ok (.aload_n 0, 1) := by decide +kernel
theorem dX5_takeBlade_27 : decode cX5_takeBlade 27 = .ok (.getfield 12, 3) := by decide +kernel
theorem dX5_takeBlade_30 : decode cX5_takeBlade 30 = .ok (.getfield 111, 3) := by decide +kernel
theorem dX5_takeBlade_33 : decode cX5_takeBlade 33 = .ok (.iconst 1, 1) := by decide +kernel
theorem dX5_takeBlade_34 : decode cX5_takeBlade 34 = .ok (.bipush 9, 2) := by decide +kernel
theorem dX5_takeBlade_36 : decode cX5_takeBlade 36 = .ok (.invokestatic 53, 3) := by decide +kernel
theorem dX5_takeBlade_39 : decode cX5_takeBlade 39 = .ok (.ifCond .eq 23, 3) := by decide +kernel
theorem dX5_takeBlade_42 : decode cX5_takeBlade 42 = .ok (.aload_n 0, 1) := by decide +kernel
theorem dX5_takeBlade_43 : decode cX5_takeBlade 43 = .ok (.getfield 12, 3) := by decide +kernel
theorem dX5_takeBlade_46 : decode cX5_takeBlade 46 = .ok (.getfield 114, 3) := by decide +kernel
theorem dX5_takeBlade_49 : decode cX5_takeBlade 49 = .ok (.iconst 1, 1) := by decide +kernel
theorem dX5_takeBlade_50 : decode cX5_takeBlade 50 = .ok (.bipush 20, 2) := by decide +kernel
theorem dX5_takeBlade_52 : decode cX5_takeBlade 52 = .ok (.invokestatic 53, 3) := by decide +kernel
theorem dX5_takeBlade_55 : decode cX5_takeBlade 55 = .ok (.ifCond .eq 7, 3) := by decide +kernel
theorem dX5_takeBlade_58 : decode cX5_takeBlade 58 = .ok (.iconst 1, 1) := by decide +kernel
theorem dX5_takeBlade_59 : decode cX5_takeBlade 59 = .ok (.goto 4, 3) := by decide +kernel
theorem dX5_takeBlade_62 : decode cX5_takeBlade 62 = .ok (.iconst 0, 1) := by decide +kernel
theorem dX5_takeBlade_63 : decode cX5_takeBlade 63 = .ok (.ireturn, 1) := by decide +kernel
set_option maxRecDepth 20000 in
theorem ggX5_takeHull_X9_within : GoodIn wsX5_takeHull wsX9_within := goodIn_r _ [5] (by decide +kernel) (by decide +kernel)
set_option maxRecDepth 20000 in
theorem gX5_takeHull_X9_within_n53 : GoodIn wsX5_takeHull (wsX9_within) := ggX5_takeHull_X9_within
theorem dX5_takeHull_0 : decode cX5_takeHull 0 = .ok (.aload_n 0, 1) := by decide +kernel
theorem dX5_takeHull_1 : decode cX5_takeHull 1 = .ok (.getfield 12, 3) := by decide +kernel
theorem dX5_takeHull_4 : decode cX5_takeHull 4 = .ok (.aload_n 0, 1) := by decide +kernel
theorem dX5_takeHull_5 : decode cX5_takeHull 5 = .ok (.getfield 22, 3) := by decide +kernel
theorem dX5_takeHull_8 : decode cX5_takeHull 8 = .ok (.iconst 0, 1) := by decide +kernel
theorem dX5_takeHull_9 : decode cX5_takeHull 9 = .ok (.iaload, 1) := by decide +kernel
theorem dX5_takeHull_10 : decode cX5_takeHull 10 = .ok (.putfield 117, 3) := by decide +kernel
theorem dX5_takeHull_13 : decode cX5_takeHull 13 = .ok (.aload_n 0, 1) := by decide +kernel
theorem dX5_takeHull_14 : decode cX5_takeHull 14 = .ok (.getfield 12, 3) := by decide +kernel
theorem dX5_takeHull_17 : decode cX5_takeHull 17 = .ok (.aload_n 0, 1) := by decide +kernel
theorem dX5_takeHull_18 : decode cX5_takeHull 18 = .ok (.getfield 22, 3) := by decide +kernel
theorem dX5_takeHull_21 : decode cX5_takeHull 21 = .ok (.iconst 1, 1) := by decide +kernel
theorem dX5_takeHull_22 : decode cX5_takeHull 22 = .ok (.iaload, 1) := by decide +kernel
theorem dX5_takeHull_23 : decode cX5_takeHull 23 = .ok (.putfield 120, 3) := by decide +kernel
theorem dX5_takeHull_26 : decode cX5_takeHull 26 = .ok (.aload_n 0, 1) := by decide +kernel
theorem dX5_takeHull_27 : decode cX5_takeHull 27 = .ok (.getfield 12, 3) := by decide +kernel
theorem dX5_takeHull_30 : decode cX5_takeHull 30 = .ok (.aload_n 0, 1) := by decide +kernel
theorem dX5_takeHull_31 : decode cX5_takeHull 31 = .ok (.getfield 22, 3) := by decide +kernel
theorem dX5_takeHull_34 : decode cX5_takeHull 34 = .ok (.iconst 2, 1) := by decide +kernel
theorem dX5_takeHull_35 : decode cX5_takeHull 35 = .ok (.iaload, 1) := by decide +kernel
theorem dX5_takeHull_36 : decode cX5_takeHull 36 = .ok (.putfield 123, 3) := by decide +kernel
theorem dX5_takeHull_39 : decode cX5_takeHull 39 = .ok (.aload_n 0, 1) := by decide +kernel
theorem dX5_takeHull_40 : decode cX5_takeHull 40 = .ok (.getfield 12, 3) := by decide +kernel
theorem dX5_takeHull_43 : decode cX5_takeHull 43 = .ok (.getfield 117, 3) := by decide +kernel
theorem dX5_takeHull_46 : decode cX5_takeHull 46 = .ok (.iconst 1, 1) := by decide +kernel
theorem dX5_takeHull_47 : decode cX5_takeHull 47 = .ok (.bipush 99, 2) := by decide +kernel
theorem dX5_takeHull_49 : decode cX5_takeHull 49 = .ok (.invokestatic 53, 3) := by decide +kernel
theorem dX5_takeHull_52 : decode cX5_takeHull 52 = .ok (.ifCond .eq 39, 3) := by decide +kernel
theorem dX5_takeHull_55 : decode cX5_takeHull 55 = .ok (.aload_n 0, 1) := by decide +kernel
theorem dX5_takeHull_56 : decode cX5_takeHull 56 = .ok (.getfield 12, 3) := by decide +kernel
theorem dX5_takeHull_59 : decode cX5_takeHull 59 = .ok (.getfield 120, 3) := by decide +kernel
theorem dX5_takeHull_62 : decode cX5_takeHull 62 = .ok (.iconst 1, 1) := by decide +kernel
theorem dX5_takeHull_63 : decode cX5_takeHull 63 = .ok (.bipush 99, 2) := by decide +kernel
theorem dX5_takeHull_65 : decode cX5_takeHull 65 = .ok (.invokestatic 53, 3) := by decide +kernel
theorem dX5_takeHull_68 : decode cX5_takeHull 68 = .ok (.ifCond .eq 23, 3) := by decide +kernel
theorem dX5_takeHull_71 : decode cX5_takeHull 71 = .ok (.aload_n 0, 1) := by decide +kernel
theorem dX5_takeHull_72 : decode cX5_takeHull 72 = .ok (.getfield 12, 3) := by decide +kernel
theorem dX5_takeHull_75 : decode cX5_takeHull 75 = .ok (.getfield 123, 3) := by decide +kernel
theorem dX5_takeHull_78 : decode cX5_takeHull 78 = .ok (.iconst 0, 1) := by decide +kernel
theorem dX5_takeHull_79 : decode cX5_takeHull 79 = .ok (.bipush 20, 2) := by decide +kernel
theorem dX5_takeHull_81 : decode cX5_takeHull 81 = .ok (.invokestatic 53, 3) := by decide +kernel
theorem dX5_takeHull_84 : decode cX5_takeHull 84 = .ok (.ifCond .eq 7, 3) := by decide +kernel
theorem dX5_takeHull_87 : decode cX5_takeHull 87 = .ok (.iconst 1, 1) := by decide +kernel
theorem dX5_takeHull_88 : decode cX5_takeHull 88 = .ok (.goto 4, 3) := by decide +kernel
theorem dX5_takeHull_91 : decode cX5_takeHull 91 = .ok (.iconst 0, 1) := by decide +kernel
theorem dX5_takeHull_92 : decode cX5_takeHull 92 = .ok (.ireturn, 1) := by decide +kernel
theorem dX6_init_0 : decode cX6_init 0 = .ok (.aload_n 0, 1) := by decide +kernel
theorem dX6_init_1 : decode cX6_init 1 = .ok (.invokespecial 1, 3) := by decide +kernel
theorem dX6_init_4 : decode cX6_init 4 = .ok (.return_, 1) := by decide +kernel
theorem dX6_clear_0 : decode cX6_clear 0 = .ok (.aload_n 0, 1) := by decide +kernel
theorem dX6_clear_1 : decode cX6_clear 1 = .ok (.iconst 0, 1) := by decide +kernel
theorem dX6_clear_2 : decode cX6_clear 2 = .ok (.putfield 7, 3) := by decide +kernel
theorem dX6_clear_5 : decode cX6_clear 5 = .ok (.aload_n 0, 1) := by decide +kernel
theorem dX6_clear_6 : decode cX6_clear 6 = .ok (.iconst 0, 1) := by decide +kernel
theorem dX6_clear_7 : decode cX6_clear 7 = .ok (.putfield 13, 3) := by decide +kernel
theorem dX6_clear_10 : decode cX6_clear 10 = .ok (.aload_n 0, 1) := by decide +kernel
theorem dX6_clear_11 : decode cX6_clear 11 = .ok (.bipush 20, 2) := by decide +kernel
theorem dX6_clear_13 : decode cX6_clear 13 = .ok (.putfield 17, 3) := by decide +kernel
theorem dX6_clear_16 : decode cX6_clear 16 = .ok (.aload_n 0, 1) := by decide +kernel
theorem dX6_clear_17 : decode cX6_clear 17 = .ok (.bipush 30, 2) := by decide +kernel
theorem dX6_clear_19 : decode cX6_clear 19 = .ok (.putfield 20, 3) := by decide +kernel
theorem dX6_clear_22 : decode cX6_clear 22 = .ok (.aload_n 0, 1) := by decide +kernel
theorem dX6_clear_23 : decode cX6_clear 23 = .ok (.iconst 5, 1) := by decide +kernel
theorem dX6_clear_24 : decode cX6_clear 24 = .ok (.putfield 23, 3) := by decide +kernel
theorem dX6_clear_27 : decode cX6_clear 27 = .ok (.aload_n 0, 1) := by decide +kernel
theorem dX6_clear_28 : decode cX6_clear 28 = .ok (.bipush 9, 2) := by decide +kernel
theorem dX6_clear_30 : decode cX6_clear 30 = .ok (.putfield 26, 3) := by decide +kernel
theorem dX6_clear_33 : decode cX6_clear 33 = .ok (.aload_n 0, 1) := by decide +kernel
theorem dX6_clear_34 : decode cX6_clear 34 = .ok (.iconst 2, 1) := by decide +kernel
theorem dX6_clear_35 : decode cX6_clear 35 = .ok (.putfield 29, 3) := by decide +kernel
theorem dX6_clear_38 : decode cX6_clear 38 = .ok (.aload_n 0, 1) := by decide +kernel
theorem dX6_clear_39 : decode cX6_clear 39 = .ok (.bipush 10, 2) := by decide +kernel
theorem dX6_clear_41 : decode cX6_clear 41 = .ok (.putfield 32, 3) := by decide +kernel
theorem dX6_clear_44 : decode cX6_clear 44 = .ok (.aload_n 0, 1) := by decide +kernel
theorem dX6_clear_45 : decode cX6_clear 45 = .ok (.iconst 4, 1) := by decide +kernel
theorem dX6_clear_46 : decode cX6_clear 46 = .ok (.putfield 35, 3) := by decide +kernel
theorem dX6_clear_49 : decode cX6_clear 49 = .ok (.aload_n 0, 1) := by decide +kernel
theorem dX6_clear_50 : decode cX6_clear 50 = .ok (.bipush 10, 2) := by decide +kernel
theorem dX6_clear_52 : decode cX6_clear 52 = .ok (.putfield 38, 3) := by decide +kernel
theorem dX6_clear_55 : decode cX6_clear 55 = .ok (.aload_n 0, 1) := by decide +kernel
theorem dX6_clear_56 : decode cX6_clear 56 = .ok (.bipush 20, 2) := by decide +kernel
theorem dX6_clear_58 : decode cX6_clear 58 = .ok (.putfield 41, 3) := by decide +kernel
theorem dX6_clear_61 : decode cX6_clear 61 = .ok (.aload_n 0, 1) := by decide +kernel
theorem dX6_clear_62 : decode cX6_clear 62 = .ok (.bipush 10, 2) := by decide +kernel
theorem dX6_clear_64 : decode cX6_clear 64 = .ok (.putfield 44, 3) := by decide +kernel
theorem dX6_clear_67 : decode cX6_clear 67 = .ok (.aload_n 0, 1) := by decide +kernel
theorem dX6_clear_68 : decode cX6_clear 68 = .ok (.iconst 0, 1) := by decide +kernel
theorem dX6_clear_69 : decode cX6_clear 69 = .ok (.putfield 47, 3) := by decide +kernel
theorem dX6_clear_72 : decode cX6_clear 72 = .ok (.aload_n 0, 1) := by decide +kernel
theorem dX6_clear_73 : decode cX6_clear 73 = .ok (.iconst 0, 1) := by decide +kernel
theorem dX6_clear_74 : decode cX6_clear 74 = .ok (.putfield 50, 3) := by decide +kernel
theorem dX6_clear_77 : decode cX6_clear 77 = .ok (.aload_n 0, 1) := by decide +kernel
theorem dX6_clear_78 : decode cX6_clear 78 = .ok (.iconst 0, 1) := by decide +kernel
theorem dX6_clear_79 : decode cX6_clear 79 = .ok (.putfield 53, 3) := by decide +kernel
theorem dX6_clear_82 : decode cX6_clear 82 = .ok (.aload_n 0, 1) := by decide +kernel
theorem dX6_clear_83 : decode cX6_clear 83 = .ok (.iconst 0, 1) := by decide +kernel
theorem dX6_clear_84 : decode cX6_clear 84 = .ok (.putfield 56, 3) := by decide +kernel
theorem dX6_clear_87 : decode cX6_clear 87 = .ok (.aload_n 0, 1) := by decide +kernel
theorem dX6_clear_88 : decode cX6_clear 88 = .ok (.iconst 0, 1) := by decide +kernel
theorem dX6_clear_89 : decode cX6_clear 89 = .ok (.putfield 59, 3) := by decide +kernel
theorem dX6_clear_92 : decode cX6_clear 92 = .ok (.return_, 1) := by decide +kernel
set_option maxRecDepth 20000 in
theorem ggX6_layFirst_X6_clear : GoodIn wsX6_layFirst wsX6_clear := goodIn_r _ [7, 1, 2, 8, 9, 10, 11, 12, 13, 14, 15, 16, 17, 18, 19, 20, 21, 22, 23, 24, 25, 26, 27, 28, 29, 30, 31, 32, 33, 34, 35, 36, 37, 38, 39] (by decide +kernel) (by decide +kernel)
set_option maxRecDepth 20000 in
theorem gX6_layFirst_X6_clear : GoodIn wsX6_layFirst (wsV RX6 62 RX6 yX6_clear wsX6_clear) := goodIn_app (goodIn_of _ (by decide +kernel)) ggX6_layFirst_X6_clear
theorem dX6_layFirst_0 : decode cX6_layFirst 0 = .ok (.aload_n 0, 1) := by decide +kernel
theorem dX6_layFirst_1 : decode cX6_layFirst 1 = .ok (.invokevirtual 62, 3) := by decide +kernel
theorem dX6_layFirst_4 : decode cX6_layFirst 4 = .ok (.aload_n 0, 1) := by decide +kernel
theorem dX6_layFirst_5 : decode cX6_layFirst 5 = .ok (.iconst 1, 1) := by decide +kernel
theorem dX6_layFirst_6 : decode cX6_layFirst 6 = .ok (.putfield 7, 3) := by decide +kernel
theorem dX6_layFirst_9 : decode cX6_layFirst 9 = .ok (.aload_n 0, 1) := by decide +kernel
theorem dX6_layFirst_10 : decode cX6_layFirst 10 = .ok (.iconst 1, 1) := by decide +kernel
theorem dX6_layFirst_11 : decode cX6_layFirst 11 = .ok (.putfield 13, 3) := by decide +kernel
theorem dX6_layFirst_14 : decode cX6_layFirst 14 = .ok (.return_, 1) := by decide +kernel
theorem dX6_copy_0 : decode cX6_copy 0 = .ok (.aload_n 0, 1) := by decide +kernel
theorem dX6_copy_1 : decode cX6_copy 1 = .ok (.aload_n 1, 1) := by decide +kernel
theorem dX6_copy_2 : decode cX6_copy 2 = .ok (.getfield 7, 3) := by decide +kernel
theorem dX6_copy_5 : decode cX6_copy 5 = .ok (.putfield 7, 3) := by decide +kernel
theorem dX6_copy_8 : decode cX6_copy 8 = .ok (.aload_n 0, 1) := by decide +kernel
theorem dX6_copy_9 : decode cX6_copy 9 = .ok (.aload_n 1, 1) := by decide +kernel
theorem dX6_copy_10 : decode cX6_copy 10 = .ok (.getfield 13, 3) := by decide +kernel
theorem dX6_copy_13 : decode cX6_copy 13 = .ok (.putfield 13, 3) := by decide +kernel
theorem dX6_copy_16 : decode cX6_copy 16 = .ok (.aload_n 0, 1) := by decide +kernel
theorem dX6_copy_17 : decode cX6_copy 17 = .ok (.aload_n 1, 1) := by decide +kernel
theorem dX6_copy_18 : decode cX6_copy 18 = .ok (.getfield 17, 3) := by decide +kernel
theorem dX6_copy_21 : decode cX6_copy 21 = .ok (.putfield 17, 3) := by decide +kernel
theorem dX6_copy_24 : decode cX6_copy 24 = .ok (.aload_n 0, 1) := by decide +kernel
theorem dX6_copy_25 : decode cX6_copy 25 = .ok (.aload_n 1, 1) := by decide +kernel
theorem dX6_copy_26 : decode cX6_copy 26 = .ok (.getfield 20, 3) := by decide +kernel
theorem dX6_copy_29 : decode cX6_copy 29 = .ok (.putfield 20, 3) := by decide +kernel
theorem dX6_copy_32 : decode cX6_copy 32 = .ok (.aload_n 0, 1) := by decide +kernel
theorem dX6_copy_33 : decode cX6_copy 33 = .ok (.aload_n 1, 1) := by decide +kernel
theorem dX6_copy_34 : decode cX6_copy 34 = .ok (.getfield 23, 3) := by decide +kernel
theorem dX6_copy_37 : decode cX6_copy 37 = .ok (.putfield 23, 3) := by decide +kernel
theorem dX6_copy_40 : decode cX6_copy 40 = .ok (.aload_n 0, 1) := by decide +kernel
theorem dX6_copy_41 : decode cX6_copy 41 = .ok (.aload_n 1, 1) := by decide +kernel
theorem dX6_copy_42 : decode cX6_copy 42 = .ok (.getfield 26, 3) := by decide +kernel
theorem dX6_copy_45 : decode cX6_copy 45 = .ok (.putfield 26, 3) := by decide +kernel
theorem dX6_copy_48 : decode cX6_copy 48 = .ok (.aload_n 0, 1) := by decide +kernel
theorem dX6_copy_49 : decode cX6_copy 49 = .ok (.aload_n 1, 1) := by decide +kernel
theorem dX6_copy_50 : decode cX6_copy 50 = .ok (.getfield 29, 3) := by decide +kernel
theorem dX6_copy_53 : decode cX6_copy 53 = .ok (.putfield 29, 3) := by decide +kernel
theorem dX6_copy_56 : decode cX6_copy 56 = .ok (.aload_n 0, 1) := by decide +kernel
theorem dX6_copy_57 : decode cX6_copy 57 = .ok (.aload_n 1, 1) := by decide +kernel
theorem dX6_copy_58 : decode cX6_copy 58 = .ok (.getfield 32, 3) := by decide +kernel
theorem dX6_copy_61 : decode cX6_copy 61 = .ok (.putfield 32, 3) := by decide +kernel
theorem dX6_copy_64 : decode cX6_copy 64 = .ok (.aload_n 0, 1) := by decide +kernel
theorem dX6_copy_65 : decode cX6_copy 65 = .ok (.aload_n 1, 1) := by decide +kernel
theorem dX6_copy_66 : decode cX6_copy 66 = .ok (.getfield 35, 3) := by decide +kernel
theorem dX6_copy_69 : decode cX6_copy 69 = .ok (.putfield 35, 3) := by decide +kernel
theorem dX6_copy_72 : decode cX6_copy 72 = .ok (.aload_n 0, 1) := by decide +kernel
theorem dX6_copy_73 : decode cX6_copy 73 = .ok (.aload_n 1, 1) := by decide +kernel
theorem dX6_copy_74 : decode cX6_copy 74 = .ok (.getfield 38, 3) := by decide +kernel
theorem dX6_copy_77 : decode cX6_copy 77 = .ok (.putfield 38, 3) := by decide +kernel
theorem dX6_copy_80 : decode cX6_copy 80 = .ok (.aload_n 0, 1) := by decide +kernel
theorem dX6_copy_81 : decode cX6_copy 81 = .ok (.aload_n 1, 1) := by decide +kernel
theorem dX6_copy_82 : decode cX6_copy 82 = .ok (.getfield 41, 3) := by decide +kernel
theorem dX6_copy_85 : decode cX6_copy 85 = .ok (.putfield 41, 3) := by decide +kernel
theorem dX6_copy_88 : decode cX6_copy 88 = .ok (.aload_n 0, 1) := by decide +kernel
theorem dX6_copy_89 : decode cX6_copy 89 = .ok (.aload_n 1, 1) := by decide +kernel
theorem dX6_copy_90 : decode cX6_copy 90 = .ok (.getfield 44, 3) := by decide +kernel
theorem dX6_copy_93 : decode cX6_copy 93 = .ok (.putfield 44, 3) := by decide +kernel
theorem dX6_copy_96 : decode cX6_copy 96 = .ok (.aload_n 0, 1) := by decide +kernel
theorem dX6_copy_97 : decode cX6_copy 97 = .ok (.aload_n 1, 1) := by decide +kernel
theorem dX6_copy_98 : decode cX6_copy 98 = .ok (.getfield 47, 3) := by decide +kernel
theorem dX6_copy_101 : decode cX6_copy 101 = .ok (.putfield 47, 3) := by decide +kernel
theorem dX6_copy_104 : decode cX6_copy 104 = .ok (.aload_n 0, 1) := by decide +kernel
theorem dX6_copy_105 : decode cX6_copy 105 = .ok (.aload_n 1, 1) := by decide +kernel
theorem dX6_copy_106 : decode cX6_copy 106 = .ok (.getfield 50, 3) := by decide +kernel
theorem dX6_copy_109 : decode cX6_copy 109 = .ok (.putfield 50, 3) := by decide +kernel
theorem dX6_copy_112 : decode cX6_copy 112 = .ok (.aload_n 0, 1) := by decide +kernel
theorem dX6_copy_113 : decode cX6_copy 113 = .ok (.aload_n 1, 1) := by decide +kernel
theorem dX6_copy_114 : decode cX6_copy 114 = .ok (.getfield 53, 3) := by decide +kernel
theorem dX6_copy_117 : decode cX6_copy 117 = .ok (.putfield 53, 3) := by decide +kernel
theorem dX6_copy_120 : decode cX6_copy 120 = .ok (.aload_n 0, 1) := by decide +kernel
theorem dX6_copy_121 : decode cX6_copy 121 = .ok (.aload_n 1, 1) := by decide +kernel
theorem dX6_copy_122 : decode cX6_copy 122 = .ok (.getfield 56, 3) := by decide +kernel
theorem dX6_copy_125 : decode cX6_copy 125 = .ok (.putfield 56, 3) := by decide +kernel
theorem dX6_copy_128 : decode cX6_copy 128 = .ok (.aload_n 0, 1) := by decide +kernel
theorem dX6_copy_129 : decode cX6_copy 129 = .ok (.aload_n 1, 1) := by decide +kernel
theorem dX6_copy_130 : decode cX6_copy 130 = .ok (.getfield 59, 3) := by decide +kernel
theorem dX6_copy_133 : decode cX6_copy 133 = .ok (.putfield 59, 3) := by decide +kernel
theorem dX6_copy_136 : decode cX6_copy 136 = .ok (.return_, 1) := by decide +kernel
theorem dX7_init_0 : decode cX7_init 0 = .ok (.aload_n 0, 1) := by decide +kernel
theorem dX7_init_1 : decode cX7_init 1 = .ok (.invokespecial 3, 3) := by decide +kernel
theorem dX7_init_4 : decode cX7_init 4 = .ok (.aload_n 0, 1) := by decide +kernel
theorem dX7_init_5 : decode cX7_init 5 = .ok (.sipush 300, 3) := by decide +kernel
theorem dX7_init_8 : decode cX7_init 8 = .ok (.newarray .byte, 2) := by decide +kernel
theorem dX7_init_10 : decode cX7_init 10 = .ok (.putfield 9, 3) := by decide +kernel
theorem dX7_init_13 : decode cX7_init 13 = .ok (.return_, 1) := by decide +kernel
theorem dX7_append_0 : decode cX7_append 0 = .ok (.iload_n 1, 1) := by decide +kernel
theorem dX7_append_1 : decode cX7_append 1 = .ok (.aload_n 0, 1) := by decide +kernel
theorem dX7_append_2 : decode cX7_append 2 = .ok (.getfield 9, 3) := by decide +kernel
theorem dX7_append_5 : decode cX7_append 5 = .ok (.arraylength, 1) := by decide +kernel
theorem dX7_append_6 : decode cX7_append 6 = .ok (.aload_n 0, 1) := by decide +kernel
theorem dX7_append_7 : decode cX7_append 7 = .ok (.getfield 15, 3) := by decide +kernel
theorem dX7_append_10 : decode cX7_append 10 = .ok (.isub, 1) := by decide +kernel
theorem dX7_append_11 : decode cX7_append 11 = .ok (.if_icmp .le 5, 3) := by decide +kernel
theorem dX7_append_14 : decode cX7_append 14 = .ok (.iconst 0, 1) := by decide +kernel
theorem dX7_append_15 : decode cX7_append 15 = .ok (.ireturn, 1) := by decide +kernel
theorem dX7_append_16 : decode cX7_append 16 = .ok (.iconst 0, 1) := by decide +kernel
theorem dX7_append_17 : decode cX7_append 17 = .ok (.istore 4, 2) := by decide +kernel
theorem dX7_append_19 : decode cX7_append 19 = .ok (.iload 4, 2) := by decide +kernel
theorem dX7_append_21 : decode cX7_append 21 = .ok (.iload_n 1, 1) := by decide +kernel
theorem dX7_append_22 : decode cX7_append 22 = .ok (.if_icmp .ge 60, 3) := by decide +kernel
theorem dX7_append_25 : decode cX7_append 25 = .ok (.aload_n 0, 1) := by decide +kernel
theorem dX7_append_26 : decode cX7_append 26 = .ok (.getfield 15, 3) := by decide +kernel
theorem dX7_append_29 : decode cX7_append 29 = .ok (.ifCond .lt 53, 3) := by decide +kernel
theorem dX7_append_32 : decode cX7_append 32 = .ok (.aload_n 0, 1) := by decide +kernel
theorem dX7_append_33 : decode cX7_append 33 = .ok (.getfield 15, 3) := by decide +kernel
theorem dX7_append_36 : decode cX7_append 36 = .ok (.aload_n 0, 1) := by decide +kernel
theorem dX7_append_37 : decode cX7_append 37 = .ok (.getfield 9, 3) := by decide +kernel
theorem dX7_append_40 : decode cX7_append 40 = .ok (.arraylength, 1) := by decide +kernel
theorem dX7_append_41 : decode cX7_append 41 = .ok (.if_icmp .ge 41, 3) := by decide +kernel
theorem dX7_append_44 : decode cX7_append 44 = .ok (.aload_n 0, 1) := by decide +kernel
theorem dX7_append_45 : decode cX7_append 45 = .ok (.getfield 9, 3) := by decide +kernel
theorem dX7_append_48 : decode cX7_append 48 = .ok (.aload_n 0, 1) := by decide +kernel
theorem dX7_append_49 : decode cX7_append 49 = .ok (.getfield 15, 3) := by decide +kernel
theorem dX7_append_52 : decode cX7_append 52 = .ok (.lload_n 2, 1) := by decide +kernel
theorem dX7_append_53 : decode cX7_append 53 = .ok (.bipush 8, 2) := by decide +kernel
theorem dX7_append_55 : decode cX7_append 55 = .ok (.iload_n 1, 1) := by decide +kernel
theorem dX7_append_56 : decode cX7_append 56 = .ok (.iconst 1, 1) := by decide +kernel
theorem dX7_append_57 : decode cX7_append 57 = .ok (.isub, 1) := by decide +kernel
theorem dX7_append_58 : decode cX7_append 58 = .ok (.iload 4, 2) := by decide +kernel
theorem dX7_append_60 : decode cX7_append 60 = .ok (.isub, 1) := by decide +kernel
theorem dX7_append_61 : decode cX7_append 61 = .ok (.imul, 1) := by decide +kernel
theorem dX7_append_62 : decode cX7_append 62 = .ok (.lshr, 1) := by decide +kernel
theorem dX7_append_63 : decode cX7_append 63 = .ok (.l2i, 1) := by decide +kernel
theorem dX7_append_64 : decode cX7_append 64 = .ok (.i2b, 1) := by decide +kernel
theorem dX7_append_65 : decode cX7_append 65 = .ok (.bastore, 1) := by decide +kernel
theorem dX7_append_66 : decode cX7_append 66 = .ok (.aload_n 0, 1) := by decide +kernel
theorem dX7_append_67 : decode cX7_append 67 = .ok (.dup, 1) := by decide +kernel
theorem dX7_append_68 : decode cX7_append 68 = .ok (.getfield 15, 3) := by decide +kernel
theorem dX7_append_71 : decode cX7_append 71 = .ok (.iconst 1, 1) := by decide +kernel
theorem dX7_append_72 : decode cX7_append 72 = .ok (.iadd, 1) := by decide +kernel
theorem dX7_append_73 : decode cX7_append 73 = .ok (.putfield 15, 3) := by decide +kernel
theorem dX7_append_76 : decode cX7_append 76 = .ok (.iinc 4 1, 3) := by decide +kernel
theorem dX7_append_79 : decode cX7_append 79 = .ok (.goto (-60), 3) := by decide +kernel
theorem dX7_append_82 : decode cX7_append 82 = .ok (.iconst 1, 1) := by decide +kernel
theorem dX7_append_83 : decode cX7_append 83 = .ok (.ireturn, 1) := by decide +kernel
theorem dX7_at_0 : decode cX7_at 0 = .ok (.iload_n 1, 1) := by decide +kernel
theorem dX7_at_1 : decode cX7_at 1 = .ok (.ifCond .lt 33, 3) := by decide +kernel
theorem dX7_at_4 : decode cX7_at 4 = .ok (.iload_n 1, 1) := by decide +kernel
theorem dX7_at_5 : decode cX7_at 5 = .ok (.aload_n 0, 1) := by decide +kernel
theorem dX7_at_6 : decode cX7_at 6 = .ok (.getfield 15, 3) := by decide +kernel
theorem dX7_at_9 : decode cX7_at 9 = .ok (.if_icmp .ge 25, 3) := by decide +kernel
theorem dX7_at_12 : decode cX7_at 12 = .ok (.iload_n 1, 1) := by decide +kernel
theorem dX7_at_13 : decode cX7_at 13 = .ok (.aload_n 0, 1) := by decide +kernel
theorem dX7_at_14 : decode cX7_at 14 = .ok (.getfield 9, 3) := by decide +kernel
theorem dX7_at_17 : decode cX7_at 17 = .ok (.arraylength, 1) := by decide +kernel
theorem dX7_at_18 : decode cX7_at 18 = .ok (.if_icmp .ge 16, 3) := by decide +kernel
theorem dX7_at_21 : decode cX7_at 21 = .ok (.aload_n 0, 1) := by decide +kernel
theorem dX7_at_22 : decode cX7_at 22 = .ok (.getfield 9, 3) := by decide +kernel
theorem dX7_at_25 : decode cX7_at 25 = .ok (.iload_n 1, 1) := by decide +kernel
theorem dX7_at_26 : decode cX7_at 26 = .ok (.baload, 1) := by decide +kernel
theorem dX7_at_27 : decode cX7_at 27 = .ok (.sipush 255, 3) := by decide +kernel
theorem dX7_at_30 : decode cX7_at 30 = .ok (.iand, 1) := by decide +kernel
theorem dX7_at_31 : decode cX7_at 31 = .ok (.goto 4, 3) := by decide +kernel
theorem dX7_at_34 : decode cX7_at 34 = .ok (.iconst (-1), 1) := by decide +kernel
theorem dX7_at_35 : decode cX7_at 35 = .ok (.ireturn, 1) := by decide +kernel
set_option maxRecDepth 20000 in
theorem ggX8_init_X4_init : GoodIn wsX8_init wsX4_init := goodIn_r _ [15, 16, 2, 3] (by decide +kernel) (by decide +kernel)
set_option maxRecDepth 20000 in
theorem gX8_init_X4_init_n11 : GoodIn wsX8_init (wsX4_init) := ggX8_init_X4_init
set_option maxRecDepth 20000 in
theorem ggX8_init_X0_init : GoodIn wsX8_init wsX0_init := goodIn_r _ [18, 19, 2, 3] (by decide +kernel) (by decide +kernel)
set_option maxRecDepth 20000 in
theorem gX8_init_X0_init_n20 : GoodIn wsX8_init (wsX0_init) := ggX8_init_X0_init
theorem dX8_init_0 : decode cX8_init 0 = .ok (.aload_n 0, 1) := by decide +kernel
theorem dX8_init_1 : decode cX8_init 1 = .ok (.invokespecial 3, 3) := by decide +kernel
theorem dX8_init_4 : decode cX8_init 4 = .ok (.aload_n 0, 1) := by decide +kernel
theorem dX8_init_5 : decode cX8_init 5 = .ok (.new 9, 3) := by decide +kernel
theorem dX8_init_8 : decode cX8_init 8 = .ok (.dup, 1) := by decide +kernel
theorem dX8_init_9 : decode cX8_init 9 = .ok (.invokespecial 11, 3) := by decide +kernel
theorem dX8_init_12 : decode cX8_init 12 = .ok (.putfield 12, 3) := by decide +kernel
theorem dX8_init_15 : decode cX8_init 15 = .ok (.aload_n 0, 1) := by decide +kernel
theorem dX8_init_16 : decode cX8_init 16 = .ok (.new 18, 3) := by decide +kernel
theorem dX8_init_19 : decode cX8_init 19 = .ok (.dup, 1) := by decide +kernel
theorem dX8_init_20 : decode cX8_init 20 = .ok (.invokespecial 20, 3) := by decide +kernel
theorem dX8_init_23 : decode cX8_init 23 = .ok (.putfield 21, 3) := by decide +kernel
theorem dX8_init_26 : decode cX8_init 26 = .ok (.aload_n 0, 1) := by decide +kernel
theorem dX8_init_27 : decode cX8_init 27 = .ok (.sipush 601, 3) := by decide +kernel
theorem dX8_init_30 : decode cX8_init 30 = .ok (.newarray .int, 2) := by decide +kernel
theorem dX8_init_32 : decode cX8_init 32 = .ok (.putfield 25, 3) := by decide +kernel
theorem dX8_init_35 : decode cX8_init 35 = .ok (.return_, 1) := by decide +kernel
set_option maxRecDepth 20000 in
theorem ggX8_make_X0_fit : GoodIn wsX8_make wsX0_fit := goodIn_r _ [9, 10, 11, 12, 13, 14, 15, 16, 17, 18, 19, 86, 87, 88, 89, 90, 91, 92, 93, 94, 95, 96, 97, 98, 99, 100, 101, 102, 103, 104, 105, 106, 107, 108, 109] (by decide +kernel) (by decide +kernel)
set_option maxRecDepth 20000 in
theorem gX8_make_X0_fit_n29 : GoodIn wsX8_make (wsX0_fit) := ggX8_make_X0_fit
set_option maxRecDepth 20000 in
theorem ggX8_make_X4_rest : GoodIn wsX8_make wsX4_rest := goodIn_r _ [23, 24, 25, 26, 27, 28, 29, 30, 79, 80, 81, 82, 83, 84, 85] (by decide +kernel) (by decide +kernel)
set_option maxRecDepth 20000 in
theorem gX8_make_X4_rest_n33 : GoodIn wsX8_make (wsX4_rest) := ggX8_make_X4_rest
set_option maxRecDepth 20000 in
theorem ggX8_make_X4_isOver : GoodIn wsX8_make wsX4_isOver := goodIn_r _ [33, 24, 25, 79, 80, 81, 82, 83, 84, 85] (by decide +kernel) (by decide +kernel)
set_option maxRecDepth 20000 in
theorem gX8_make_X4_isOver_n54 : GoodIn wsX8_make (wsX4_isOver) := ggX8_make_X4_isOver
set_option maxRecDepth 20000 in
theorem ggX8_make_X4_drift : GoodIn wsX8_make wsX4_drift := goodIn_r _ [36, 26, 25, 27, 28, 37, 38, 29, 39, 18, 40, 79, 80, 81, 82, 83, 84, 85, 86, 87, 88, 89, 90, 91, 92, 93, 94, 95, 96, 97, 98, 99, 100, 101, 102] (by decide +kernel) (by decide +kernel)
set_option maxRecDepth 20000 in
theorem gX8_make_X4_drift_n62 : GoodIn wsX8_make (wsX4_drift) := ggX8_make_X4_drift
set_option maxRecDepth 20000 in
theorem ggX8_make_X4_step : GoodIn wsX8_make wsX4_step := goodIn_r _ [43, 24, 44, 45, 46, 47, 25, 48, 49, 50, 30, 51, 7, 52, 53, 14, 15, 54, 55, 56, 57, 11, 10, 12, 13, 17, 18, 19, 58, 59, 60, 21, 61, 62, 63, 29, 64, 39, 40, 65, 34, 35, 36, 26, 27, 28, 37, 38, 79, 80, 81, 82, 83, 84, 85, 103, 104, 105, 106, 107, 108, 109, 86, 87, 88, 89, 90, 91, 92, 93, 94, 95, 96, 97, 98, 99, 100, 101, 102] (by decide +kernel) (by decide +kernel)
set_option maxRecDepth 20000 in
theorem gX8_make_X4_step_n66 : GoodIn wsX8_make (wsX4_step) := ggX8_make_X4_step
set_option maxRecDepth 20000 in
theorem ggX8_make_X8_note : GoodIn wsX8_make wsX8_note := goodIn_r _ [70, 3, 4, 2, 71, 49, 46, 50, 72, 5, 73, 74, 75, 76, 77, 78, 79, 80, 81, 82, 83, 84, 85] (by decide +kernel) (by decide +kernel)
set_option maxRecDepth 20000 in
theorem gX8_make_X8_note : GoodIn wsX8_make (wsV RX8 70 RX8 yX8_note wsX8_note) := goodIn_app (goodIn_of _ (by decide +kernel)) ggX8_make_X8_note
theorem dX8_make_0 : decode cX8_make 0 = .ok (.aload_n 0, 1) := by decide +kernel
theorem dX8_make_1 : decode cX8_make 1 = .ok (.getfield 21, 3) := by decide +kernel
theorem dX8_make_4 : decode cX8_make 4 = .ok (.aload_n 1, 1) := by decide +kernel
theorem dX8_make_5 : decode cX8_make 5 = .ok (.invokevirtual 29, 3) := by decide +kernel
theorem dX8_make_8 : decode cX8_make 8 = .ok (.aload_n 0, 1) := by decide +kernel
theorem dX8_make_9 : decode cX8_make 9 = .ok (.getfield 12, 3) := by decide +kernel
theorem dX8_make_12 : decode cX8_make 12 = .ok (.invokevirtual 33, 3) := by decide +kernel
theorem dX8_make_15 : decode cX8_make 15 = .ok (.aload_n 0, 1) := by decide +kernel
theorem dX8_make_16 : decode cX8_make 16 = .ok (.getfield 12, 3) := by decide +kernel
theorem dX8_make_19 : decode cX8_make 19 = .ok (.bipush 100, 2) := by decide +kernel
theorem dX8_make_21 : decode cX8_make 21 = .ok (.iload_n 2, 1) := by decide +kernel
theorem dX8_make_22 : decode cX8_make 22 = .ok (.imul, 1) := by decide +kernel
theorem dX8_make_23 : decode cX8_make 23 = .ok (.putfield 36, 3) := by decide +kernel
theorem dX8_make_26 : decode cX8_make 26 = .ok (.aload_n 0, 1) := by decide +kernel
theorem dX8_make_27 : decode cX8_make 27 = .ok (.iconst 0, 1) := by decide +kernel
theorem dX8_make_28 : decode cX8_make 28 = .ok (.putfield 40, 3) := by decide +kernel
theorem dX8_make_31 : decode cX8_make 31 = .ok (.aload_n 0, 1) := by decide +kernel
theorem dX8_make_32 : decode cX8_make 32 = .ok (.iconst 0, 1) := by decide +kernel
theorem dX8_make_33 : decode cX8_make 33 = .ok (.putfield 43, 3) := by decide +kernel
theorem dX8_make_36 : decode cX8_make 36 = .ok (.aload_n 0, 1) := by decide +kernel
theorem dX8_make_37 : decode cX8_make 37 = .ok (.iload_n 2, 1) := by decide +kernel
theorem dX8_make_38 : decode cX8_make 38 = .ok (.ifCond .ne 7, 3) := by decide +kernel
theorem dX8_make_41 : decode cX8_make 41 = .ok (.iconst 0, 1) := by decide +kernel
theorem dX8_make_42 : decode cX8_make 42 = .ok (.goto 5, 3) := by decide +kernel
theorem dX8_make_45 : decode cX8_make 45 = .ok (.bipush (-4), 2) := by decide +kernel
theorem dX8_make_47 : decode cX8_make 47 = .ok (.putfield 46, 3) := by decide +kernel
theorem dX8_make_50 : decode cX8_make 50 = .ok (.iload_n 3, 1) := by decide +kernel
theorem dX8_make_51 : decode cX8_make 51 = .ok (.ifCond .lt 10, 3) := by decide +kernel
theorem dX8_make_54 : decode cX8_make 54 = .ok (.aload_n 1, 1) := by decide +kernel
theorem dX8_make_55 : decode cX8_make 55 = .ok (.getfield 49, 3) := by decide +kernel
theorem dX8_make_58 : decode cX8_make 58 = .ok (.ifCond .ne 7, 3) := by decide +kernel
theorem dX8_make_61 : decode cX8_make 61 = .ok (.iconst 1, 1) := by decide +kernel
theorem dX8_make_62 : decode cX8_make 62 = .ok (.goto 4, 3) := by decide +kernel
theorem dX8_make_65 : decode cX8_make 65 = .ok (.iconst 0, 1) := by decide +kernel
theorem dX8_make_66 : decode cX8_make 66 = .ok (.istore 6, 2) := by decide +kernel
theorem dX8_make_68 : decode cX8_make 68 = .ok (.iconst 1, 1) := by decide +kernel
theorem dX8_make_69 : decode cX8_make 69 = .ok (.istore 7, 2) := by decide +kernel
theorem dX8_make_71 : decode cX8_make 71 = .ok (.iload 7, 2) := by decide +kernel
theorem dX8_make_73 : decode cX8_make 73 = .ok (.iload 4, 2) := by decide +kernel
theorem dX8_make_75 : decode cX8_make 75 = .ok (.if_icmp .gt 90, 3) := by decide +kernel
theorem dX8_make_78 : decode cX8_make 78 = .ok (.aload_n 0, 1) := by decide +kernel
theorem dX8_make_79 : decode cX8_make 79 = .ok (.getfield 12, 3) := by decide +kernel
theorem dX8_make_82 : decode cX8_make 82 = .ok (.invokevirtual 54, 3) := by decide +kernel
theorem dX8_make_85 : decode cX8_make 85 = .ok (.ifCond .ne 80, 3) := by decide +kernel
theorem dX8_make_88 : decode cX8_make 88 = .ok (.iload 6, 2) := by decide +kernel
theorem dX8_make_90 : decode cX8_make 90 = .ok (.ifCond .eq 25, 3) := by decide +kernel
theorem dX8_make_93 : decode cX8_make 93 = .ok (.aload_n 0, 1) := by decide +kernel
theorem dX8_make_94 : decode cX8_make 94 = .ok (.getfield 12, 3) := by decide +kernel
theorem dX8_make_97 : decode cX8_make 97 = .ok (.getfield 58, 3) := by decide +kernel
theorem dX8_make_100 : decode cX8_make 100 = .ok (.ifCond .eq 15, 3) := by decide +kernel
theorem dX8_make_103 : decode cX8_make 103 = .ok (.aload_n 0, 1) := by decide +kernel
theorem dX8_make_104 : decode cX8_make 104 = .ok (.getfield 12, 3) := by decide +kernel
theorem dX8_make_107 : decode cX8_make 107 = .ok (.aload_n 1, 1) := by decide +kernel
theorem dX8_make_108 : decode cX8_make 108 = .ok (.iconst 0, 1) := by decide +kernel
theorem dX8_make_109 : decode cX8_make 109 = .ok (.invokevirtual 62, 3) := by decide +kernel
theorem dX8_make_112 : decode cX8_make 112 = .ok (.goto 16, 3) := by decide +kernel
theorem dX8_make_115 : decode cX8_make 115 = .ok (.aload_n 0, 1) := by decide +kernel
theorem dX8_make_116 : decode cX8_make 116 = .ok (.getfield 12, 3) := by decide +kernel
theorem dX8_make_119 : decode cX8_make 119 = .ok (.aload_n 1, 1) := by decide +kernel
theorem dX8_make_120 : decode cX8_make 120 = .ok (.aload_n 0, 1) := by decide +kernel
theorem dX8_make_121 : decode cX8_make 121 = .ok (.getfield 21, 3) := by decide +kernel
theorem dX8_make_124 : decode cX8_make 124 = .ok (.iload_n 3, 1) := by decide +kernel
theorem dX8_make_125 : decode cX8_make 125 = .ok (.invokevirtual 66, 3) := by decide +kernel
theorem dX8_make_128 : decode cX8_make 128 = .ok (.aload_n 0, 1) := by decide +kernel
theorem dX8_make_129 : decode cX8_make 129 = .ok (.iload 7, 2) := by decide +kernel
theorem dX8_make_131 : decode cX8_make 131 = .ok (.invokevirtual 70, 3) := by decide +kernel
theorem dX8_make_134 : decode cX8_make 134 = .ok (.iload 5, 2) := by decide +kernel
theorem dX8_make_136 : decode cX8_make 136 = .ok (.ifCond .eq 23, 3) := by decide +kernel
theorem dX8_make_139 : decode cX8_make 139 = .ok (.aload_n 0, 1) := by decide +kernel
theorem dX8_make_140 : decode cX8_make 140 = .ok (.getfield 46, 3) := by decide +kernel
theorem dX8_make_143 : decode cX8_make 143 = .ok (.iload 7, 2) := by decide +kernel
theorem dX8_make_145 : decode cX8_make 145 = .ok (.if_icmp .ne 14, 3) := by decide +kernel
theorem dX8_make_148 : decode cX8_make 148 = .ok (.aload_n 0, 1) := by decide +kernel
theorem dX8_make_149 : decode cX8_make 149 = .ok (.getfield 12, 3) := by decide +kernel
theorem dX8_make_152 : decode cX8_make 152 = .ok (.bipush 100, 2) := by decide +kernel
theorem dX8_make_154 : decode cX8_make 154 = .ok (.iload_n 2, 1) := by decide +kernel
theorem dX8_make_155 : decode cX8_make 155 = .ok (.imul, 1) := by decide +kernel
theorem dX8_make_156 : decode cX8_make 156 = .ok (.putfield 36, 3) := by decide +kernel
theorem dX8_make_159 : decode cX8_make 159 = .ok (.iinc 7 1, 3) := by decide +kernel
theorem dX8_make_162 : decode cX8_make 162 = .ok (.goto (-91), 3) := by decide +kernel
theorem dX8_make_165 : decode cX8_make 165 = .ok (.return_, 1) := by decide +kernel
theorem dX8_note_0 : decode cX8_note 0 = .ok (.aload_n 0, 1) := by decide +kernel
theorem dX8_note_1 : decode cX8_note 1 = .ok (.iload_n 1, 1) := by decide +kernel
theorem dX8_note_2 : decode cX8_note 2 = .ok (.putfield 40, 3) := by decide +kernel
theorem dX8_note_5 : decode cX8_note 5 = .ok (.aload_n 0, 1) := by decide +kernel
theorem dX8_note_6 : decode cX8_note 6 = .ok (.aload_n 0, 1) := by decide +kernel
theorem dX8_note_7 : decode cX8_note 7 = .ok (.getfield 43, 3) := by decide +kernel
theorem dX8_note_10 : decode cX8_note 10 = .ok (.aload_n 0, 1) := by decide +kernel
theorem dX8_note_11 : decode cX8_note 11 = .ok (.getfield 12, 3) := by decide +kernel
theorem dX8_note_14 : decode cX8_note 14 = .ok (.getfield 74, 3) := by decide +kernel
theorem dX8_note_17 : decode cX8_note 17 = .ok (.invokestatic 77, 3) := by decide +kernel
theorem dX8_note_20 : decode cX8_note 20 = .ok (.putfield 43, 3) := by decide +kernel
theorem dX8_note_23 : decode cX8_note 23 = .ok (.iload_n 1, 1) := by decide +kernel
theorem dX8_note_24 : decode cX8_note 24 = .ok (.aload_n 0, 1) := by decide +kernel
theorem dX8_note_25 : decode cX8_note 25 = .ok (.getfield 25, 3) := by decide +kernel
theorem dX8_note_28 : decode cX8_note 28 = .ok (.arraylength, 1) := by decide +kernel
theorem dX8_note_29 : decode cX8_note 29 = .ok (.if_icmp .ge 16, 3) := by decide +kernel
theorem dX8_note_32 : decode cX8_note 32 = .ok (.aload_n 0, 1) := by decide +kernel
theorem dX8_note_33 : decode cX8_note 33 = .ok (.getfield 25, 3) := by decide +kernel
theorem dX8_note_36 : decode cX8_note 36 = .ok (.iload_n 1, 1) := by decide +kernel
theorem dX8_note_37 : decode cX8_note 37 = .ok (.aload_n 0, 1) := by decide +kernel
theorem dX8_note_38 : decode cX8_note 38 = .ok (.getfield 12, 3) := by decide +kernel
theorem dX8_note_41 : decode cX8_note 41 = .ok (.getfield 83, 3) := by decide +kernel
theorem dX8_note_44 : decode cX8_note 44 = .ok (.iastore, 1) := by decide +kernel
theorem dX8_note_45 : decode cX8_note 45 = .ok (.aload_n 0, 1) := by decide +kernel
theorem dX8_note_46 : decode cX8_note 46 = .ok (.getfield 12, 3) := by decide +kernel
theorem dX8_note_49 : decode cX8_note 49 = .ok (.getfield 36, 3) := by decide +kernel
theorem dX8_note_52 : decode cX8_note 52 = .ok (.ifCond .ne 17, 3) := by decide +kernel
theorem dX8_note_55 : decode cX8_note 55 = .ok (.aload_n 0, 1) := by decide +kernel
theorem dX8_note_56 : decode cX8_note 56 = .ok (.getfield 46, 3) := by decide +kernel
theorem dX8_note_59 : decode cX8_note 59 = .ok (.bipush (-4), 2) := by decide +kernel
theorem dX8_note_61 : decode cX8_note 61 = .ok (.if_icmp .ne 8, 3) := by decide +kernel
theorem dX8_note_64 : decode cX8_note 64 = .ok (.aload_n 0, 1) := by decide +kernel
theorem dX8_note_65 : decode cX8_note 65 = .ok (.iload_n 1, 1) := by decide +kernel
theorem dX8_note_66 : decode cX8_note 66 = .ok (.putfield 46, 3) := by decide +kernel
theorem dX8_note_69 : decode cX8_note 69 = .ok (.return_, 1) := by decide +kernel
theorem dX8_firstAt_0 : decode cX8_firstAt 0 = .ok (.iconst 1, 1) := by decide +kernel
theorem dX8_firstAt_1 : decode cX8_firstAt 1 = .ok (.istore_n 2, 1) := by decide +kernel
theorem dX8_firstAt_2 : decode cX8_firstAt 2 = .ok (.iload_n 2, 1) := by decide +kernel
theorem dX8_firstAt_3 : decode cX8_firstAt 3 = .ok (.aload_n 0, 1) := by decide +kernel
theorem dX8_firstAt_4 : decode cX8_firstAt 4 = .ok (.getfield 40, 3) := by decide +kernel
theorem dX8_firstAt_7 : decode cX8_firstAt 7 = .ok (.if_icmp .gt 30, 3) := by decide +kernel
theorem dX8_firstAt_10 : decode cX8_firstAt 10 = .ok (.iload_n 2, 1) := by decide +kernel
theorem dX8_firstAt_11 : decode cX8_firstAt 11 = .ok (.aload_n 0, 1) := by decide +kernel
theorem dX8_firstAt_12 : decode cX8_firstAt 12 = .ok (.getfield 25, 3) := by decide +kernel
theorem dX8_firstAt_15 : decode cX8_firstAt 15 = .ok (.arraylength, 1) := by decide +kernel
theorem dX8_firstAt_16 : decode cX8_firstAt 16 = .ok (.if_icmp .ge 21, 3) := by decide +kernel
theorem dX8_firstAt_19 : decode cX8_firstAt 19 = .ok (.aload_n 0, 1) := by decide +kernel
theorem dX8_firstAt_20 : decode cX8_firstAt 20 = .ok (.getfield 25, 3) := by decide +kernel
theorem dX8_firstAt_23 : decode cX8_firstAt 23 = .ok (.iload_n 2, 1) := by decide +kernel
theorem dX8_firstAt_24 : decode cX8_firstAt 24 = .ok (.iaload, 1) := by decide +kernel
theorem dX8_firstAt_25 : decode cX8_firstAt 25 = .ok (.iload_n 1, 1) := by decide +kernel
theorem dX8_firstAt_26 : decode cX8_firstAt 26 = .ok (.if_icmp .lt 5, 3) := by decide +kernel
theorem dX8_firstAt_29 : decode cX8_firstAt 29 = .ok (.iload_n 2, 1) := by decide +kernel
theorem dX8_firstAt_30 : decode cX8_firstAt 30 = .ok (.ireturn, 1) := by decide +kernel
theorem dX8_firstAt_31 : decode cX8_firstAt 31 = .ok (.iinc 2 1, 3) := by decide +kernel
theorem dX8_firstAt_34 : decode cX8_firstAt 34 = .ok (.goto (-32), 3) := by decide +kernel
theorem dX8_firstAt_37 : decode cX8_firstAt 37 = .ok (.bipush (-4), 2) := by decide +kernel
theorem dX8_firstAt_39 : decode cX8_firstAt 39 = .ok (.ireturn, 1) := by decide +kernel
theorem dX8_reachedBy_0 : decode cX8_reachedBy 0 = .ok (.iload_n 1, 1) := by decide +kernel
theorem dX8_reachedBy_1 : decode cX8_reachedBy 1 = .ok (.aload_n 0, 1) := by decide +kernel
theorem dX8_reachedBy_2 : decode cX8_reachedBy 2 = .ok (.getfield 40, 3) := by decide +kernel
theorem dX8_reachedBy_5 : decode cX8_reachedBy 5 = .ok (.invokestatic 86, 3) := by decide +kernel
theorem dX8_reachedBy_8 : decode cX8_reachedBy 8 = .ok (.istore_n 3, 1) := by decide +kernel
theorem dX8_reachedBy_9 : decode cX8_reachedBy 9 = .ok (.iload_n 3, 1) := by decide +kernel
theorem dX8_reachedBy_10 : decode cX8_reachedBy 10 = .ok (.ifCond .le 26, 3) := by decide +kernel
theorem dX8_reachedBy_13 : decode cX8_reachedBy 13 = .ok (.iload_n 3, 1) := by decide +kernel
theorem dX8_reachedBy_14 : decode cX8_reachedBy 14 = .ok (.aload_n 0, 1) := by decide +kernel
theorem dX8_reachedBy_15 : decode cX8_reachedBy 15 = .ok (.getfield 25, 3) := by decide +kernel
theorem dX8_reachedBy_18 : decode cX8_reachedBy 18 = .ok (.arraylength, 1) := by decide +kernel
theorem dX8_reachedBy_19 : decode cX8_reachedBy 19 = .ok (.if_icmp .ge 17, 3) := by decide +kernel
theorem dX8_reachedBy_22 : decode cX8_reachedBy 22 = .ok (.aload_n 0, 1) := by decide +kernel
theorem dX8_reachedBy_23 : decode cX8_reachedBy 23 = .ok (.getfield 25, 3) := by decide +kernel
theorem dX8_reachedBy_26 : decode cX8_reachedBy 26 = .ok (.iload_n 3, 1) := by decide +kernel
theorem dX8_reachedBy_27 : decode cX8_reachedBy 27 = .ok (.iaload, 1) := by decide +kernel
theorem dX8_reachedBy_28 : decode cX8_reachedBy 28 = .ok (.iload_n 2, 1) := by decide +kernel
theorem dX8_reachedBy_29 : decode cX8_reachedBy 29 = .ok (.if_icmp .lt 7, 3) := by decide +kernel
theorem dX8_reachedBy_32 : decode cX8_reachedBy 32 = .ok (.iconst 1, 1) := by decide +kernel
theorem dX8_reachedBy_33 : decode cX8_reachedBy 33 = .ok (.goto 4, 3) := by decide +kernel
theorem dX8_reachedBy_36 : decode cX8_reachedBy 36 = .ok (.iconst 0, 1) := by decide +kernel
theorem dX8_reachedBy_37 : decode cX8_reachedBy 37 = .ok (.ireturn, 1) := by decide +kernel
set_option maxRecDepth 20000 in
theorem ggX9_init_X7_init : GoodIn wsX9_init wsX7_init := goodIn_r _ [49, 50, 2, 3, 51, 52, 129, 130] (by decide +kernel) (by decide +kernel)
set_option maxRecDepth 20000 in
theorem gX9_init_X7_init_n9 : GoodIn wsX9_init (wsX7_init) := ggX9_init_X7_init
set_option maxRecDepth 20000 in
theorem ggX9_init_X5_init : GoodIn wsX9_init wsX5_init := goodIn_r _ [54, 55, 2, 3, 56, 13, 14, 57, 38, 58, 59, 60, 61, 62, 152, 153, 154, 155, 156, 157, 158, 159, 160, 161, 162, 163, 164, 165, 166, 167, 168, 149, 150, 151] (by decide +kernel) (by decide +kernel)
set_option maxRecDepth 20000 in
theorem gX9_init_X5_init_n18 : GoodIn wsX9_init (wsX5_init) := ggX9_init_X5_init
set_option maxRecDepth 20000 in
theorem ggX9_init_X6_init : GoodIn wsX9_init wsX6_init := goodIn_r _ [61, 62, 2, 3] (by decide +kernel) (by decide +kernel)
set_option maxRecDepth 20000 in
theorem gX9_init_X6_init_n25 : GoodIn wsX9_init (wsX6_init) := ggX9_init_X6_init
set_option maxRecDepth 20000 in
theorem ggX9_init_X0_init : GoodIn wsX9_init wsX0_init := goodIn_r _ [64, 65, 2, 3] (by decide +kernel) (by decide +kernel)
set_option maxRecDepth 20000 in
theorem gX9_init_X0_init_n35 : GoodIn wsX9_init (wsX0_init) := ggX9_init_X0_init
set_option maxRecDepth 20000 in
theorem ggX9_init_X8_init : GoodIn wsX9_init wsX8_init := goodIn_r _ [67, 68, 2, 3, 69, 34, 35, 70, 71, 18, 19, 72, 38, 73, 74, 75, 76, 63, 64, 65, 189, 190, 191, 192, 193, 194, 195, 176, 177, 178, 179, 180, 181, 169, 170, 171, 172, 173, 174, 175] (by decide +kernel) (by decide +kernel)
set_option maxRecDepth 20000 in
theorem gX9_init_X8_init_n42 : GoodIn wsX9_init (wsX8_init) := ggX9_init_X8_init
set_option maxRecDepth 20000 in
theorem ggX9_init_X1_init : GoodIn wsX9_init wsX1_init := goodIn_r _ [78, 79, 2, 3, 38, 80, 81, 82, 182, 183, 184, 185] (by decide +kernel) (by decide +kernel)
set_option maxRecDepth 20000 in
theorem gX9_init_X1_init_n49 : GoodIn wsX9_init (wsX1_init) := ggX9_init_X1_init
set_option maxRecDepth 20000 in
theorem ggX9_init_X2_init : GoodIn wsX9_init wsX2_init := goodIn_r _ [84, 85, 2, 3, 38, 86, 87, 186, 187, 188] (by decide +kernel) (by decide +kernel)
set_option maxRecDepth 20000 in
theorem gX9_init_X2_init_n56 : GoodIn wsX9_init (wsX2_init) := ggX9_init_X2_init
set_option maxRecDepth 20000 in
theorem ggX9_init_X4_init : GoodIn wsX9_init wsX4_init := goodIn_r _ [75, 76, 2, 3] (by decide +kernel) (by decide +kernel)
set_option maxRecDepth 20000 in
theorem gX9_init_X4_init_n63 : GoodIn wsX9_init (wsX4_init) := ggX9_init_X4_init
set_option maxRecDepth 20000 in
theorem ggX9_init_X3_init : GoodIn wsX9_init wsX3_init := goodIn_r _ [89, 90, 2, 3, 38, 91, 196, 197, 198, 199] (by decide +kernel) (by decide +kernel)
set_option maxRecDepth 20000 in
theorem gX9_init_X3_init_n78 : GoodIn wsX9_init (wsX3_init) := ggX9_init_X3_init
set_option maxRecDepth 20000 in
theorem ggX9_init_X6_layFirst : GoodIn wsX9_init wsX6_layFirst := goodIn_r _ [94, 95, 96, 97, 98, 99, 14, 100, 101, 102, 103, 104, 105, 106, 107, 108, 109, 110, 111, 112, 113, 114, 115, 152, 153, 154, 155, 156, 157, 158, 159, 160, 161, 162, 163, 164, 165, 166, 167, 168] (by decide +kernel) (by decide +kernel)
set_option maxRecDepth 20000 in
theorem gX9_init_X6_layFirst_n97 : GoodIn wsX9_init (wsX6_layFirst) := ggX9_init_X6_layFirst
set_option maxRecDepth 20000 in
theorem ggX9_init_X0_fit : GoodIn wsX9_init wsX0_fit := goodIn_r _ [118, 119, 120, 121, 122, 123, 124, 125, 126, 127, 128, 152, 153, 154, 155, 156, 157, 158, 159, 160, 161, 162, 163, 164, 165, 166, 167, 168, 169, 170, 171, 172, 173, 174, 175] (by decide +kernel) (by decide +kernel)
set_option maxRecDepth 20000 in
theorem gX9_init_X0_fit_n100 : GoodIn wsX9_init (wsX0_fit) := ggX9_init_X0_fit
theorem dX9_init_0 : decode cX9_init 0 = .ok (.aload_n 0, 1) := by decide +kernel
