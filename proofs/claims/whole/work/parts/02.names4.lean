theorem dX10_woundPull_33 : decode cX10_woundPull 33 = .ok (.getfield 98, 3) := by decide +kernel
theorem dX10_woundPull_36 : decode cX10_woundPull 36 = .ok (.idiv, 1) := by decide +kernel
theorem dX10_woundPull_37 : decode cX10_woundPull 37 = .ok (.istore_n 3, 1) := by decide +kernel
theorem dX10_woundPull_38 : decode cX10_woundPull 38 = .ok (.iload_n 2, 1) := by decide +kernel
theorem dX10_woundPull_39 : decode cX10_woundPull 39 = .ok (.iload_n 1, 1) := by decide +kernel
theorem dX10_woundPull_40 : decode cX10_woundPull 40 = .ok (.iload_n 3, 1) := by decide +kernel
theorem dX10_woundPull_41 : decode cX10_woundPull 41 = .ok (.if_icmp .le 29, 3) := by decide +kernel
theorem dX10_woundPull_44 : decode cX10_woundPull 44 = .ok (.iconst 2, 1) := by decide +kernel
theorem dX10_woundPull_45 : decode cX10_woundPull 45 = .ok (.aload_n 0, 1) := by decide +kernel
theorem dX10_woundPull_46 : decode cX10_woundPull 46 = .ok (.getfield 89, 3) := by decide +kernel
theorem dX10_woundPull_49 : decode cX10_woundPull 49 = .ok (.imul, 1) := by decide +kernel
theorem dX10_woundPull_50 : decode cX10_woundPull 50 = .ok (.aload_n 0, 1) := by decide +kernel
theorem dX10_woundPull_51 : decode cX10_woundPull 51 = .ok (.getfield 98, 3) := by decide +kernel
theorem dX10_woundPull_54 : decode cX10_woundPull 54 = .ok (.imul, 1) := by decide +kernel
theorem dX10_woundPull_55 : decode cX10_woundPull 55 = .ok (.iload_n 1, 1) := by decide +kernel
theorem dX10_woundPull_56 : decode cX10_woundPull 56 = .ok (.iload_n 3, 1) := by decide +kernel
theorem dX10_woundPull_57 : decode cX10_woundPull 57 = .ok (.isub, 1) := by decide +kernel
theorem dX10_woundPull_58 : decode cX10_woundPull 58 = .ok (.imul, 1) := by decide +kernel
theorem dX10_woundPull_59 : decode cX10_woundPull 59 = .ok (.bipush 10, 2) := by decide +kernel
theorem dX10_woundPull_61 : decode cX10_woundPull 61 = .ok (.aload_n 0, 1) := by decide +kernel
theorem dX10_woundPull_62 : decode cX10_woundPull 62 = .ok (.getfield 101, 3) := by decide +kernel
theorem dX10_woundPull_65 : decode cX10_woundPull 65 = .ok (.imul, 1) := by decide +kernel
theorem dX10_woundPull_66 : decode cX10_woundPull 66 = .ok (.idiv, 1) := by decide +kernel
theorem dX10_woundPull_67 : decode cX10_woundPull 67 = .ok (.goto 4, 3) := by decide +kernel
theorem dX10_woundPull_70 : decode cX10_woundPull 70 = .ok (.iconst 0, 1) := by decide +kernel
theorem dX10_woundPull_71 : decode cX10_woundPull 71 = .ok (.iadd, 1) := by decide +kernel
theorem dX10_woundPull_72 : decode cX10_woundPull 72 = .ok (.istore_n 2, 1) := by decide +kernel
theorem dX10_woundPull_73 : decode cX10_woundPull 73 = .ok (.iload_n 2, 1) := by decide +kernel
theorem dX10_woundPull_74 : decode cX10_woundPull 74 = .ok (.bipush 100, 2) := by decide +kernel
theorem dX10_woundPull_76 : decode cX10_woundPull 76 = .ok (.aload_n 0, 1) := by decide +kernel
theorem dX10_woundPull_77 : decode cX10_woundPull 77 = .ok (.getfield 13, 3) := by decide +kernel
theorem dX10_woundPull_80 : decode cX10_woundPull 80 = .ok (.bipush 25, 2) := by decide +kernel
theorem dX10_woundPull_82 : decode cX10_woundPull 82 = .ok (.iaload, 1) := by decide +kernel
theorem dX10_woundPull_83 : decode cX10_woundPull 83 = .ok (.isub, 1) := by decide +kernel
theorem dX10_woundPull_84 : decode cX10_woundPull 84 = .ok (.imul, 1) := by decide +kernel
theorem dX10_woundPull_85 : decode cX10_woundPull 85 = .ok (.bipush 100, 2) := by decide +kernel
theorem dX10_woundPull_87 : decode cX10_woundPull 87 = .ok (.idiv, 1) := by decide +kernel
theorem dX10_woundPull_88 : decode cX10_woundPull 88 = .ok (.ireturn, 1) := by decide +kernel
set_option maxRecDepth 20000 in
theorem ggX10_freePull_X10_woundPull : GoodIn wsX10_freePull wsX10_woundPull := goodIn_r _ [7, 8, 9, 10, 11, 2, 12, 13, 14, 15, 16, 17, 18, 19, 20, 21, 22, 23, 24, 25, 26, 27, 28, 29, 30, 31, 32, 33, 34, 35, 36, 37, 38] (by decide +kernel) (by decide +kernel)
set_option maxRecDepth 20000 in
theorem gX10_freePull_X10_woundPull : GoodIn wsX10_freePull (wsV RX10 110 RX10 yX10_woundPull wsX10_woundPull) := goodIn_app (goodIn_of _ (by decide +kernel)) ggX10_freePull_X10_woundPull
theorem dX10_freePull_0 : decode cX10_freePull 0 = .ok (.aload_n 0, 1) := by decide +kernel
theorem dX10_freePull_1 : decode cX10_freePull 1 = .ok (.iload_n 1, 1) := by decide +kernel
theorem dX10_freePull_2 : decode cX10_freePull 2 = .ok (.invokevirtual 110, 3) := by decide +kernel
theorem dX10_freePull_5 : decode cX10_freePull 5 = .ok (.bipush 100, 2) := by decide +kernel
theorem dX10_freePull_7 : decode cX10_freePull 7 = .ok (.aload_n 0, 1) := by decide +kernel
theorem dX10_freePull_8 : decode cX10_freePull 8 = .ok (.getfield 92, 3) := by decide +kernel
theorem dX10_freePull_11 : decode cX10_freePull 11 = .ok (.isub, 1) := by decide +kernel
theorem dX10_freePull_12 : decode cX10_freePull 12 = .ok (.imul, 1) := by decide +kernel
theorem dX10_freePull_13 : decode cX10_freePull 13 = .ok (.bipush 100, 2) := by decide +kernel
theorem dX10_freePull_15 : decode cX10_freePull 15 = .ok (.idiv, 1) := by decide +kernel
theorem dX10_freePull_16 : decode cX10_freePull 16 = .ok (.bipush 100, 2) := by decide +kernel
theorem dX10_freePull_18 : decode cX10_freePull 18 = .ok (.aload_n 0, 1) := by decide +kernel
theorem dX10_freePull_19 : decode cX10_freePull 19 = .ok (.getfield 13, 3) := by decide +kernel
theorem dX10_freePull_22 : decode cX10_freePull 22 = .ok (.bipush 26, 2) := by decide +kernel
theorem dX10_freePull_24 : decode cX10_freePull 24 = .ok (.iaload, 1) := by decide +kernel
theorem dX10_freePull_25 : decode cX10_freePull 25 = .ok (.isub, 1) := by decide +kernel
theorem dX10_freePull_26 : decode cX10_freePull 26 = .ok (.imul, 1) := by decide +kernel
theorem dX10_freePull_27 : decode cX10_freePull 27 = .ok (.bipush 100, 2) := by decide +kernel
theorem dX10_freePull_29 : decode cX10_freePull 29 = .ok (.idiv, 1) := by decide +kernel
theorem dX10_freePull_30 : decode cX10_freePull 30 = .ok (.ireturn, 1) := by decide +kernel
set_option maxRecDepth 20000 in
theorem ggX10_pull_X10_in : GoodIn wsX10_pull wsX10_in := goodIn_r _ [6] (by decide +kernel) (by decide +kernel)
set_option maxRecDepth 20000 in
theorem gX10_pull_X10_in : GoodIn wsX10_pull (va_wsS RX10 45 yX10_in wsX10_in) := goodIn_app (goodIn_of _ (by decide +kernel)) ggX10_pull_X10_in
set_option maxRecDepth 20000 in
theorem ggX10_pull_X10_asItIs : GoodIn wsX10_pull wsX10_asItIs := goodIn_r _ [10, 11, 12, 13, 14, 15, 16, 17, 18, 27, 28, 29, 30, 31, 32, 33, 34, 35, 36, 37, 38, 39, 40, 41, 42, 43, 44, 45, 46, 47, 48, 49, 50, 51, 52, 53] (by decide +kernel) (by decide +kernel)
set_option maxRecDepth 20000 in
theorem gX10_pull_X10_asItIs : GoodIn wsX10_pull (wsV RX10 114 RX10 yX10_asItIs wsX10_asItIs) := goodIn_app (goodIn_of _ (by decide +kernel)) ggX10_pull_X10_asItIs
set_option maxRecDepth 20000 in
theorem ggX10_pull_X10_freePull : GoodIn wsX10_pull wsX10_freePull := goodIn_r _ [22, 13, 11, 23, 24, 25, 5, 26, 12, 15, 16, 14, 27, 28, 29, 30, 31, 32, 33, 34, 35, 36, 37, 38, 39, 40, 41, 42, 43, 44, 45, 46, 47, 48, 49, 50, 51, 52, 53] (by decide +kernel) (by decide +kernel)
set_option maxRecDepth 20000 in
theorem gX10_pull_X10_freePull : GoodIn wsX10_pull (wsV RX10 117 RX10 yX10_freePull wsX10_freePull) := goodIn_app (goodIn_of _ (by decide +kernel)) ggX10_pull_X10_freePull
set_option maxRecDepth 20000 in
theorem ggX10_pull_X10_woundPull : GoodIn wsX10_pull wsX10_woundPull := goodIn_r _ [26, 12, 15, 16, 14, 11, 27, 28, 29, 30, 31, 32, 33, 34, 35, 36, 37, 38, 39, 40, 41, 42, 43, 44, 45, 46, 47, 48, 49, 50, 51, 52, 53] (by decide +kernel) (by decide +kernel)
set_option maxRecDepth 20000 in
theorem gX10_pull_X10_woundPull : GoodIn wsX10_pull (wsV RX10 110 RX10 yX10_woundPull wsX10_woundPull) := goodIn_app (goodIn_of _ (by decide +kernel)) ggX10_pull_X10_woundPull
theorem dX10_pull_0 : decode cX10_pull 0 = .ok (.aload_n 0, 1) := by decide +kernel
theorem dX10_pull_1 : decode cX10_pull 1 = .ok (.iconst 0, 1) := by decide +kernel
theorem dX10_pull_2 : decode cX10_pull 2 = .ok (.putfield 41, 3) := by decide +kernel
theorem dX10_pull_5 : decode cX10_pull 5 = .ok (.iload_n 1, 1) := by decide +kernel
theorem dX10_pull_6 : decode cX10_pull 6 = .ok (.iconst 0, 1) := by decide +kernel
theorem dX10_pull_7 : decode cX10_pull 7 = .ok (.ldc 113, 2) := by decide +kernel
theorem dX10_pull_9 : decode cX10_pull 9 = .ok (.invokestatic 45, 3) := by decide +kernel
theorem dX10_pull_12 : decode cX10_pull 12 = .ok (.ifCond .ne 5, 3) := by decide +kernel
theorem dX10_pull_15 : decode cX10_pull 15 = .ok (.iconst (-1), 1) := by decide +kernel
theorem dX10_pull_16 : decode cX10_pull 16 = .ok (.ireturn, 1) := by decide +kernel
theorem dX10_pull_17 : decode cX10_pull 17 = .ok (.aload_n 0, 1) := by decide +kernel
theorem dX10_pull_18 : decode cX10_pull 18 = .ok (.invokevirtual 114, 3) := by decide +kernel
theorem dX10_pull_21 : decode cX10_pull 21 = .ok (.iload_n 2, 1) := by decide +kernel
theorem dX10_pull_22 : decode cX10_pull 22 = .ok (.ifCond .eq 11, 3) := by decide +kernel
theorem dX10_pull_25 : decode cX10_pull 25 = .ok (.aload_n 0, 1) := by decide +kernel
theorem dX10_pull_26 : decode cX10_pull 26 = .ok (.iload_n 1, 1) := by decide +kernel
theorem dX10_pull_27 : decode cX10_pull 27 = .ok (.invokevirtual 117, 3) := by decide +kernel
theorem dX10_pull_30 : decode cX10_pull 30 = .ok (.goto 8, 3) := by decide +kernel
theorem dX10_pull_33 : decode cX10_pull 33 = .ok (.aload_n 0, 1) := by decide +kernel
theorem dX10_pull_34 : decode cX10_pull 34 = .ok (.iload_n 1, 1) := by decide +kernel
theorem dX10_pull_35 : decode cX10_pull 35 = .ok (.invokevirtual 110, 3) := by decide +kernel
theorem dX10_pull_38 : decode cX10_pull 38 = .ok (.ireturn, 1) := by decide +kernel
theorem dX10_windAt_0 : decode cX10_windAt 0 = .ok (.iload_n 1, 1) := by decide +kernel
theorem dX10_windAt_1 : decode cX10_windAt 1 = .ok (.ifCond .ge 5, 3) := by decide +kernel
theorem dX10_windAt_4 : decode cX10_windAt 4 = .ok (.iconst 0, 1) := by decide +kernel
theorem dX10_windAt_5 : decode cX10_windAt 5 = .ok (.ireturn, 1) := by decide +kernel
theorem dX10_windAt_6 : decode cX10_windAt 6 = .ok (.ldc2_w 120, 3) := by decide +kernel
theorem dX10_windAt_9 : decode cX10_windAt 9 = .ok (.iload_n 1, 1) := by decide +kernel
theorem dX10_windAt_10 : decode cX10_windAt 10 = .ok (.i2l, 1) := by decide +kernel
theorem dX10_windAt_11 : decode cX10_windAt 11 = .ok (.lmul, 1) := by decide +kernel
theorem dX10_windAt_12 : decode cX10_windAt 12 = .ok (.ldc2_w 122, 3) := by decide +kernel
theorem dX10_windAt_15 : decode cX10_windAt 15 = .ok (.iload_n 2, 1) := by decide +kernel
theorem dX10_windAt_16 : decode cX10_windAt 16 = .ok (.i2l, 1) := by decide +kernel
theorem dX10_windAt_17 : decode cX10_windAt 17 = .ok (.lmul, 1) := by decide +kernel
theorem dX10_windAt_18 : decode cX10_windAt 18 = .ok (.ladd, 1) := by decide +kernel
theorem dX10_windAt_19 : decode cX10_windAt 19 = .ok (.lconst 1, 1) := by decide +kernel
theorem dX10_windAt_20 : decode cX10_windAt 20 = .ok (.ladd, 1) := by decide +kernel
theorem dX10_windAt_21 : decode cX10_windAt 21 = .ok (.lstore_n 3, 1) := by decide +kernel
theorem dX10_windAt_22 : decode cX10_windAt 22 = .ok (.lload_n 3, 1) := by decide +kernel
theorem dX10_windAt_23 : decode cX10_windAt 23 = .ok (.lload_n 3, 1) := by decide +kernel
theorem dX10_windAt_24 : decode cX10_windAt 24 = .ok (.lmul, 1) := by decide +kernel
theorem dX10_windAt_25 : decode cX10_windAt 25 = .ok (.ldc2_w 124, 3) := by decide +kernel
theorem dX10_windAt_28 : decode cX10_windAt 28 = .ok (.lrem, 1) := by decide +kernel
theorem dX10_windAt_29 : decode cX10_windAt 29 = .ok (.aload_n 0, 1) := by decide +kernel
theorem dX10_windAt_30 : decode cX10_windAt 30 = .ok (.getfield 13, 3) := by decide +kernel
theorem dX10_windAt_33 : decode cX10_windAt 33 = .ok (.bipush 27, 2) := by decide +kernel
theorem dX10_windAt_35 : decode cX10_windAt 35 = .ok (.iaload, 1) := by decide +kernel
theorem dX10_windAt_36 : decode cX10_windAt 36 = .ok (.iconst 1, 1) := by decide +kernel
theorem dX10_windAt_37 : decode cX10_windAt 37 = .ok (.iadd, 1) := by decide +kernel
theorem dX10_windAt_38 : decode cX10_windAt 38 = .ok (.i2l, 1) := by decide +kernel
theorem dX10_windAt_39 : decode cX10_windAt 39 = .ok (.lrem, 1) := by decide +kernel
theorem dX10_windAt_40 : decode cX10_windAt 40 = .ok (.l2i, 1) := by decide +kernel
theorem dX10_windAt_41 : decode cX10_windAt 41 = .ok (.ireturn, 1) := by decide +kernel
theorem dX10_within_0 : decode cX10_within 0 = .ok (.iload_n 0, 1) := by decide +kernel
theorem dX10_within_1 : decode cX10_within 1 = .ok (.iload_n 1, 1) := by decide +kernel
theorem dX10_within_2 : decode cX10_within 2 = .ok (.if_icmp .ge 7, 3) := by decide +kernel
theorem dX10_within_5 : decode cX10_within 5 = .ok (.iload_n 1, 1) := by decide +kernel
theorem dX10_within_6 : decode cX10_within 6 = .ok (.goto 13, 3) := by decide +kernel
theorem dX10_within_9 : decode cX10_within 9 = .ok (.iload_n 0, 1) := by decide +kernel
theorem dX10_within_10 : decode cX10_within 10 = .ok (.iload_n 2, 1) := by decide +kernel
theorem dX10_within_11 : decode cX10_within 11 = .ok (.if_icmp .le 7, 3) := by decide +kernel
theorem dX10_within_14 : decode cX10_within 14 = .ok (.iload_n 2, 1) := by decide +kernel
theorem dX10_within_15 : decode cX10_within 15 = .ok (.goto 4, 3) := by decide +kernel
theorem dX10_within_18 : decode cX10_within 18 = .ok (.iload_n 0, 1) := by decide +kernel
theorem dX10_within_19 : decode cX10_within 19 = .ok (.ireturn, 1) := by decide +kernel
set_option maxRecDepth 20000 in
theorem ggX10_tenth_X10_freePull : GoodIn wsX10_tenth wsX10_freePull := goodIn_r _ [10, 11, 2, 12, 13, 14, 9, 15, 16, 17, 18, 19, 30, 31, 32, 33, 34, 35, 36, 37, 38, 39, 40, 41, 42, 43, 44, 45, 46, 47, 48, 49, 50, 51, 52, 53, 54, 55, 56] (by decide +kernel) (by decide +kernel)
set_option maxRecDepth 20000 in
theorem gX10_tenth_X10_freePull : GoodIn wsX10_tenth (wsV RX10 117 RX10 yX10_freePull wsX10_freePull) := goodIn_app (goodIn_of _ (by decide +kernel)) ggX10_tenth_X10_freePull
set_option maxRecDepth 20000 in
theorem ggX10_tenth_X10_windAt : GoodIn wsX10_tenth wsX10_windAt := goodIn_r _ [23, 24, 25, 26, 2, 30, 31, 32, 33, 34, 35, 36, 37, 38, 39, 40, 41, 42, 43, 44, 45, 46, 47, 48, 49, 50, 51, 52, 53, 54, 55, 56] (by decide +kernel) (by decide +kernel)
set_option maxRecDepth 20000 in
theorem gX10_tenth_X10_windAt : GoodIn wsX10_tenth (wsV RX10 126 RX10 yX10_windAt wsX10_windAt) := goodIn_app (goodIn_of _ (by decide +kernel)) ggX10_tenth_X10_windAt
set_option maxRecDepth 20000 in
theorem ggX10_tenth_X10_within : GoodIn wsX10_tenth wsX10_within := goodIn_r _ [29] (by decide +kernel) (by decide +kernel)
set_option maxRecDepth 20000 in
theorem gX10_tenth_X10_within : GoodIn wsX10_tenth (va_wsS RX10 130 yX10_within wsX10_within) := goodIn_app (goodIn_of _ (by decide +kernel)) ggX10_tenth_X10_within
theorem dX10_tenth_0 : decode cX10_tenth 0 = .ok (.aload_n 0, 1) := by decide +kernel
theorem dX10_tenth_1 : decode cX10_tenth 1 = .ok (.aload_n 1, 1) := by decide +kernel
theorem dX10_tenth_2 : decode cX10_tenth 2 = .ok (.iconst 0, 1) := by decide +kernel
theorem dX10_tenth_3 : decode cX10_tenth 3 = .ok (.iaload, 1) := by decide +kernel
theorem dX10_tenth_4 : decode cX10_tenth 4 = .ok (.invokevirtual 117, 3) := by decide +kernel
theorem dX10_tenth_7 : decode cX10_tenth 7 = .ok (.bipush 10, 2) := by decide +kernel
theorem dX10_tenth_9 : decode cX10_tenth 9 = .ok (.aload_n 0, 1) := by decide +kernel
theorem dX10_tenth_10 : decode cX10_tenth 10 = .ok (.getfield 104, 3) := by decide +kernel
theorem dX10_tenth_13 : decode cX10_tenth 13 = .ok (.aload_n 0, 1) := by decide +kernel
theorem dX10_tenth_14 : decode cX10_tenth 14 = .ok (.getfield 104, 3) := by decide +kernel
theorem dX10_tenth_17 : decode cX10_tenth 17 = .ok (.imul, 1) := by decide +kernel
theorem dX10_tenth_18 : decode cX10_tenth 18 = .ok (.iadd, 1) := by decide +kernel
theorem dX10_tenth_19 : decode cX10_tenth 19 = .ok (.idiv, 1) := by decide +kernel
theorem dX10_tenth_20 : decode cX10_tenth 20 = .ok (.istore_n 3, 1) := by decide +kernel
theorem dX10_tenth_21 : decode cX10_tenth 21 = .ok (.iload_n 3, 1) := by decide +kernel
theorem dX10_tenth_22 : decode cX10_tenth 22 = .ok (.aload_n 1, 1) := by decide +kernel
theorem dX10_tenth_23 : decode cX10_tenth 23 = .ok (.iconst 0, 1) := by decide +kernel
theorem dX10_tenth_24 : decode cX10_tenth 24 = .ok (.iaload, 1) := by decide +kernel
theorem dX10_tenth_25 : decode cX10_tenth 25 = .ok (.if_icmp .le 9, 3) := by decide +kernel
theorem dX10_tenth_28 : decode cX10_tenth 28 = .ok (.aload_n 1, 1) := by decide +kernel
theorem dX10_tenth_29 : decode cX10_tenth 29 = .ok (.iconst 0, 1) := by decide +kernel
theorem dX10_tenth_30 : decode cX10_tenth 30 = .ok (.iaload, 1) := by decide +kernel
theorem dX10_tenth_31 : decode cX10_tenth 31 = .ok (.goto 4, 3) := by decide +kernel
theorem dX10_tenth_34 : decode cX10_tenth 34 = .ok (.iload_n 3, 1) := by decide +kernel
theorem dX10_tenth_35 : decode cX10_tenth 35 = .ok (.istore_n 3, 1) := by decide +kernel
theorem dX10_tenth_36 : decode cX10_tenth 36 = .ok (.aload_n 1, 1) := by decide +kernel
theorem dX10_tenth_37 : decode cX10_tenth 37 = .ok (.iconst 0, 1) := by decide +kernel
theorem dX10_tenth_38 : decode cX10_tenth 38 = .ok (.dup2, 1) := by decide +kernel
theorem dX10_tenth_39 : decode cX10_tenth 39 = .ok (.iaload, 1) := by decide +kernel
theorem dX10_tenth_40 : decode cX10_tenth 40 = .ok (.iload_n 3, 1) := by decide +kernel
theorem dX10_tenth_41 : decode cX10_tenth 41 = .ok (.isub, 1) := by decide +kernel
theorem dX10_tenth_42 : decode cX10_tenth 42 = .ok (.iastore, 1) := by decide +kernel
theorem dX10_tenth_43 : decode cX10_tenth 43 = .ok (.aload_n 0, 1) := by decide +kernel
theorem dX10_tenth_44 : decode cX10_tenth 44 = .ok (.getfield 104, 3) := by decide +kernel
theorem dX10_tenth_47 : decode cX10_tenth 47 = .ok (.iload_n 3, 1) := by decide +kernel
theorem dX10_tenth_48 : decode cX10_tenth 48 = .ok (.imul, 1) := by decide +kernel
theorem dX10_tenth_49 : decode cX10_tenth 49 = .ok (.bipush 10, 2) := by decide +kernel
theorem dX10_tenth_51 : decode cX10_tenth 51 = .ok (.idiv, 1) := by decide +kernel
theorem dX10_tenth_52 : decode cX10_tenth 52 = .ok (.aload_n 1, 1) := by decide +kernel
theorem dX10_tenth_53 : decode cX10_tenth 53 = .ok (.iconst 1, 1) := by decide +kernel
theorem dX10_tenth_54 : decode cX10_tenth 54 = .ok (.iaload, 1) := by decide +kernel
theorem dX10_tenth_55 : decode cX10_tenth 55 = .ok (.isub, 1) := by decide +kernel
theorem dX10_tenth_56 : decode cX10_tenth 56 = .ok (.istore 4, 2) := by decide +kernel
theorem dX10_tenth_58 : decode cX10_tenth 58 = .ok (.iload 4, 2) := by decide +kernel
theorem dX10_tenth_60 : decode cX10_tenth 60 = .ok (.ifCond .ge 7, 3) := by decide +kernel
theorem dX10_tenth_63 : decode cX10_tenth 63 = .ok (.iconst 0, 1) := by decide +kernel
theorem dX10_tenth_64 : decode cX10_tenth 64 = .ok (.goto 5, 3) := by decide +kernel
theorem dX10_tenth_67 : decode cX10_tenth 67 = .ok (.iload 4, 2) := by decide +kernel
theorem dX10_tenth_69 : decode cX10_tenth 69 = .ok (.aload_n 0, 1) := by decide +kernel
theorem dX10_tenth_70 : decode cX10_tenth 70 = .ok (.getfield 13, 3) := by decide +kernel
theorem dX10_tenth_73 : decode cX10_tenth 73 = .ok (.bipush 20, 2) := by decide +kernel
theorem dX10_tenth_75 : decode cX10_tenth 75 = .ok (.iaload, 1) := by decide +kernel
theorem dX10_tenth_76 : decode cX10_tenth 76 = .ok (.imul, 1) := by decide +kernel
theorem dX10_tenth_77 : decode cX10_tenth 77 = .ok (.bipush 10, 2) := by decide +kernel
theorem dX10_tenth_79 : decode cX10_tenth 79 = .ok (.idiv, 1) := by decide +kernel
theorem dX10_tenth_80 : decode cX10_tenth 80 = .ok (.istore 4, 2) := by decide +kernel
theorem dX10_tenth_82 : decode cX10_tenth 82 = .ok (.aload_n 1, 1) := by decide +kernel
theorem dX10_tenth_83 : decode cX10_tenth 83 = .ok (.iconst 1, 1) := by decide +kernel
theorem dX10_tenth_84 : decode cX10_tenth 84 = .ok (.iaload, 1) := by decide +kernel
theorem dX10_tenth_85 : decode cX10_tenth 85 = .ok (.aload_n 1, 1) := by decide +kernel
theorem dX10_tenth_86 : decode cX10_tenth 86 = .ok (.iconst 1, 1) := by decide +kernel
theorem dX10_tenth_87 : decode cX10_tenth 87 = .ok (.iaload, 1) := by decide +kernel
theorem dX10_tenth_88 : decode cX10_tenth 88 = .ok (.imul, 1) := by decide +kernel
theorem dX10_tenth_89 : decode cX10_tenth 89 = .ok (.aload_n 0, 1) := by decide +kernel
theorem dX10_tenth_90 : decode cX10_tenth 90 = .ok (.getfield 13, 3) := by decide +kernel
theorem dX10_tenth_93 : decode cX10_tenth 93 = .ok (.bipush 22, 2) := by decide +kernel
theorem dX10_tenth_95 : decode cX10_tenth 95 = .ok (.iaload, 1) := by decide +kernel
theorem dX10_tenth_96 : decode cX10_tenth 96 = .ok (.imul, 1) := by decide +kernel
theorem dX10_tenth_97 : decode cX10_tenth 97 = .ok (.sipush 1000, 3) := by decide +kernel
theorem dX10_tenth_100 : decode cX10_tenth 100 = .ok (.idiv, 1) := by decide +kernel
theorem dX10_tenth_101 : decode cX10_tenth 101 = .ok (.aload_n 0, 1) := by decide +kernel
theorem dX10_tenth_102 : decode cX10_tenth 102 = .ok (.iload_n 2, 1) := by decide +kernel
theorem dX10_tenth_103 : decode cX10_tenth 103 = .ok (.aload_n 1, 1) := by decide +kernel
theorem dX10_tenth_104 : decode cX10_tenth 104 = .ok (.iconst 5, 1) := by decide +kernel
theorem dX10_tenth_105 : decode cX10_tenth 105 = .ok (.iaload, 1) := by decide +kernel
theorem dX10_tenth_106 : decode cX10_tenth 106 = .ok (.invokevirtual 126, 3) := by decide +kernel
theorem dX10_tenth_109 : decode cX10_tenth 109 = .ok (.iadd, 1) := by decide +kernel
theorem dX10_tenth_110 : decode cX10_tenth 110 = .ok (.istore 5, 2) := by decide +kernel
theorem dX10_tenth_112 : decode cX10_tenth 112 = .ok (.aload_n 1, 1) := by decide +kernel
theorem dX10_tenth_113 : decode cX10_tenth 113 = .ok (.iconst 1, 1) := by decide +kernel
theorem dX10_tenth_114 : decode cX10_tenth 114 = .ok (.aload_n 1, 1) := by decide +kernel
theorem dX10_tenth_115 : decode cX10_tenth 115 = .ok (.iconst 1, 1) := by decide +kernel
theorem dX10_tenth_116 : decode cX10_tenth 116 = .ok (.iaload, 1) := by decide +kernel
theorem dX10_tenth_117 : decode cX10_tenth 117 = .ok (.iload 4, 2) := by decide +kernel
theorem dX10_tenth_119 : decode cX10_tenth 119 = .ok (.iload 5, 2) := by decide +kernel
theorem dX10_tenth_121 : decode cX10_tenth 121 = .ok (.isub, 1) := by decide +kernel
theorem dX10_tenth_122 : decode cX10_tenth 122 = .ok (.aload_n 0, 1) := by decide +kernel
theorem dX10_tenth_123 : decode cX10_tenth 123 = .ok (.getfield 13, 3) := by decide +kernel
theorem dX10_tenth_126 : decode cX10_tenth 126 = .ok (.bipush 21, 2) := by decide +kernel
theorem dX10_tenth_128 : decode cX10_tenth 128 = .ok (.iaload, 1) := by decide +kernel
theorem dX10_tenth_129 : decode cX10_tenth 129 = .ok (.idiv, 1) := by decide +kernel
theorem dX10_tenth_130 : decode cX10_tenth 130 = .ok (.iadd, 1) := by decide +kernel
theorem dX10_tenth_131 : decode cX10_tenth 131 = .ok (.iconst 0, 1) := by decide +kernel
theorem dX10_tenth_132 : decode cX10_tenth 132 = .ok (.sipush 999, 3) := by decide +kernel
theorem dX10_tenth_135 : decode cX10_tenth 135 = .ok (.invokestatic 130, 3) := by decide +kernel
theorem dX10_tenth_138 : decode cX10_tenth 138 = .ok (.iastore, 1) := by decide +kernel
theorem dX10_tenth_139 : decode cX10_tenth 139 = .ok (.aload_n 1, 1) := by decide +kernel
theorem dX10_tenth_140 : decode cX10_tenth 140 = .ok (.iconst 2, 1) := by decide +kernel
theorem dX10_tenth_141 : decode cX10_tenth 141 = .ok (.dup2, 1) := by decide +kernel
theorem dX10_tenth_142 : decode cX10_tenth 142 = .ok (.iaload, 1) := by decide +kernel
theorem dX10_tenth_143 : decode cX10_tenth 143 = .ok (.aload_n 1, 1) := by decide +kernel
theorem dX10_tenth_144 : decode cX10_tenth 144 = .ok (.iconst 1, 1) := by decide +kernel
theorem dX10_tenth_145 : decode cX10_tenth 145 = .ok (.iaload, 1) := by decide +kernel
theorem dX10_tenth_146 : decode cX10_tenth 146 = .ok (.iadd, 1) := by decide +kernel
theorem dX10_tenth_147 : decode cX10_tenth 147 = .ok (.iastore, 1) := by decide +kernel
theorem dX10_tenth_148 : decode cX10_tenth 148 = .ok (.aload_n 1, 1) := by decide +kernel
theorem dX10_tenth_149 : decode cX10_tenth 149 = .ok (.iconst 3, 1) := by decide +kernel
theorem dX10_tenth_150 : decode cX10_tenth 150 = .ok (.aload_n 1, 1) := by decide +kernel
theorem dX10_tenth_151 : decode cX10_tenth 151 = .ok (.iconst 3, 1) := by decide +kernel
theorem dX10_tenth_152 : decode cX10_tenth 152 = .ok (.iaload, 1) := by decide +kernel
theorem dX10_tenth_153 : decode cX10_tenth 153 = .ok (.iload 4, 2) := by decide +kernel
theorem dX10_tenth_155 : decode cX10_tenth 155 = .ok (.aload_n 0, 1) := by decide +kernel
theorem dX10_tenth_156 : decode cX10_tenth 156 = .ok (.getfield 13, 3) := by decide +kernel
theorem dX10_tenth_159 : decode cX10_tenth 159 = .ok (.bipush 23, 2) := by decide +kernel
theorem dX10_tenth_161 : decode cX10_tenth 161 = .ok (.iaload, 1) := by decide +kernel
theorem dX10_tenth_162 : decode cX10_tenth 162 = .ok (.imul, 1) := by decide +kernel
theorem dX10_tenth_163 : decode cX10_tenth 163 = .ok (.aload_n 1, 1) := by decide +kernel
theorem dX10_tenth_164 : decode cX10_tenth 164 = .ok (.iconst 1, 1) := by decide +kernel
theorem dX10_tenth_165 : decode cX10_tenth 165 = .ok (.iaload, 1) := by decide +kernel
theorem dX10_tenth_166 : decode cX10_tenth 166 = .ok (.aload_n 0, 1) := by decide +kernel
theorem dX10_tenth_167 : decode cX10_tenth 167 = .ok (.getfield 107, 3) := by decide +kernel
theorem dX10_tenth_170 : decode cX10_tenth 170 = .ok (.imul, 1) := by decide +kernel
theorem dX10_tenth_171 : decode cX10_tenth 171 = .ok (.isub, 1) := by decide +kernel
theorem dX10_tenth_172 : decode cX10_tenth 172 = .ok (.bipush 100, 2) := by decide +kernel
theorem dX10_tenth_174 : decode cX10_tenth 174 = .ok (.idiv, 1) := by decide +kernel
theorem dX10_tenth_175 : decode cX10_tenth 175 = .ok (.iadd, 1) := by decide +kernel
theorem dX10_tenth_176 : decode cX10_tenth 176 = .ok (.sipush (-9999), 3) := by decide +kernel
theorem dX10_tenth_179 : decode cX10_tenth 179 = .ok (.sipush 9999, 3) := by decide +kernel
theorem dX10_tenth_182 : decode cX10_tenth 182 = .ok (.invokestatic 130, 3) := by decide +kernel
theorem dX10_tenth_185 : decode cX10_tenth 185 = .ok (.iastore, 1) := by decide +kernel
theorem dX10_tenth_186 : decode cX10_tenth 186 = .ok (.aload_n 1, 1) := by decide +kernel
theorem dX10_tenth_187 : decode cX10_tenth 187 = .ok (.iconst 4, 1) := by decide +kernel
theorem dX10_tenth_188 : decode cX10_tenth 188 = .ok (.aload_n 1, 1) := by decide +kernel
theorem dX10_tenth_189 : decode cX10_tenth 189 = .ok (.iconst 4, 1) := by decide +kernel
theorem dX10_tenth_190 : decode cX10_tenth 190 = .ok (.iaload, 1) := by decide +kernel
theorem dX10_tenth_191 : decode cX10_tenth 191 = .ok (.aload_n 1, 1) := by decide +kernel
theorem dX10_tenth_192 : decode cX10_tenth 192 = .ok (.iconst 1, 1) := by decide +kernel
theorem dX10_tenth_193 : decode cX10_tenth 193 = .ok (.iaload, 1) := by decide +kernel
theorem dX10_tenth_194 : decode cX10_tenth 194 = .ok (.aload_n 1, 1) := by decide +kernel
theorem dX10_tenth_195 : decode cX10_tenth 195 = .ok (.iconst 3, 1) := by decide +kernel
theorem dX10_tenth_196 : decode cX10_tenth 196 = .ok (.iaload, 1) := by decide +kernel
theorem dX10_tenth_197 : decode cX10_tenth 197 = .ok (.imul, 1) := by decide +kernel
theorem dX10_tenth_198 : decode cX10_tenth 198 = .ok (.sipush 1000, 3) := by decide +kernel
theorem dX10_tenth_201 : decode cX10_tenth 201 = .ok (.idiv, 1) := by decide +kernel
theorem dX10_tenth_202 : decode cX10_tenth 202 = .ok (.iadd, 1) := by decide +kernel
theorem dX10_tenth_203 : decode cX10_tenth 203 = .ok (.ldc 133, 2) := by decide +kernel
theorem dX10_tenth_205 : decode cX10_tenth 205 = .ok (.ldc 134, 2) := by decide +kernel
theorem dX10_tenth_207 : decode cX10_tenth 207 = .ok (.invokestatic 130, 3) := by decide +kernel
theorem dX10_tenth_210 : decode cX10_tenth 210 = .ok (.iastore, 1) := by decide +kernel
theorem dX10_tenth_211 : decode cX10_tenth 211 = .ok (.aload_n 1, 1) := by decide +kernel
theorem dX10_tenth_212 : decode cX10_tenth 212 = .ok (.iconst 5, 1) := by decide +kernel
theorem dX10_tenth_213 : decode cX10_tenth 213 = .ok (.dup2, 1) := by decide +kernel
theorem dX10_tenth_214 : decode cX10_tenth 214 = .ok (.iaload, 1) := by decide +kernel
theorem dX10_tenth_215 : decode cX10_tenth 215 = .ok (.iconst 1, 1) := by decide +kernel
theorem dX10_tenth_216 : decode cX10_tenth 216 = .ok (.iadd, 1) := by decide +kernel
theorem dX10_tenth_217 : decode cX10_tenth 217 = .ok (.iastore, 1) := by decide +kernel
theorem dX10_tenth_218 : decode cX10_tenth 218 = .ok (.return_, 1) := by decide +kernel
set_option maxRecDepth 20000 in
theorem ggX10_runs_X10_tenth : GoodIn wsX10_runs wsX10_tenth := goodIn_r _ [10, 11, 12, 13, 14, 15, 16, 17, 18, 9, 19, 20, 21, 22, 23, 24, 25, 26, 27, 28, 29, 30, 31, 32, 33, 34, 35, 36, 37, 38, 39, 40, 41, 42, 43, 44, 45, 46, 47, 48, 49, 50, 51, 52, 53, 54, 55, 56, 57, 58, 59, 60, 61, 62, 63, 64, 65] (by decide +kernel) (by decide +kernel)
set_option maxRecDepth 20000 in
theorem gX10_runs_X10_tenth : GoodIn wsX10_runs (wsV RX10 144 RX10 yX10_tenth wsX10_tenth) := goodIn_app (goodIn_of _ (by decide +kernel)) ggX10_runs_X10_tenth
theorem dX10_runs_0 : decode cX10_runs 0 = .ok (.iconst 0, 1) := by decide +kernel
theorem dX10_runs_1 : decode cX10_runs 1 = .ok (.istore 6, 2) := by decide +kernel
theorem dX10_runs_3 : decode cX10_runs 3 = .ok (.iload 6, 2) := by decide +kernel
theorem dX10_runs_5 : decode cX10_runs 5 = .ok (.bipush 6, 2) := by decide +kernel
theorem dX10_runs_7 : decode cX10_runs 7 = .ok (.if_icmp .ge 17, 3) := by decide +kernel
theorem dX10_runs_10 : decode cX10_runs 10 = .ok (.aload_n 0, 1) := by decide +kernel
theorem dX10_runs_11 : decode cX10_runs 11 = .ok (.getfield 19, 3) := by decide +kernel
theorem dX10_runs_14 : decode cX10_runs 14 = .ok (.iload 6, 2) := by decide +kernel
theorem dX10_runs_16 : decode cX10_runs 16 = .ok (.iconst 0, 1) := by decide +kernel
theorem dX10_runs_17 : decode cX10_runs 17 = .ok (.iastore, 1) := by decide +kernel
theorem dX10_runs_18 : decode cX10_runs 18 = .ok (.iinc 6 1, 3) := by decide +kernel
theorem dX10_runs_21 : decode cX10_runs 21 = .ok (.goto (-18), 3) := by decide +kernel
theorem dX10_runs_24 : decode cX10_runs 24 = .ok (.aload_n 0, 1) := by decide +kernel
theorem dX10_runs_25 : decode cX10_runs 25 = .ok (.getfield 19, 3) := by decide +kernel
theorem dX10_runs_28 : decode cX10_runs 28 = .ok (.iconst 0, 1) := by decide +kernel
theorem dX10_runs_29 : decode cX10_runs 29 = .ok (.bipush 100, 2) := by decide +kernel
theorem dX10_runs_31 : decode cX10_runs 31 = .ok (.iload_n 1, 1) := by decide +kernel
theorem dX10_runs_32 : decode cX10_runs 32 = .ok (.imul, 1) := by decide +kernel
theorem dX10_runs_33 : decode cX10_runs 33 = .ok (.iastore, 1) := by decide +kernel
theorem dX10_runs_34 : decode cX10_runs 34 = .ok (.aload_n 0, 1) := by decide +kernel
theorem dX10_runs_35 : decode cX10_runs 35 = .ok (.iconst 0, 1) := by decide +kernel
theorem dX10_runs_36 : decode cX10_runs 36 = .ok (.putfield 135, 3) := by decide +kernel
theorem dX10_runs_39 : decode cX10_runs 39 = .ok (.aload_n 0, 1) := by decide +kernel
theorem dX10_runs_40 : decode cX10_runs 40 = .ok (.iload_n 1, 1) := by decide +kernel
theorem dX10_runs_41 : decode cX10_runs 41 = .ok (.ifCond .ne 7, 3) := by decide +kernel
theorem dX10_runs_44 : decode cX10_runs 44 = .ok (.iconst 0, 1) := by decide +kernel
theorem dX10_runs_45 : decode cX10_runs 45 = .ok (.goto 5, 3) := by decide +kernel
theorem dX10_runs_48 : decode cX10_runs 48 = .ok (.bipush (-4), 2) := by decide +kernel
theorem dX10_runs_50 : decode cX10_runs 50 = .ok (.putfield 138, 3) := by decide +kernel
theorem dX10_runs_53 : decode cX10_runs 53 = .ok (.aload_n 0, 1) := by decide +kernel
theorem dX10_runs_54 : decode cX10_runs 54 = .ok (.bipush (-4), 2) := by decide +kernel
theorem dX10_runs_56 : decode cX10_runs 56 = .ok (.putfield 141, 3) := by decide +kernel
theorem dX10_runs_59 : decode cX10_runs 59 = .ok (.aload_n 0, 1) := by decide +kernel
theorem dX10_runs_60 : decode cX10_runs 60 = .ok (.getfield 19, 3) := by decide +kernel
theorem dX10_runs_63 : decode cX10_runs 63 = .ok (.iconst 5, 1) := by decide +kernel
theorem dX10_runs_64 : decode cX10_runs 64 = .ok (.iaload, 1) := by decide +kernel
theorem dX10_runs_65 : decode cX10_runs 65 = .ok (.iload_n 3, 1) := by decide +kernel
theorem dX10_runs_66 : decode cX10_runs 66 = .ok (.if_icmp .ge 147, 3) := by decide +kernel
theorem dX10_runs_69 : decode cX10_runs 69 = .ok (.aload_n 0, 1) := by decide +kernel
theorem dX10_runs_70 : decode cX10_runs 70 = .ok (.getfield 19, 3) := by decide +kernel
theorem dX10_runs_73 : decode cX10_runs 73 = .ok (.iconst 0, 1) := by decide +kernel
theorem dX10_runs_74 : decode cX10_runs 74 = .ok (.iaload, 1) := by decide +kernel
theorem dX10_runs_75 : decode cX10_runs 75 = .ok (.ifCond .gt 12, 3) := by decide +kernel
theorem dX10_runs_78 : decode cX10_runs 78 = .ok (.aload_n 0, 1) := by decide +kernel
theorem dX10_runs_79 : decode cX10_runs 79 = .ok (.getfield 19, 3) := by decide +kernel
theorem dX10_runs_82 : decode cX10_runs 82 = .ok (.iconst 1, 1) := by decide +kernel
theorem dX10_runs_83 : decode cX10_runs 83 = .ok (.iaload, 1) := by decide +kernel
theorem dX10_runs_84 : decode cX10_runs 84 = .ok (.ifCond .le 129, 3) := by decide +kernel
theorem dX10_runs_87 : decode cX10_runs 87 = .ok (.aload_n 0, 1) := by decide +kernel
theorem dX10_runs_88 : decode cX10_runs 88 = .ok (.aload_n 0, 1) := by decide +kernel
theorem dX10_runs_89 : decode cX10_runs 89 = .ok (.getfield 19, 3) := by decide +kernel
theorem dX10_runs_92 : decode cX10_runs 92 = .ok (.iload_n 2, 1) := by decide +kernel
theorem dX10_runs_93 : decode cX10_runs 93 = .ok (.invokevirtual 144, 3) := by decide +kernel
theorem dX10_runs_96 : decode cX10_runs 96 = .ok (.aload_n 0, 1) := by decide +kernel
theorem dX10_runs_97 : decode cX10_runs 97 = .ok (.aload_n 0, 1) := by decide +kernel
theorem dX10_runs_98 : decode cX10_runs 98 = .ok (.getfield 19, 3) := by decide +kernel
theorem dX10_runs_101 : decode cX10_runs 101 = .ok (.iconst 1, 1) := by decide +kernel
theorem dX10_runs_102 : decode cX10_runs 102 = .ok (.iaload, 1) := by decide +kernel
theorem dX10_runs_103 : decode cX10_runs 103 = .ok (.aload_n 0, 1) := by decide +kernel
theorem dX10_runs_104 : decode cX10_runs 104 = .ok (.getfield 135, 3) := by decide +kernel
theorem dX10_runs_107 : decode cX10_runs 107 = .ok (.if_icmp .le 12, 3) := by decide +kernel
theorem dX10_runs_110 : decode cX10_runs 110 = .ok (.aload_n 0, 1) := by decide +kernel
theorem dX10_runs_111 : decode cX10_runs 111 = .ok (.getfield 19, 3) := by decide +kernel
theorem dX10_runs_114 : decode cX10_runs 114 = .ok (.iconst 1, 1) := by decide +kernel
theorem dX10_runs_115 : decode cX10_runs 115 = .ok (.iaload, 1) := by decide +kernel
theorem dX10_runs_116 : decode cX10_runs 116 = .ok (.goto 7, 3) := by decide +kernel
theorem dX10_runs_119 : decode cX10_runs 119 = .ok (.aload_n 0, 1) := by decide +kernel
theorem dX10_runs_120 : decode cX10_runs 120 = .ok (.getfield 135, 3) := by decide +kernel
theorem dX10_runs_123 : decode cX10_runs 123 = .ok (.putfield 135, 3) := by decide +kernel
theorem dX10_runs_126 : decode cX10_runs 126 = .ok (.aload_n 0, 1) := by decide +kernel
theorem dX10_runs_127 : decode cX10_runs 127 = .ok (.aload_n 0, 1) := by decide +kernel
theorem dX10_runs_128 : decode cX10_runs 128 = .ok (.getfield 141, 3) := by decide +kernel
theorem dX10_runs_131 : decode cX10_runs 131 = .ok (.bipush (-4), 2) := by decide +kernel
theorem dX10_runs_133 : decode cX10_runs 133 = .ok (.if_icmp .ne 23, 3) := by decide +kernel
theorem dX10_runs_136 : decode cX10_runs 136 = .ok (.aload_n 0, 1) := by decide +kernel
theorem dX10_runs_137 : decode cX10_runs 137 = .ok (.getfield 19, 3) := by decide +kernel
theorem dX10_runs_140 : decode cX10_runs 140 = .ok (.iconst 2, 1) := by decide +kernel
theorem dX10_runs_141 : decode cX10_runs 141 = .ok (.iaload, 1) := by decide +kernel
theorem dX10_runs_142 : decode cX10_runs 142 = .ok (.iload 5, 2) := by decide +kernel
theorem dX10_runs_144 : decode cX10_runs 144 = .ok (.if_icmp .lt 12, 3) := by decide +kernel
theorem dX10_runs_147 : decode cX10_runs 147 = .ok (.aload_n 0, 1) := by decide +kernel
theorem dX10_runs_148 : decode cX10_runs 148 = .ok (.getfield 19, 3) := by decide +kernel
theorem dX10_runs_151 : decode cX10_runs 151 = .ok (.iconst 5, 1) := by decide +kernel
theorem dX10_runs_152 : decode cX10_runs 152 = .ok (.iaload, 1) := by decide +kernel
theorem dX10_runs_153 : decode cX10_runs 153 = .ok (.goto 7, 3) := by decide +kernel
theorem dX10_runs_156 : decode cX10_runs 156 = .ok (.aload_n 0, 1) := by decide +kernel
theorem dX10_runs_157 : decode cX10_runs 157 = .ok (.getfield 141, 3) := by decide +kernel
theorem dX10_runs_160 : decode cX10_runs 160 = .ok (.putfield 141, 3) := by decide +kernel
theorem dX10_runs_163 : decode cX10_runs 163 = .ok (.aload_n 0, 1) := by decide +kernel
theorem dX10_runs_164 : decode cX10_runs 164 = .ok (.getfield 138, 3) := by decide +kernel
theorem dX10_runs_167 : decode cX10_runs 167 = .ok (.bipush (-4), 2) := by decide +kernel
theorem dX10_runs_169 : decode cX10_runs 169 = .ok (.if_icmp .ne (-110), 3) := by decide +kernel
theorem dX10_runs_172 : decode cX10_runs 172 = .ok (.aload_n 0, 1) := by decide +kernel
theorem dX10_runs_173 : decode cX10_runs 173 = .ok (.getfield 19, 3) := by decide +kernel
theorem dX10_runs_176 : decode cX10_runs 176 = .ok (.iconst 0, 1) := by decide +kernel
theorem dX10_runs_177 : decode cX10_runs 177 = .ok (.iaload, 1) := by decide +kernel
theorem dX10_runs_178 : decode cX10_runs 178 = .ok (.ifCond .ne (-119), 3) := by decide +kernel
theorem dX10_runs_181 : decode cX10_runs 181 = .ok (.aload_n 0, 1) := by decide +kernel
theorem dX10_runs_182 : decode cX10_runs 182 = .ok (.aload_n 0, 1) := by decide +kernel
theorem dX10_runs_183 : decode cX10_runs 183 = .ok (.getfield 19, 3) := by decide +kernel
theorem dX10_runs_186 : decode cX10_runs 186 = .ok (.iconst 5, 1) := by decide +kernel
theorem dX10_runs_187 : decode cX10_runs 187 = .ok (.iaload, 1) := by decide +kernel
theorem dX10_runs_188 : decode cX10_runs 188 = .ok (.putfield 138, 3) := by decide +kernel
theorem dX10_runs_191 : decode cX10_runs 191 = .ok (.aload_n 0, 1) := by decide +kernel
theorem dX10_runs_192 : decode cX10_runs 192 = .ok (.getfield 19, 3) := by decide +kernel
theorem dX10_runs_195 : decode cX10_runs 195 = .ok (.iconst 0, 1) := by decide +kernel
theorem dX10_runs_196 : decode cX10_runs 196 = .ok (.iload 4, 2) := by decide +kernel
theorem dX10_runs_198 : decode cX10_runs 198 = .ok (.ifCond .eq 10, 3) := by decide +kernel
theorem dX10_runs_201 : decode cX10_runs 201 = .ok (.bipush 100, 2) := by decide +kernel
theorem dX10_runs_203 : decode cX10_runs 203 = .ok (.iload_n 1, 1) := by decide +kernel
theorem dX10_runs_204 : decode cX10_runs 204 = .ok (.imul, 1) := by decide +kernel
theorem dX10_runs_205 : decode cX10_runs 205 = .ok (.goto 4, 3) := by decide +kernel
theorem dX10_runs_208 : decode cX10_runs 208 = .ok (.iconst 0, 1) := by decide +kernel
theorem dX10_runs_209 : decode cX10_runs 209 = .ok (.iastore, 1) := by decide +kernel
theorem dX10_runs_210 : decode cX10_runs 210 = .ok (.goto (-151), 3) := by decide +kernel
theorem dX10_runs_213 : decode cX10_runs 213 = .ok (.aload_n 0, 1) := by decide +kernel
theorem dX10_runs_214 : decode cX10_runs 214 = .ok (.aload_n 0, 1) := by decide +kernel
theorem dX10_runs_215 : decode cX10_runs 215 = .ok (.getfield 19, 3) := by decide +kernel
theorem dX10_runs_218 : decode cX10_runs 218 = .ok (.iconst 5, 1) := by decide +kernel
theorem dX10_runs_219 : decode cX10_runs 219 = .ok (.iaload, 1) := by decide +kernel
theorem dX10_runs_220 : decode cX10_runs 220 = .ok (.putfield 148, 3) := by decide +kernel
theorem dX10_runs_223 : decode cX10_runs 223 = .ok (.return_, 1) := by decide +kernel
set_option maxRecDepth 20000 in
theorem ggX10_placeOf_X10_runs : GoodIn wsX10_placeOf wsX10_runs := goodIn_r _ [6, 1, 7, 8, 9, 10, 11, 12, 13, 5, 14, 15, 16, 17, 18, 19, 20, 21, 22, 23, 24, 25, 26, 27, 28, 29, 30, 31, 32, 33, 34, 35, 36, 37, 38, 39, 40, 41, 42, 43, 44, 45, 46, 47, 48, 49, 50, 51, 52, 53, 54, 55, 56, 57, 58, 59, 60, 61, 62, 63, 64, 65, 66, 67, 68, 69] (by decide +kernel) (by decide +kernel)
set_option maxRecDepth 20000 in
theorem gX10_placeOf_X10_runs : GoodIn wsX10_placeOf (wsV RX10 151 RX10 yX10_runs wsX10_runs) := goodIn_app (goodIn_of _ (by decide +kernel)) ggX10_placeOf_X10_runs
theorem dX10_placeOf_0 : decode cX10_placeOf 0 = .ok (.aload_n 0, 1) := by decide +kernel
theorem dX10_placeOf_1 : decode cX10_placeOf 1 = .ok (.iload_n 1, 1) := by decide +kernel
theorem dX10_placeOf_2 : decode cX10_placeOf 2 = .ok (.iload_n 2, 1) := by decide +kernel
theorem dX10_placeOf_3 : decode cX10_placeOf 3 = .ok (.sipush 600, 3) := by decide +kernel
theorem dX10_placeOf_6 : decode cX10_placeOf 6 = .ok (.iconst 0, 1) := by decide +kernel
theorem dX10_placeOf_7 : decode cX10_placeOf 7 = .ok (.iconst 1, 1) := by decide +kernel
theorem dX10_placeOf_8 : decode cX10_placeOf 8 = .ok (.invokevirtual 151, 3) := by decide +kernel
theorem dX10_placeOf_11 : decode cX10_placeOf 11 = .ok (.aload_n 0, 1) := by decide +kernel
theorem dX10_placeOf_12 : decode cX10_placeOf 12 = .ok (.getfield 19, 3) := by decide +kernel
theorem dX10_placeOf_15 : decode cX10_placeOf 15 = .ok (.iconst 2, 1) := by decide +kernel
theorem dX10_placeOf_16 : decode cX10_placeOf 16 = .ok (.iaload, 1) := by decide +kernel
theorem dX10_placeOf_17 : decode cX10_placeOf 17 = .ok (.ireturn, 1) := by decide +kernel
set_option maxRecDepth 20000 in
theorem ggX10_areTurns_X10_in : GoodIn wsX10_areTurns wsX10_in := goodIn_r _ [4] (by decide +kernel) (by decide +kernel)
set_option maxRecDepth 20000 in
theorem gX10_areTurns_X10_in : GoodIn wsX10_areTurns (va_wsS RX10 45 yX10_in wsX10_in) := goodIn_app (goodIn_of _ (by decide +kernel)) ggX10_areTurns_X10_in
theorem dX10_areTurns_0 : decode cX10_areTurns 0 = .ok (.iload_n 0, 1) := by decide +kernel
theorem dX10_areTurns_1 : decode cX10_areTurns 1 = .ok (.iconst 0, 1) := by decide +kernel
theorem dX10_areTurns_2 : decode cX10_areTurns 2 = .ok (.sipush 400, 3) := by decide +kernel
theorem dX10_areTurns_5 : decode cX10_areTurns 5 = .ok (.invokestatic 45, 3) := by decide +kernel
theorem dX10_areTurns_8 : decode cX10_areTurns 8 = .ok (.ireturn, 1) := by decide +kernel
set_option maxRecDepth 20000 in
theorem ggX10_isWind_X10_in : GoodIn wsX10_isWind wsX10_in := goodIn_r _ [4] (by decide +kernel) (by decide +kernel)
set_option maxRecDepth 20000 in
theorem gX10_isWind_X10_in : GoodIn wsX10_isWind (va_wsS RX10 45 yX10_in wsX10_in) := goodIn_app (goodIn_of _ (by decide +kernel)) ggX10_isWind_X10_in
theorem dX10_isWind_0 : decode cX10_isWind 0 = .ok (.iload_n 0, 1) := by decide +kernel
theorem dX10_isWind_1 : decode cX10_isWind 1 = .ok (.iconst (-1), 1) := by decide +kernel
theorem dX10_isWind_2 : decode cX10_isWind 2 = .ok (.sipush 9999, 3) := by decide +kernel
theorem dX10_isWind_5 : decode cX10_isWind 5 = .ok (.invokestatic 45, 3) := by decide +kernel
theorem dX10_isWind_8 : decode cX10_isWind 8 = .ok (.ireturn, 1) := by decide +kernel
set_option maxRecDepth 20000 in
theorem ggX10_run_X10_areTurns : GoodIn wsX10_run wsX10_areTurns := goodIn_r _ [10, 11, 12, 9, 13] (by decide +kernel) (by decide +kernel)
set_option maxRecDepth 20000 in
theorem gX10_run_X10_areTurns : GoodIn wsX10_run (va_wsS RX10 155 yX10_areTurns wsX10_areTurns) := goodIn_app (goodIn_of _ (by decide +kernel)) ggX10_run_X10_areTurns
set_option maxRecDepth 20000 in
theorem ggX10_run_X10_isWind : GoodIn wsX10_run wsX10_isWind := goodIn_r _ [16, 11, 12, 9, 13] (by decide +kernel) (by decide +kernel)
set_option maxRecDepth 20000 in
theorem gX10_run_X10_isWind : GoodIn wsX10_run (va_wsS RX10 159 yX10_isWind wsX10_isWind) := goodIn_app (goodIn_of _ (by decide +kernel)) ggX10_run_X10_isWind
set_option maxRecDepth 20000 in
theorem ggX10_run_X10_in : GoodIn wsX10_run wsX10_in := goodIn_r _ [13] (by decide +kernel) (by decide +kernel)
set_option maxRecDepth 20000 in
theorem gX10_run_X10_in : GoodIn wsX10_run (va_wsS RX10 45 yX10_in wsX10_in) := goodIn_app (goodIn_of _ (by decide +kernel)) ggX10_run_X10_in
set_option maxRecDepth 20000 in
theorem ggX10_run_X10_asItIs : GoodIn wsX10_run wsX10_asItIs := goodIn_r _ [20, 21, 22, 23, 24, 25, 26, 27, 28, 58, 59, 60, 61, 62, 63, 64, 65, 66, 67, 68, 69, 70, 71, 72, 73, 74, 75, 76, 77, 78, 79, 80, 81, 82, 83, 84] (by decide +kernel) (by decide +kernel)
set_option maxRecDepth 20000 in
theorem gX10_run_X10_asItIs : GoodIn wsX10_run (wsV RX10 114 RX10 yX10_asItIs wsX10_asItIs) := goodIn_app (goodIn_of _ (by decide +kernel)) ggX10_run_X10_asItIs
set_option maxRecDepth 20000 in
theorem ggX10_run_X10_runs : GoodIn wsX10_run wsX10_runs := goodIn_r _ [32, 3, 4, 6, 33, 2, 34, 35, 36, 9, 37, 27, 21, 28, 38, 39, 40, 41, 42, 43, 23, 44, 45, 46, 47, 22, 25, 26, 24, 48, 49, 50, 51, 52, 53, 54, 55, 56, 57, 58, 59, 60, 61, 62, 63, 64, 65, 66, 67, 68, 69, 70, 71, 72, 73, 74, 75, 76, 77, 78, 79, 80, 81, 82, 83, 84] (by decide +kernel) (by decide +kernel)
set_option maxRecDepth 20000 in
theorem gX10_run_X10_runs : GoodIn wsX10_run (wsV RX10 151 RX10 yX10_runs wsX10_runs) := goodIn_app (goodIn_of _ (by decide +kernel)) ggX10_run_X10_runs
theorem dX10_run_0 : decode cX10_run 0 = .ok (.aload_n 0, 1) := by decide +kernel
theorem dX10_run_1 : decode cX10_run 1 = .ok (.iconst 0, 1) := by decide +kernel
theorem dX10_run_2 : decode cX10_run 2 = .ok (.putfield 41, 3) := by decide +kernel
theorem dX10_run_5 : decode cX10_run 5 = .ok (.iload_n 1, 1) := by decide +kernel
theorem dX10_run_6 : decode cX10_run 6 = .ok (.invokestatic 155, 3) := by decide +kernel
theorem dX10_run_9 : decode cX10_run 9 = .ok (.ifCond .eq 19, 3) := by decide +kernel
theorem dX10_run_12 : decode cX10_run 12 = .ok (.iload_n 2, 1) := by decide +kernel
theorem dX10_run_13 : decode cX10_run 13 = .ok (.invokestatic 159, 3) := by decide +kernel
theorem dX10_run_16 : decode cX10_run 16 = .ok (.ifCond .eq 12, 3) := by decide +kernel
theorem dX10_run_19 : decode cX10_run 19 = .ok (.iload_n 3, 1) := by decide +kernel
theorem dX10_run_20 : decode cX10_run 20 = .ok (.iconst 0, 1) := by decide +kernel
theorem dX10_run_21 : decode cX10_run 21 = .ok (.iconst 4, 1) := by decide +kernel
theorem dX10_run_22 : decode cX10_run 22 = .ok (.invokestatic 45, 3) := by decide +kernel
theorem dX10_run_25 : decode cX10_run 25 = .ok (.ifCond .ne 5, 3) := by decide +kernel
theorem dX10_run_28 : decode cX10_run 28 = .ok (.iconst (-1), 1) := by decide +kernel
theorem dX10_run_29 : decode cX10_run 29 = .ok (.ireturn, 1) := by decide +kernel
theorem dX10_run_30 : decode cX10_run 30 = .ok (.aload_n 0, 1) := by decide +kernel
theorem dX10_run_31 : decode cX10_run 31 = .ok (.invokevirtual 114, 3) := by decide +kernel
theorem dX10_run_34 : decode cX10_run 34 = .ok (.aload_n 0, 1) := by decide +kernel
theorem dX10_run_35 : decode cX10_run 35 = .ok (.iload_n 1, 1) := by decide +kernel
theorem dX10_run_36 : decode cX10_run 36 = .ok (.iload_n 2, 1) := by decide +kernel
theorem dX10_run_37 : decode cX10_run 37 = .ok (.sipush 600, 3) := by decide +kernel
theorem dX10_run_40 : decode cX10_run 40 = .ok (.iconst 0, 1) := by decide +kernel
theorem dX10_run_41 : decode cX10_run 41 = .ok (.iconst 1, 1) := by decide +kernel
theorem dX10_run_42 : decode cX10_run 42 = .ok (.invokevirtual 151, 3) := by decide +kernel
theorem dX10_run_45 : decode cX10_run 45 = .ok (.iload_n 3, 1) := by decide +kernel
theorem dX10_run_46 : decode cX10_run 46 = .ok (.ifCond .ne 10, 3) := by decide +kernel
theorem dX10_run_49 : decode cX10_run 49 = .ok (.aload_n 0, 1) := by decide +kernel
theorem dX10_run_50 : decode cX10_run 50 = .ok (.getfield 148, 3) := by decide +kernel
theorem dX10_run_53 : decode cX10_run 53 = .ok (.goto 50, 3) := by decide +kernel
theorem dX10_run_56 : decode cX10_run 56 = .ok (.iload_n 3, 1) := by decide +kernel
theorem dX10_run_57 : decode cX10_run 57 = .ok (.iconst 1, 1) := by decide +kernel
theorem dX10_run_58 : decode cX10_run 58 = .ok (.if_icmp .ne 12, 3) := by decide +kernel
theorem dX10_run_61 : decode cX10_run 61 = .ok (.aload_n 0, 1) := by decide +kernel
theorem dX10_run_62 : decode cX10_run 62 = .ok (.getfield 19, 3) := by decide +kernel
theorem dX10_run_65 : decode cX10_run 65 = .ok (.iconst 2, 1) := by decide +kernel
theorem dX10_run_66 : decode cX10_run 66 = .ok (.iaload, 1) := by decide +kernel
theorem dX10_run_67 : decode cX10_run 67 = .ok (.goto 36, 3) := by decide +kernel
theorem dX10_run_70 : decode cX10_run 70 = .ok (.iload_n 3, 1) := by decide +kernel
theorem dX10_run_71 : decode cX10_run 71 = .ok (.iconst 2, 1) := by decide +kernel
theorem dX10_run_72 : decode cX10_run 72 = .ok (.if_icmp .ne 10, 3) := by decide +kernel
theorem dX10_run_75 : decode cX10_run 75 = .ok (.aload_n 0, 1) := by decide +kernel
theorem dX10_run_76 : decode cX10_run 76 = .ok (.getfield 135, 3) := by decide +kernel
theorem dX10_run_79 : decode cX10_run 79 = .ok (.goto 24, 3) := by decide +kernel
theorem dX10_run_82 : decode cX10_run 82 = .ok (.iload_n 3, 1) := by decide +kernel
theorem dX10_run_83 : decode cX10_run 83 = .ok (.iconst 3, 1) := by decide +kernel
theorem dX10_run_84 : decode cX10_run 84 = .ok (.if_icmp .ne 15, 3) := by decide +kernel
theorem dX10_run_87 : decode cX10_run 87 = .ok (.aload_n 0, 1) := by decide +kernel
theorem dX10_run_88 : decode cX10_run 88 = .ok (.getfield 19, 3) := by decide +kernel
theorem dX10_run_91 : decode cX10_run 91 = .ok (.iconst 4, 1) := by decide +kernel
theorem dX10_run_92 : decode cX10_run 92 = .ok (.iaload, 1) := by decide +kernel
theorem dX10_run_93 : decode cX10_run 93 = .ok (.ldc 162, 2) := by decide +kernel
theorem dX10_run_95 : decode cX10_run 95 = .ok (.iadd, 1) := by decide +kernel
theorem dX10_run_96 : decode cX10_run 96 = .ok (.goto 7, 3) := by decide +kernel
theorem dX10_run_99 : decode cX10_run 99 = .ok (.aload_n 0, 1) := by decide +kernel
theorem dX10_run_100 : decode cX10_run 100 = .ok (.getfield 138, 3) := by decide +kernel
theorem dX10_run_103 : decode cX10_run 103 = .ok (.ireturn, 1) := by decide +kernel
set_option maxRecDepth 20000 in
theorem ggX10_when_X10_areTurns : GoodIn wsX10_when wsX10_areTurns := goodIn_r _ [7, 8, 9, 6, 10] (by decide +kernel) (by decide +kernel)
set_option maxRecDepth 20000 in
theorem gX10_when_X10_areTurns : GoodIn wsX10_when (va_wsS RX10 155 yX10_areTurns wsX10_areTurns) := goodIn_app (goodIn_of _ (by decide +kernel)) ggX10_when_X10_areTurns
set_option maxRecDepth 20000 in
theorem ggX10_when_X10_isWind : GoodIn wsX10_when wsX10_isWind := goodIn_r _ [13, 8, 9, 6, 10] (by decide +kernel) (by decide +kernel)
set_option maxRecDepth 20000 in
theorem gX10_when_X10_isWind : GoodIn wsX10_when (va_wsS RX10 159 yX10_isWind wsX10_isWind) := goodIn_app (goodIn_of _ (by decide +kernel)) ggX10_when_X10_isWind
set_option maxRecDepth 20000 in
theorem ggX10_when_X10_in : GoodIn wsX10_when wsX10_in := goodIn_r _ [10] (by decide +kernel) (by decide +kernel)
set_option maxRecDepth 20000 in
theorem gX10_when_X10_in : GoodIn wsX10_when (va_wsS RX10 45 yX10_in wsX10_in) := goodIn_app (goodIn_of _ (by decide +kernel)) ggX10_when_X10_in
set_option maxRecDepth 20000 in
theorem ggX10_when_X10_asItIs : GoodIn wsX10_when wsX10_asItIs := goodIn_r _ [17, 18, 19, 20, 21, 22, 23, 24, 25, 58, 59, 60, 61, 62, 63, 64, 65, 66, 67, 68, 69, 70, 71, 72, 73, 74, 75, 76, 77, 78, 79, 80, 81, 82, 83, 84] (by decide +kernel) (by decide +kernel)
set_option maxRecDepth 20000 in
theorem gX10_when_X10_asItIs : GoodIn wsX10_when (wsV RX10 114 RX10 yX10_asItIs wsX10_asItIs) := goodIn_app (goodIn_of _ (by decide +kernel)) ggX10_when_X10_asItIs
set_option maxRecDepth 20000 in
theorem ggX10_when_X10_runs : GoodIn wsX10_when wsX10_runs := goodIn_r _ [29, 30, 31, 32, 3, 33, 34, 35, 36, 6, 37, 24, 18, 25, 38, 39, 40, 41, 42, 43, 20, 44, 45, 46, 47, 19, 22, 23, 21, 48, 49, 50, 51, 52, 53, 54, 55, 56, 57, 58, 59, 60, 61, 62, 63, 64, 65, 66, 67, 68, 69, 70, 71, 72, 73, 74, 75, 76, 77, 78, 79, 80, 81, 82, 83, 84] (by decide +kernel) (by decide +kernel)
set_option maxRecDepth 20000 in
theorem gX10_when_X10_runs : GoodIn wsX10_when (wsV RX10 151 RX10 yX10_runs wsX10_runs) := goodIn_app (goodIn_of _ (by decide +kernel)) ggX10_when_X10_runs
theorem dX10_when_0 : decode cX10_when 0 = .ok (.aload_n 0, 1) := by decide +kernel
theorem dX10_when_1 : decode cX10_when 1 = .ok (.iconst 0, 1) := by decide +kernel
theorem dX10_when_2 : decode cX10_when 2 = .ok (.putfield 41, 3) := by decide +kernel
theorem dX10_when_5 : decode cX10_when 5 = .ok (.iload_n 1, 1) := by decide +kernel
theorem dX10_when_6 : decode cX10_when 6 = .ok (.invokestatic 155, 3) := by decide +kernel
theorem dX10_when_9 : decode cX10_when 9 = .ok (.ifCond .eq 20, 3) := by decide +kernel
theorem dX10_when_12 : decode cX10_when 12 = .ok (.iload_n 2, 1) := by decide +kernel
theorem dX10_when_13 : decode cX10_when 13 = .ok (.invokestatic 159, 3) := by decide +kernel
theorem dX10_when_16 : decode cX10_when 16 = .ok (.ifCond .eq 13, 3) := by decide +kernel
theorem dX10_when_19 : decode cX10_when 19 = .ok (.iload_n 3, 1) := by decide +kernel
theorem dX10_when_20 : decode cX10_when 20 = .ok (.iconst 1, 1) := by decide +kernel
theorem dX10_when_21 : decode cX10_when 21 = .ok (.ldc 163, 2) := by decide +kernel
theorem dX10_when_23 : decode cX10_when 23 = .ok (.invokestatic 45, 3) := by decide +kernel
theorem dX10_when_26 : decode cX10_when 26 = .ok (.ifCond .ne 5, 3) := by decide +kernel
theorem dX10_when_29 : decode cX10_when 29 = .ok (.iconst (-1), 1) := by decide +kernel
theorem dX10_when_30 : decode cX10_when 30 = .ok (.ireturn, 1) := by decide +kernel
theorem dX10_when_31 : decode cX10_when 31 = .ok (.aload_n 0, 1) := by decide +kernel
theorem dX10_when_32 : decode cX10_when 32 = .ok (.invokevirtual 114, 3) := by decide +kernel
theorem dX10_when_35 : decode cX10_when 35 = .ok (.aload_n 0, 1) := by decide +kernel
theorem dX10_when_36 : decode cX10_when 36 = .ok (.iload_n 1, 1) := by decide +kernel
theorem dX10_when_37 : decode cX10_when 37 = .ok (.iload_n 2, 1) := by decide +kernel
theorem dX10_when_38 : decode cX10_when 38 = .ok (.sipush 600, 3) := by decide +kernel
theorem dX10_when_41 : decode cX10_when 41 = .ok (.iconst 0, 1) := by decide +kernel
theorem dX10_when_42 : decode cX10_when 42 = .ok (.iload_n 3, 1) := by decide +kernel
theorem dX10_when_43 : decode cX10_when 43 = .ok (.invokevirtual 151, 3) := by decide +kernel
theorem dX10_when_46 : decode cX10_when 46 = .ok (.aload_n 0, 1) := by decide +kernel
theorem dX10_when_47 : decode cX10_when 47 = .ok (.getfield 141, 3) := by decide +kernel
theorem dX10_when_50 : decode cX10_when 50 = .ok (.ireturn, 1) := by decide +kernel
set_option maxRecDepth 20000 in
theorem ggX10_lost_X10_areTurns : GoodIn wsX10_lost wsX10_areTurns := goodIn_r _ [6, 7, 8, 5, 9] (by decide +kernel) (by decide +kernel)
set_option maxRecDepth 20000 in
theorem gX10_lost_X10_areTurns : GoodIn wsX10_lost (va_wsS RX10 155 yX10_areTurns wsX10_areTurns) := goodIn_app (goodIn_of _ (by decide +kernel)) ggX10_lost_X10_areTurns
set_option maxRecDepth 20000 in
theorem ggX10_lost_X10_in : GoodIn wsX10_lost wsX10_in := goodIn_r _ [9] (by decide +kernel) (by decide +kernel)
set_option maxRecDepth 20000 in
theorem gX10_lost_X10_in : GoodIn wsX10_lost (va_wsS RX10 45 yX10_in wsX10_in) := goodIn_app (goodIn_of _ (by decide +kernel)) ggX10_lost_X10_in
set_option maxRecDepth 20000 in
theorem ggX10_lost_X10_asItIs : GoodIn wsX10_lost wsX10_asItIs := goodIn_r _ [13, 14, 15, 16, 17, 18, 19, 20, 21, 30, 31, 32, 33, 34, 35, 36, 37, 38, 39, 40, 41, 42, 43, 44, 45, 46, 47, 48, 49, 50, 51, 52, 53, 54, 55, 56] (by decide +kernel) (by decide +kernel)
set_option maxRecDepth 20000 in
theorem gX10_lost_X10_asItIs : GoodIn wsX10_lost (wsV RX10 114 RX10 yX10_asItIs wsX10_asItIs) := goodIn_app (goodIn_of _ (by decide +kernel)) ggX10_lost_X10_asItIs
set_option maxRecDepth 20000 in
theorem ggX10_lost_X10_woundPull : GoodIn wsX10_lost wsX10_woundPull := goodIn_r _ [25, 15, 18, 19, 17, 14, 30, 31, 32, 33, 34, 35, 36, 37, 38, 39, 40, 41, 42, 43, 44, 45, 46, 47, 48, 49, 50, 51, 52, 53, 54, 55, 56] (by decide +kernel) (by decide +kernel)
set_option maxRecDepth 20000 in
theorem gX10_lost_X10_woundPull : GoodIn wsX10_lost (wsV RX10 110 RX10 yX10_woundPull wsX10_woundPull) := goodIn_app (goodIn_of _ (by decide +kernel)) ggX10_lost_X10_woundPull
set_option maxRecDepth 20000 in
theorem ggX10_lost_X10_freePull : GoodIn wsX10_lost wsX10_freePull := goodIn_r _ [29, 16, 14, 22, 23, 24, 5, 25, 15, 18, 19, 17, 30, 31, 32, 33, 34, 35, 36, 37, 38, 39, 40, 41, 42, 43, 44, 45, 46, 47, 48, 49, 50, 51, 52, 53, 54, 55, 56] (by decide +kernel) (by decide +kernel)
set_option maxRecDepth 20000 in
theorem gX10_lost_X10_freePull : GoodIn wsX10_lost (wsV RX10 117 RX10 yX10_freePull wsX10_freePull) := goodIn_app (goodIn_of _ (by decide +kernel)) ggX10_lost_X10_freePull
theorem dX10_lost_0 : decode cX10_lost 0 = .ok (.aload_n 0, 1) := by decide +kernel
theorem dX10_lost_1 : decode cX10_lost 1 = .ok (.iconst 0, 1) := by decide +kernel
theorem dX10_lost_2 : decode cX10_lost 2 = .ok (.putfield 41, 3) := by decide +kernel
theorem dX10_lost_5 : decode cX10_lost 5 = .ok (.iload_n 1, 1) := by decide +kernel
theorem dX10_lost_6 : decode cX10_lost 6 = .ok (.invokestatic 155, 3) := by decide +kernel
theorem dX10_lost_9 : decode cX10_lost 9 = .ok (.ifCond .eq 12, 3) := by decide +kernel
theorem dX10_lost_12 : decode cX10_lost 12 = .ok (.iload_n 2, 1) := by decide +kernel
theorem dX10_lost_13 : decode cX10_lost 13 = .ok (.iconst 0, 1) := by decide +kernel
theorem dX10_lost_14 : decode cX10_lost 14 = .ok (.iconst 1, 1) := by decide +kernel
theorem dX10_lost_15 : decode cX10_lost 15 = .ok (.invokestatic 45, 3) := by decide +kernel
theorem dX10_lost_18 : decode cX10_lost 18 = .ok (.ifCond .ne 7, 3) := by decide +kernel
theorem dX10_lost_21 : decode cX10_lost 21 = .ok (.ldc2_w 164, 3) := by decide +kernel
theorem dX10_lost_24 : decode cX10_lost 24 = .ok (.lreturn, 1) := by decide +kernel
theorem dX10_lost_25 : decode cX10_lost 25 = .ok (.aload_n 0, 1) := by decide +kernel
theorem dX10_lost_26 : decode cX10_lost 26 = .ok (.invokevirtual 114, 3) := by decide +kernel
theorem dX10_lost_29 : decode cX10_lost 29 = .ok (.lconst 0, 1) := by decide +kernel
theorem dX10_lost_30 : decode cX10_lost 30 = .ok (.lstore_n 3, 1) := by decide +kernel
theorem dX10_lost_31 : decode cX10_lost 31 = .ok (.lconst 0, 1) := by decide +kernel
theorem dX10_lost_32 : decode cX10_lost 32 = .ok (.lstore 5, 2) := by decide +kernel
theorem dX10_lost_34 : decode cX10_lost 34 = .ok (.iconst 1, 1) := by decide +kernel
theorem dX10_lost_35 : decode cX10_lost 35 = .ok (.istore 7, 2) := by decide +kernel
theorem dX10_lost_37 : decode cX10_lost 37 = .ok (.iload 7, 2) := by decide +kernel
theorem dX10_lost_39 : decode cX10_lost 39 = .ok (.iload_n 1, 1) := by decide +kernel
theorem dX10_lost_40 : decode cX10_lost 40 = .ok (.if_icmp .gt 44, 3) := by decide +kernel
theorem dX10_lost_43 : decode cX10_lost 43 = .ok (.aload_n 0, 1) := by decide +kernel
theorem dX10_lost_44 : decode cX10_lost 44 = .ok (.bipush 100, 2) := by decide +kernel
theorem dX10_lost_46 : decode cX10_lost 46 = .ok (.iload 7, 2) := by decide +kernel
theorem dX10_lost_48 : decode cX10_lost 48 = .ok (.imul, 1) := by decide +kernel
theorem dX10_lost_49 : decode cX10_lost 49 = .ok (.invokevirtual 110, 3) := by decide +kernel
theorem dX10_lost_52 : decode cX10_lost 52 = .ok (.istore 8, 2) := by decide +kernel
theorem dX10_lost_54 : decode cX10_lost 54 = .ok (.lload 5, 2) := by decide +kernel
theorem dX10_lost_56 : decode cX10_lost 56 = .ok (.iload 8, 2) := by decide +kernel
theorem dX10_lost_58 : decode cX10_lost 58 = .ok (.i2l, 1) := by decide +kernel
theorem dX10_lost_59 : decode cX10_lost 59 = .ok (.ladd, 1) := by decide +kernel
theorem dX10_lost_60 : decode cX10_lost 60 = .ok (.lstore 5, 2) := by decide +kernel
theorem dX10_lost_62 : decode cX10_lost 62 = .ok (.lload_n 3, 1) := by decide +kernel
theorem dX10_lost_63 : decode cX10_lost 63 = .ok (.iload 8, 2) := by decide +kernel
theorem dX10_lost_65 : decode cX10_lost 65 = .ok (.aload_n 0, 1) := by decide +kernel
theorem dX10_lost_66 : decode cX10_lost 66 = .ok (.bipush 100, 2) := by decide +kernel
theorem dX10_lost_68 : decode cX10_lost 68 = .ok (.iload 7, 2) := by decide +kernel
theorem dX10_lost_70 : decode cX10_lost 70 = .ok (.imul, 1) := by decide +kernel
theorem dX10_lost_71 : decode cX10_lost 71 = .ok (.invokevirtual 117, 3) := by decide +kernel
theorem dX10_lost_74 : decode cX10_lost 74 = .ok (.isub, 1) := by decide +kernel
theorem dX10_lost_75 : decode cX10_lost 75 = .ok (.i2l, 1) := by decide +kernel
theorem dX10_lost_76 : decode cX10_lost 76 = .ok (.ladd, 1) := by decide +kernel
theorem dX10_lost_77 : decode cX10_lost 77 = .ok (.lstore_n 3, 1) := by decide +kernel
theorem dX10_lost_78 : decode cX10_lost 78 = .ok (.iinc 7 1, 3) := by decide +kernel
theorem dX10_lost_81 : decode cX10_lost 81 = .ok (.goto (-44), 3) := by decide +kernel
theorem dX10_lost_84 : decode cX10_lost 84 = .ok (.iload_n 2, 1) := by decide +kernel
theorem dX10_lost_85 : decode cX10_lost 85 = .ok (.ifCond .ne 7, 3) := by decide +kernel
theorem dX10_lost_88 : decode cX10_lost 88 = .ok (.lload_n 3, 1) := by decide +kernel
theorem dX10_lost_89 : decode cX10_lost 89 = .ok (.goto 5, 3) := by decide +kernel
theorem dX10_lost_92 : decode cX10_lost 92 = .ok (.lload 5, 2) := by decide +kernel
theorem dX10_lost_94 : decode cX10_lost 94 = .ok (.lreturn, 1) := by decide +kernel
theorem dX10_snapOf_0 : decode cX10_snapOf 0 = .ok (.bipush 10, 2) := by decide +kernel
theorem dX10_snapOf_2 : decode cX10_snapOf 2 = .ok (.aload_n 0, 1) := by decide +kernel
theorem dX10_snapOf_3 : decode cX10_snapOf 3 = .ok (.getfield 13, 3) := by decide +kernel
theorem dX10_snapOf_6 : decode cX10_snapOf 6 = .ok (.iconst 4, 1) := by decide +kernel
theorem dX10_snapOf_7 : decode cX10_snapOf 7 = .ok (.aload_n 0, 1) := by decide +kernel
theorem dX10_snapOf_8 : decode cX10_snapOf 8 = .ok (.getfield 13, 3) := by decide +kernel
theorem dX10_snapOf_11 : decode cX10_snapOf 11 = .ok (.bipush 16, 2) := by decide +kernel
theorem dX10_snapOf_13 : decode cX10_snapOf 13 = .ok (.iaload, 1) := by decide +kernel
theorem dX10_snapOf_14 : decode cX10_snapOf 14 = .ok (.imul, 1) := by decide +kernel
theorem dX10_snapOf_15 : decode cX10_snapOf 15 = .ok (.iconst 3, 1) := by decide +kernel
theorem dX10_snapOf_16 : decode cX10_snapOf 16 = .ok (.iadd, 1) := by decide +kernel
theorem dX10_snapOf_17 : decode cX10_snapOf 17 = .ok (.iaload, 1) := by decide +kernel
theorem dX10_snapOf_18 : decode cX10_snapOf 18 = .ok (.imul, 1) := by decide +kernel
theorem dX10_snapOf_19 : decode cX10_snapOf 19 = .ok (.aload_n 0, 1) := by decide +kernel
theorem dX10_snapOf_20 : decode cX10_snapOf 20 = .ok (.getfield 13, 3) := by decide +kernel
theorem dX10_snapOf_23 : decode cX10_snapOf 23 = .ok (.bipush 18, 2) := by decide +kernel
theorem dX10_snapOf_25 : decode cX10_snapOf 25 = .ok (.iaload, 1) := by decide +kernel
theorem dX10_snapOf_26 : decode cX10_snapOf 26 = .ok (.imul, 1) := by decide +kernel
theorem dX10_snapOf_27 : decode cX10_snapOf 27 = .ok (.aload_n 0, 1) := by decide +kernel
theorem dX10_snapOf_28 : decode cX10_snapOf 28 = .ok (.getfield 13, 3) := by decide +kernel
theorem dX10_snapOf_31 : decode cX10_snapOf 31 = .ok (.bipush 17, 2) := by decide +kernel
theorem dX10_snapOf_33 : decode cX10_snapOf 33 = .ok (.iaload, 1) := by decide +kernel
theorem dX10_snapOf_34 : decode cX10_snapOf 34 = .ok (.idiv, 1) := by decide +kernel
theorem dX10_snapOf_35 : decode cX10_snapOf 35 = .ok (.istore_n 2, 1) := by decide +kernel
theorem dX10_snapOf_36 : decode cX10_snapOf 36 = .ok (.bipush 100, 2) := by decide +kernel
theorem dX10_snapOf_38 : decode cX10_snapOf 38 = .ok (.iload_n 1, 1) := by decide +kernel
theorem dX10_snapOf_39 : decode cX10_snapOf 39 = .ok (.imul, 1) := by decide +kernel
theorem dX10_snapOf_40 : decode cX10_snapOf 40 = .ok (.iload_n 2, 1) := by decide +kernel
theorem dX10_snapOf_41 : decode cX10_snapOf 41 = .ok (.if_icmp .gt 5, 3) := by decide +kernel
theorem dX10_snapOf_44 : decode cX10_snapOf 44 = .ok (.iconst 0, 1) := by decide +kernel
theorem dX10_snapOf_45 : decode cX10_snapOf 45 = .ok (.ireturn, 1) := by decide +kernel
theorem dX10_snapOf_46 : decode cX10_snapOf 46 = .ok (.bipush 100, 2) := by decide +kernel
theorem dX10_snapOf_48 : decode cX10_snapOf 48 = .ok (.iload_n 1, 1) := by decide +kernel
theorem dX10_snapOf_49 : decode cX10_snapOf 49 = .ok (.imul, 1) := by decide +kernel
theorem dX10_snapOf_50 : decode cX10_snapOf 50 = .ok (.iload_n 2, 1) := by decide +kernel
theorem dX10_snapOf_51 : decode cX10_snapOf 51 = .ok (.isub, 1) := by decide +kernel
theorem dX10_snapOf_52 : decode cX10_snapOf 52 = .ok (.bipush 10, 2) := by decide +kernel
theorem dX10_snapOf_54 : decode cX10_snapOf 54 = .ok (.idiv, 1) := by decide +kernel
theorem dX10_snapOf_55 : decode cX10_snapOf 55 = .ok (.iconst 5, 1) := by decide +kernel
theorem dX10_snapOf_56 : decode cX10_snapOf 56 = .ok (.aload_n 0, 1) := by decide +kernel
theorem dX10_snapOf_57 : decode cX10_snapOf 57 = .ok (.getfield 13, 3) := by decide +kernel
theorem dX10_snapOf_60 : decode cX10_snapOf 60 = .ok (.bipush 26, 2) := by decide +kernel
theorem dX10_snapOf_62 : decode cX10_snapOf 62 = .ok (.iaload, 1) := by decide +kernel
theorem dX10_snapOf_63 : decode cX10_snapOf 63 = .ok (.imul, 1) := by decide +kernel
theorem dX10_snapOf_64 : decode cX10_snapOf 64 = .ok (.iadd, 1) := by decide +kernel
theorem dX10_snapOf_65 : decode cX10_snapOf 65 = .ok (.istore_n 3, 1) := by decide +kernel
theorem dX10_snapOf_66 : decode cX10_snapOf 66 = .ok (.iload_n 3, 1) := by decide +kernel
theorem dX10_snapOf_67 : decode cX10_snapOf 67 = .ok (.sipush 1000, 3) := by decide +kernel
theorem dX10_snapOf_70 : decode cX10_snapOf 70 = .ok (.if_icmp .le 9, 3) := by decide +kernel
theorem dX10_snapOf_73 : decode cX10_snapOf 73 = .ok (.sipush 1000, 3) := by decide +kernel
theorem dX10_snapOf_76 : decode cX10_snapOf 76 = .ok (.goto 4, 3) := by decide +kernel
theorem dX10_snapOf_79 : decode cX10_snapOf 79 = .ok (.iload_n 3, 1) := by decide +kernel
theorem dX10_snapOf_80 : decode cX10_snapOf 80 = .ok (.ireturn, 1) := by decide +kernel
set_option maxRecDepth 20000 in
theorem ggX10_snap_X10_areTurns : GoodIn wsX10_snap wsX10_areTurns := goodIn_r _ [5, 6, 7, 4, 8] (by decide +kernel) (by decide +kernel)
set_option maxRecDepth 20000 in
theorem gX10_snap_X10_areTurns : GoodIn wsX10_snap (va_wsS RX10 155 yX10_areTurns wsX10_areTurns) := goodIn_app (goodIn_of _ (by decide +kernel)) ggX10_snap_X10_areTurns
set_option maxRecDepth 20000 in
theorem ggX10_snap_X10_snapOf : GoodIn wsX10_snap wsX10_snapOf := goodIn_r _ [12, 13, 14, 15, 16, 17, 18, 19, 20, 21, 22, 23, 24, 25, 26, 27, 28, 29, 30, 31, 32, 33, 34, 35, 36, 37, 38, 39, 40] (by decide +kernel) (by decide +kernel)
set_option maxRecDepth 20000 in
theorem gX10_snap_X10_snapOf : GoodIn wsX10_snap (wsV RX10 166 RX10 yX10_snapOf wsX10_snapOf) := goodIn_app (goodIn_of _ (by decide +kernel)) ggX10_snap_X10_snapOf
theorem dX10_snap_0 : decode cX10_snap 0 = .ok (.aload_n 0, 1) := by decide +kernel
theorem dX10_snap_1 : decode cX10_snap 1 = .ok (.iconst 0, 1) := by decide +kernel
theorem dX10_snap_2 : decode cX10_snap 2 = .ok (.putfield 41, 3) := by decide +kernel
theorem dX10_snap_5 : decode cX10_snap 5 = .ok (.iload_n 1, 1) := by decide +kernel
theorem dX10_snap_6 : decode cX10_snap 6 = .ok (.invokestatic 155, 3) := by decide +kernel
theorem dX10_snap_9 : decode cX10_snap 9 = .ok (.ifCond .eq 11, 3) := by decide +kernel
theorem dX10_snap_12 : decode cX10_snap 12 = .ok (.aload_n 0, 1) := by decide +kernel
theorem dX10_snap_13 : decode cX10_snap 13 = .ok (.iload_n 1, 1) := by decide +kernel
theorem dX10_snap_14 : decode cX10_snap 14 = .ok (.invokevirtual 166, 3) := by decide +kernel
theorem dX10_snap_17 : decode cX10_snap 17 = .ok (.goto 4, 3) := by decide +kernel
theorem dX10_snap_20 : decode cX10_snap 20 = .ok (.iconst (-1), 1) := by decide +kernel
theorem dX10_snap_21 : decode cX10_snap 21 = .ok (.ireturn, 1) := by decide +kernel
set_option maxRecDepth 20000 in
theorem ggX10_wise_X10_asItIs : GoodIn wsX10_wise wsX10_asItIs := goodIn_r _ [7, 8, 9, 10, 11, 12, 13, 14, 15, 57, 58, 59, 60, 61, 62, 63, 64, 65, 66, 67, 68, 69, 70, 71, 72, 73, 74, 75, 76, 77, 78, 79, 80, 81, 82, 83] (by decide +kernel) (by decide +kernel)
set_option maxRecDepth 20000 in
theorem gX10_wise_X10_asItIs : GoodIn wsX10_wise (wsV RX10 114 RX10 yX10_asItIs wsX10_asItIs) := goodIn_app (goodIn_of _ (by decide +kernel)) ggX10_wise_X10_asItIs
set_option maxRecDepth 20000 in
theorem ggX10_wise_X10_placeOf : GoodIn wsX10_wise wsX10_placeOf := goodIn_r _ [19, 20, 21, 22, 23, 6, 24, 25, 26, 27, 28, 29, 30, 31, 32, 14, 8, 15, 33, 34, 35, 36, 37, 38, 10, 39, 40, 41, 42, 9, 12, 13, 11, 43, 44, 45, 46, 47, 48, 49, 50, 51, 52, 57, 58, 59, 60, 61, 62, 63, 64, 65, 66, 67, 68, 69, 70, 71, 72, 73, 74, 75, 76, 77, 78, 79, 80, 81, 82, 83] (by decide +kernel) (by decide +kernel)
set_option maxRecDepth 20000 in
theorem gX10_wise_X10_placeOf : GoodIn wsX10_wise (wsV RX10 169 RX10 yX10_placeOf wsX10_placeOf) := goodIn_app (goodIn_of _ (by decide +kernel)) ggX10_wise_X10_placeOf
set_option maxRecDepth 20000 in
theorem ggX10_wise_X10_snapOf : GoodIn wsX10_wise wsX10_snapOf := goodIn_r _ [56, 8, 57, 58, 59, 60, 61, 62, 63, 64, 65, 66, 67, 68, 69, 70, 71, 72, 73, 74, 75, 76, 77, 78, 79, 80, 81, 82, 83] (by decide +kernel) (by decide +kernel)
set_option maxRecDepth 20000 in
theorem gX10_wise_X10_snapOf : GoodIn wsX10_wise (wsV RX10 166 RX10 yX10_snapOf wsX10_snapOf) := goodIn_app (goodIn_of _ (by decide +kernel)) ggX10_wise_X10_snapOf
theorem dX10_wise_0 : decode cX10_wise 0 = .ok (.aload_n 0, 1) := by decide +kernel
theorem dX10_wise_1 : decode cX10_wise 1 = .ok (.iconst 0, 1) := by decide +kernel
theorem dX10_wise_2 : decode cX10_wise 2 = .ok (.putfield 41, 3) := by decide +kernel
theorem dX10_wise_5 : decode cX10_wise 5 = .ok (.aload_n 0, 1) := by decide +kernel
theorem dX10_wise_6 : decode cX10_wise 6 = .ok (.invokevirtual 114, 3) := by decide +kernel
theorem dX10_wise_9 : decode cX10_wise 9 = .ok (.iconst 0, 1) := by decide +kernel
theorem dX10_wise_10 : decode cX10_wise 10 = .ok (.istore_n 1, 1) := by decide +kernel
theorem dX10_wise_11 : decode cX10_wise 11 = .ok (.ldc2_w 164, 3) := by decide +kernel
theorem dX10_wise_14 : decode cX10_wise 14 = .ok (.lstore_n 2, 1) := by decide +kernel
theorem dX10_wise_15 : decode cX10_wise 15 = .ok (.iconst 0, 1) := by decide +kernel
theorem dX10_wise_16 : decode cX10_wise 16 = .ok (.istore 4, 2) := by decide +kernel
theorem dX10_wise_18 : decode cX10_wise 18 = .ok (.iload 4, 2) := by decide +kernel
theorem dX10_wise_20 : decode cX10_wise 20 = .ok (.sipush 401, 3) := by decide +kernel
theorem dX10_wise_23 : decode cX10_wise 23 = .ok (.if_icmp .ge 59, 3) := by decide +kernel
theorem dX10_wise_26 : decode cX10_wise 26 = .ok (.aload_n 0, 1) := by decide +kernel
theorem dX10_wise_27 : decode cX10_wise 27 = .ok (.iload 4, 2) := by decide +kernel
theorem dX10_wise_29 : decode cX10_wise 29 = .ok (.iconst (-1), 1) := by decide +kernel
theorem dX10_wise_30 : decode cX10_wise 30 = .ok (.invokevirtual 169, 3) := by decide +kernel
theorem dX10_wise_33 : decode cX10_wise 33 = .ok (.i2l, 1) := by decide +kernel
theorem dX10_wise_34 : decode cX10_wise 34 = .ok (.sipush 1000, 3) := by decide +kernel
theorem dX10_wise_37 : decode cX10_wise 37 = .ok (.aload_n 0, 1) := by decide +kernel
theorem dX10_wise_38 : decode cX10_wise 38 = .ok (.iload 4, 2) := by decide +kernel
theorem dX10_wise_40 : decode cX10_wise 40 = .ok (.invokevirtual 166, 3) := by decide +kernel
theorem dX10_wise_43 : decode cX10_wise 43 = .ok (.isub, 1) := by decide +kernel
theorem dX10_wise_44 : decode cX10_wise 44 = .ok (.i2l, 1) := by decide +kernel
theorem dX10_wise_45 : decode cX10_wise 45 = .ok (.lmul, 1) := by decide +kernel
theorem dX10_wise_46 : decode cX10_wise 46 = .ok (.lstore 5, 2) := by decide +kernel
theorem dX10_wise_48 : decode cX10_wise 48 = .ok (.lload 5, 2) := by decide +kernel
theorem dX10_wise_50 : decode cX10_wise 50 = .ok (.lload_n 2, 1) := by decide +kernel
theorem dX10_wise_51 : decode cX10_wise 51 = .ok (.lcmp, 1) := by decide +kernel
theorem dX10_wise_52 : decode cX10_wise 52 = .ok (.ifCond .le 8, 3) := by decide +kernel
theorem dX10_wise_55 : decode cX10_wise 55 = .ok (.iload 4, 2) := by decide +kernel
theorem dX10_wise_57 : decode cX10_wise 57 = .ok (.goto 4, 3) := by decide +kernel
theorem dX10_wise_60 : decode cX10_wise 60 = .ok (.iload_n 1, 1) := by decide +kernel
theorem dX10_wise_61 : decode cX10_wise 61 = .ok (.istore_n 1, 1) := by decide +kernel
theorem dX10_wise_62 : decode cX10_wise 62 = .ok (.lload 5, 2) := by decide +kernel
theorem dX10_wise_64 : decode cX10_wise 64 = .ok (.lload_n 2, 1) := by decide +kernel
theorem dX10_wise_65 : decode cX10_wise 65 = .ok (.lcmp, 1) := by decide +kernel
theorem dX10_wise_66 : decode cX10_wise 66 = .ok (.ifCond .le 8, 3) := by decide +kernel
theorem dX10_wise_69 : decode cX10_wise 69 = .ok (.lload 5, 2) := by decide +kernel
theorem dX10_wise_71 : decode cX10_wise 71 = .ok (.goto 4, 3) := by decide +kernel
theorem dX10_wise_74 : decode cX10_wise 74 = .ok (.lload_n 2, 1) := by decide +kernel
theorem dX10_wise_75 : decode cX10_wise 75 = .ok (.lstore_n 2, 1) := by decide +kernel
theorem dX10_wise_76 : decode cX10_wise 76 = .ok (.iinc 4 1, 3) := by decide +kernel
theorem dX10_wise_79 : decode cX10_wise 79 = .ok (.goto (-61), 3) := by decide +kernel
theorem dX10_wise_82 : decode cX10_wise 82 = .ok (.iload_n 1, 1) := by decide +kernel
theorem dX10_wise_83 : decode cX10_wise 83 = .ok (.ireturn, 1) := by decide +kernel
set_option maxRecDepth 20000 in
theorem ggX10_best_X10_in : GoodIn wsX10_best wsX10_in := goodIn_r _ [9] (by decide +kernel) (by decide +kernel)
set_option maxRecDepth 20000 in
theorem gX10_best_X10_in : GoodIn wsX10_best (va_wsS RX10 45 yX10_in wsX10_in) := goodIn_app (goodIn_of _ (by decide +kernel)) ggX10_best_X10_in
set_option maxRecDepth 20000 in
theorem ggX10_best_X10_areTurns : GoodIn wsX10_best wsX10_areTurns := goodIn_r _ [12, 6, 7, 8, 9] (by decide +kernel) (by decide +kernel)
set_option maxRecDepth 20000 in
theorem gX10_best_X10_areTurns : GoodIn wsX10_best (va_wsS RX10 155 yX10_areTurns wsX10_areTurns) := goodIn_app (goodIn_of _ (by decide +kernel)) ggX10_best_X10_areTurns
set_option maxRecDepth 20000 in
theorem ggX10_best_X10_asItIs : GoodIn wsX10_best wsX10_asItIs := goodIn_r _ [16, 17, 18, 19, 20, 3, 4, 5, 21, 59, 60, 61, 62, 63, 64, 65, 66, 67, 68, 69, 70, 71, 72, 73, 74, 75, 76, 77, 78, 79, 80, 81, 82, 83, 84, 85] (by decide +kernel) (by decide +kernel)
set_option maxRecDepth 20000 in
theorem gX10_best_X10_asItIs : GoodIn wsX10_best (wsV RX10 114 RX10 yX10_asItIs wsX10_asItIs) := goodIn_app (goodIn_of _ (by decide +kernel)) ggX10_best_X10_asItIs
set_option maxRecDepth 20000 in
theorem ggX10_best_X10_placeOf : GoodIn wsX10_best wsX10_placeOf := goodIn_r _ [25, 26, 27, 28, 29, 8, 30, 31, 32, 33, 34, 35, 36, 37, 38, 5, 17, 21, 39, 40, 41, 42, 43, 44, 19, 45, 46, 47, 48, 18, 3, 4, 20, 49, 50, 51, 52, 53, 54, 55, 56, 57, 58, 59, 60, 61, 62, 63, 64, 65, 66, 67, 68, 69, 70, 71, 72, 73, 74, 75, 76, 77, 78, 79, 80, 81, 82, 83, 84, 85] (by decide +kernel) (by decide +kernel)
set_option maxRecDepth 20000 in
theorem gX10_best_X10_placeOf : GoodIn wsX10_best (wsV RX10 169 RX10 yX10_placeOf wsX10_placeOf) := goodIn_app (goodIn_of _ (by decide +kernel)) ggX10_best_X10_placeOf
theorem dX10_best_0 : decode cX10_best 0 = .ok (.aload_n 0, 1) := by decide +kernel
theorem dX10_best_1 : decode cX10_best 1 = .ok (.iconst 0, 1) := by decide +kernel
theorem dX10_best_2 : decode cX10_best 2 = .ok (.putfield 41, 3) := by decide +kernel
theorem dX10_best_5 : decode cX10_best 5 = .ok (.iload_n 1, 1) := by decide +kernel
theorem dX10_best_6 : decode cX10_best 6 = .ok (.iconst 1, 1) := by decide +kernel
theorem dX10_best_7 : decode cX10_best 7 = .ok (.bipush 99, 2) := by decide +kernel
theorem dX10_best_9 : decode cX10_best 9 = .ok (.invokestatic 45, 3) := by decide +kernel
theorem dX10_best_12 : decode cX10_best 12 = .ok (.ifCond .eq 19, 3) := by decide +kernel
theorem dX10_best_15 : decode cX10_best 15 = .ok (.iload_n 2, 1) := by decide +kernel
theorem dX10_best_16 : decode cX10_best 16 = .ok (.invokestatic 155, 3) := by decide +kernel
theorem dX10_best_19 : decode cX10_best 19 = .ok (.ifCond .eq 12, 3) := by decide +kernel
theorem dX10_best_22 : decode cX10_best 22 = .ok (.iload_n 3, 1) := by decide +kernel
theorem dX10_best_23 : decode cX10_best 23 = .ok (.iconst 0, 1) := by decide +kernel
theorem dX10_best_24 : decode cX10_best 24 = .ok (.iconst 3, 1) := by decide +kernel
theorem dX10_best_25 : decode cX10_best 25 = .ok (.invokestatic 45, 3) := by decide +kernel
theorem dX10_best_28 : decode cX10_best 28 = .ok (.ifCond .ne 5, 3) := by decide +kernel
theorem dX10_best_31 : decode cX10_best 31 = .ok (.iconst (-1), 1) := by decide +kernel
theorem dX10_best_32 : decode cX10_best 32 = .ok (.ireturn, 1) := by decide +kernel
theorem dX10_best_33 : decode cX10_best 33 = .ok (.aload_n 0, 1) := by decide +kernel
theorem dX10_best_34 : decode cX10_best 34 = .ok (.invokevirtual 114, 3) := by decide +kernel
theorem dX10_best_37 : decode cX10_best 37 = .ok (.aload_n 0, 1) := by decide +kernel
theorem dX10_best_38 : decode cX10_best 38 = .ok (.getfield 34, 3) := by decide +kernel
theorem dX10_best_41 : decode cX10_best 41 = .ok (.iconst 0, 1) := by decide +kernel
theorem dX10_best_42 : decode cX10_best 42 = .ok (.iconst (-1), 1) := by decide +kernel
theorem dX10_best_43 : decode cX10_best 43 = .ok (.iastore, 1) := by decide +kernel
theorem dX10_best_44 : decode cX10_best 44 = .ok (.aload_n 0, 1) := by decide +kernel
theorem dX10_best_45 : decode cX10_best 45 = .ok (.iconst 1, 1) := by decide +kernel
theorem dX10_best_46 : decode cX10_best 46 = .ok (.putfield 98, 3) := by decide +kernel
theorem dX10_best_49 : decode cX10_best 49 = .ok (.aload_n 0, 1) := by decide +kernel
theorem dX10_best_50 : decode cX10_best 50 = .ok (.getfield 98, 3) := by decide +kernel
theorem dX10_best_53 : decode cX10_best 53 = .ok (.bipush 9, 2) := by decide +kernel
theorem dX10_best_55 : decode cX10_best 55 = .ok (.if_icmp .ge 140, 3) := by decide +kernel
theorem dX10_best_58 : decode cX10_best 58 = .ok (.aload_n 0, 1) := by decide +kernel
theorem dX10_best_59 : decode cX10_best 59 = .ok (.iconst 1, 1) := by decide +kernel
theorem dX10_best_60 : decode cX10_best 60 = .ok (.putfield 101, 3) := by decide +kernel
theorem dX10_best_63 : decode cX10_best 63 = .ok (.aload_n 0, 1) := by decide +kernel
theorem dX10_best_64 : decode cX10_best 64 = .ok (.getfield 101, 3) := by decide +kernel
theorem dX10_best_67 : decode cX10_best 67 = .ok (.bipush 41, 2) := by decide +kernel
theorem dX10_best_69 : decode cX10_best 69 = .ok (.if_icmp .ge 113, 3) := by decide +kernel
theorem dX10_best_72 : decode cX10_best 72 = .ok (.aload_n 0, 1) := by decide +kernel
theorem dX10_best_73 : decode cX10_best 73 = .ok (.getfield 98, 3) := by decide +kernel
theorem dX10_best_76 : decode cX10_best 76 = .ok (.aload_n 0, 1) := by decide +kernel
theorem dX10_best_77 : decode cX10_best 77 = .ok (.getfield 101, 3) := by decide +kernel
theorem dX10_best_80 : decode cX10_best 80 = .ok (.imul, 1) := by decide +kernel
theorem dX10_best_81 : decode cX10_best 81 = .ok (.iload_n 1, 1) := by decide +kernel
theorem dX10_best_82 : decode cX10_best 82 = .ok (.if_icmp .gt 100, 3) := by decide +kernel
theorem dX10_best_85 : decode cX10_best 85 = .ok (.aload_n 0, 1) := by decide +kernel
theorem dX10_best_86 : decode cX10_best 86 = .ok (.iconst 1, 1) := by decide +kernel
theorem dX10_best_87 : decode cX10_best 87 = .ok (.putfield 104, 3) := by decide +kernel
theorem dX10_best_90 : decode cX10_best 90 = .ok (.aload_n 0, 1) := by decide +kernel
theorem dX10_best_91 : decode cX10_best 91 = .ok (.getfield 104, 3) := by decide +kernel
theorem dX10_best_94 : decode cX10_best 94 = .ok (.bipush 10, 2) := by decide +kernel
theorem dX10_best_96 : decode cX10_best 96 = .ok (.if_icmp .ge 73, 3) := by decide +kernel
theorem dX10_best_99 : decode cX10_best 99 = .ok (.aload_n 0, 1) := by decide +kernel
theorem dX10_best_100 : decode cX10_best 100 = .ok (.iload_n 2, 1) := by decide +kernel
theorem dX10_best_101 : decode cX10_best 101 = .ok (.iconst (-1), 1) := by decide +kernel
theorem dX10_best_102 : decode cX10_best 102 = .ok (.invokevirtual 169, 3) := by decide +kernel
theorem dX10_best_105 : decode cX10_best 105 = .ok (.istore 4, 2) := by decide +kernel
theorem dX10_best_107 : decode cX10_best 107 = .ok (.iload 4, 2) := by decide +kernel
theorem dX10_best_109 : decode cX10_best 109 = .ok (.aload_n 0, 1) := by decide +kernel
theorem dX10_best_110 : decode cX10_best 110 = .ok (.getfield 34, 3) := by decide +kernel
theorem dX10_best_113 : decode cX10_best 113 = .ok (.iconst 0, 1) := by decide +kernel
theorem dX10_best_114 : decode cX10_best 114 = .ok (.iaload, 1) := by decide +kernel
theorem dX10_best_115 : decode cX10_best 115 = .ok (.if_icmp .le 41, 3) := by decide +kernel
theorem dX10_best_118 : decode cX10_best 118 = .ok (.aload_n 0, 1) := by decide +kernel
theorem dX10_best_119 : decode cX10_best 119 = .ok (.getfield 34, 3) := by decide +kernel
theorem dX10_best_122 : decode cX10_best 122 = .ok (.iconst 0, 1) := by decide +kernel
theorem dX10_best_123 : decode cX10_best 123 = .ok (.iload 4, 2) := by decide +kernel
theorem dX10_best_125 : decode cX10_best 125 = .ok (.iastore, 1) := by decide +kernel
theorem dX10_best_126 : decode cX10_best 126 = .ok (.aload_n 0, 1) := by decide +kernel
theorem dX10_best_127 : decode cX10_best 127 = .ok (.getfield 34, 3) := by decide +kernel
theorem dX10_best_130 : decode cX10_best 130 = .ok (.iconst 1, 1) := by decide +kernel
theorem dX10_best_131 : decode cX10_best 131 = .ok (.aload_n 0, 1) := by decide +kernel
theorem dX10_best_132 : decode cX10_best 132 = .ok (.getfield 98, 3) := by decide +kernel
theorem dX10_best_135 : decode cX10_best 135 = .ok (.iastore, 1) := by decide +kernel
theorem dX10_best_136 : decode cX10_best 136 = .ok (.aload_n 0, 1) := by decide +kernel
theorem dX10_best_137 : decode cX10_best 137 = .ok (.getfield 34, 3) := by decide +kernel
theorem dX10_best_140 : decode cX10_best 140 = .ok (.iconst 2, 1) := by decide +kernel
theorem dX10_best_141 : decode cX10_best 141 = .ok (.aload_n 0, 1) := by decide +kernel
theorem dX10_best_142 : decode cX10_best 142 = .ok (.getfield 101, 3) := by decide +kernel
theorem dX10_best_145 : decode cX10_best 145 = .ok (.iastore, 1) := by decide +kernel
theorem dX10_best_146 : decode cX10_best 146 = .ok (.aload_n 0, 1) := by decide +kernel
theorem dX10_best_147 : decode cX10_best 147 = .ok (.getfield 34, 3) := by decide +kernel
theorem dX10_best_150 : decode cX10_best 150 = .ok (.iconst 3, 1) := by decide +kernel
theorem dX10_best_151 : decode cX10_best 151 = .ok (.aload_n 0, 1) := by decide +kernel
theorem dX10_best_152 : decode cX10_best 152 = .ok (.getfield 104, 3) := by decide +kernel
theorem dX10_best_155 : decode cX10_best 155 = .ok (.iastore, 1) := by decide +kernel
theorem dX10_best_156 : decode cX10_best 156 = .ok (.aload_n 0, 1) := by decide +kernel
theorem dX10_best_157 : decode cX10_best 157 = .ok (.dup, 1) := by decide +kernel
theorem dX10_best_158 : decode cX10_best 158 = .ok (.getfield 104, 3) := by decide +kernel
theorem dX10_best_161 : decode cX10_best 161 = .ok (.iconst 1, 1) := by decide +kernel
theorem dX10_best_162 : decode cX10_best 162 = .ok (.iadd, 1) := by decide +kernel
theorem dX10_best_163 : decode cX10_best 163 = .ok (.putfield 104, 3) := by decide +kernel
theorem dX10_best_166 : decode cX10_best 166 = .ok (.goto (-76), 3) := by decide +kernel
theorem dX10_best_169 : decode cX10_best 169 = .ok (.aload_n 0, 1) := by decide +kernel
theorem dX10_best_170 : decode cX10_best 170 = .ok (.dup, 1) := by decide +kernel
theorem dX10_best_171 : decode cX10_best 171 = .ok (.getfield 101, 3) := by decide +kernel
theorem dX10_best_174 : decode cX10_best 174 = .ok (.iconst 1, 1) := by decide +kernel
theorem dX10_best_175 : decode cX10_best 175 = .ok (.iadd, 1) := by decide +kernel
theorem dX10_best_176 : decode cX10_best 176 = .ok (.putfield 101, 3) := by decide +kernel
theorem dX10_best_179 : decode cX10_best 179 = .ok (.goto (-116), 3) := by decide +kernel
theorem dX10_best_182 : decode cX10_best 182 = .ok (.aload_n 0, 1) := by decide +kernel
theorem dX10_best_183 : decode cX10_best 183 = .ok (.dup, 1) := by decide +kernel
theorem dX10_best_184 : decode cX10_best 184 = .ok (.getfield 98, 3) := by decide +kernel
theorem dX10_best_187 : decode cX10_best 187 = .ok (.iconst 1, 1) := by decide +kernel
theorem dX10_best_188 : decode cX10_best 188 = .ok (.iadd, 1) := by decide +kernel
theorem dX10_best_189 : decode cX10_best 189 = .ok (.putfield 98, 3) := by decide +kernel
theorem dX10_best_192 : decode cX10_best 192 = .ok (.goto (-143), 3) := by decide +kernel
theorem dX10_best_195 : decode cX10_best 195 = .ok (.aload_n 0, 1) := by decide +kernel
theorem dX10_best_196 : decode cX10_best 196 = .ok (.getfield 34, 3) := by decide +kernel
theorem dX10_best_199 : decode cX10_best 199 = .ok (.iload_n 3, 1) := by decide +kernel
theorem dX10_best_200 : decode cX10_best 200 = .ok (.iaload, 1) := by decide +kernel
theorem dX10_best_201 : decode cX10_best 201 = .ok (.ireturn, 1) := by decide +kernel
set_option maxRecDepth 20000 in
theorem ggX10_just_X10_in : GoodIn wsX10_just wsX10_in := goodIn_r _ [6] (by decide +kernel) (by decide +kernel)
set_option maxRecDepth 20000 in
theorem gX10_just_X10_in : GoodIn wsX10_just (va_wsS RX10 45 yX10_in wsX10_in) := goodIn_app (goodIn_of _ (by decide +kernel)) ggX10_just_X10_in
set_option maxRecDepth 20000 in
theorem ggX10_just_X10_asItIs : GoodIn wsX10_just wsX10_asItIs := goodIn_r _ [10, 11, 12, 13, 14, 15, 16, 17, 18, 56, 57, 58, 59, 60, 61, 62, 63, 64, 65, 66, 67, 68, 69, 70, 71, 72, 73, 74, 75, 76, 77, 78, 79, 80, 81, 82] (by decide +kernel) (by decide +kernel)
set_option maxRecDepth 20000 in
theorem gX10_just_X10_asItIs : GoodIn wsX10_just (wsV RX10 114 RX10 yX10_asItIs wsX10_asItIs) := goodIn_app (goodIn_of _ (by decide +kernel)) ggX10_just_X10_asItIs
set_option maxRecDepth 20000 in
theorem ggX10_just_X10_placeOf : GoodIn wsX10_just wsX10_placeOf := goodIn_r _ [22, 23, 24, 25, 26, 5, 27, 28, 29, 30, 31, 32, 33, 34, 35, 17, 11, 18, 36, 37, 38, 39, 40, 41, 13, 42, 43, 44, 45, 12, 15, 16, 14, 46, 47, 48, 49, 50, 51, 52, 53, 54, 55, 56, 57, 58, 59, 60, 61, 62, 63, 64, 65, 66, 67, 68, 69, 70, 71, 72, 73, 74, 75, 76, 77, 78, 79, 80, 81, 82] (by decide +kernel) (by decide +kernel)
set_option maxRecDepth 20000 in
theorem gX10_just_X10_placeOf : GoodIn wsX10_just (wsV RX10 169 RX10 yX10_placeOf wsX10_placeOf) := goodIn_app (goodIn_of _ (by decide +kernel)) ggX10_just_X10_placeOf
theorem dX10_just_0 : decode cX10_just 0 = .ok (.aload_n 0, 1) := by decide +kernel
theorem dX10_just_1 : decode cX10_just 1 = .ok (.iconst 0, 1) := by decide +kernel
theorem dX10_just_2 : decode cX10_just 2 = .ok (.putfield 41, 3) := by decide +kernel
theorem dX10_just_5 : decode cX10_just 5 = .ok (.iload_n 1, 1) := by decide +kernel
theorem dX10_just_6 : decode cX10_just 6 = .ok (.iconst 0, 1) := by decide +kernel
theorem dX10_just_7 : decode cX10_just 7 = .ok (.ldc 163, 2) := by decide +kernel
theorem dX10_just_9 : decode cX10_just 9 = .ok (.invokestatic 45, 3) := by decide +kernel
theorem dX10_just_12 : decode cX10_just 12 = .ok (.ifCond .eq 12, 3) := by decide +kernel
theorem dX10_just_15 : decode cX10_just 15 = .ok (.iload_n 2, 1) := by decide +kernel
theorem dX10_just_16 : decode cX10_just 16 = .ok (.iconst 0, 1) := by decide +kernel
theorem dX10_just_17 : decode cX10_just 17 = .ok (.iconst 1, 1) := by decide +kernel
theorem dX10_just_18 : decode cX10_just 18 = .ok (.invokestatic 45, 3) := by decide +kernel
theorem dX10_just_21 : decode cX10_just 21 = .ok (.ifCond .ne 5, 3) := by decide +kernel
theorem dX10_just_24 : decode cX10_just 24 = .ok (.iconst (-1), 1) := by decide +kernel
theorem dX10_just_25 : decode cX10_just 25 = .ok (.ireturn, 1) := by decide +kernel
theorem dX10_just_26 : decode cX10_just 26 = .ok (.aload_n 0, 1) := by decide +kernel
theorem dX10_just_27 : decode cX10_just 27 = .ok (.invokevirtual 114, 3) := by decide +kernel
theorem dX10_just_30 : decode cX10_just 30 = .ok (.iconst 0, 1) := by decide +kernel
theorem dX10_just_31 : decode cX10_just 31 = .ok (.istore_n 3, 1) := by decide +kernel
theorem dX10_just_32 : decode cX10_just 32 = .ok (.iconst 0, 1) := by decide +kernel
theorem dX10_just_33 : decode cX10_just 33 = .ok (.istore 4, 2) := by decide +kernel
theorem dX10_just_35 : decode cX10_just 35 = .ok (.iload_n 1, 1) := by decide +kernel
theorem dX10_just_36 : decode cX10_just 36 = .ok (.istore 5, 2) := by decide +kernel
theorem dX10_just_38 : decode cX10_just 38 = .ok (.iconst 1, 1) := by decide +kernel
theorem dX10_just_39 : decode cX10_just 39 = .ok (.istore 6, 2) := by decide +kernel
theorem dX10_just_41 : decode cX10_just 41 = .ok (.iload 6, 2) := by decide +kernel
theorem dX10_just_43 : decode cX10_just 43 = .ok (.sipush 401, 3) := by decide +kernel
theorem dX10_just_46 : decode cX10_just 46 = .ok (.if_icmp .ge 55, 3) := by decide +kernel
theorem dX10_just_49 : decode cX10_just 49 = .ok (.aload_n 0, 1) := by decide +kernel
theorem dX10_just_50 : decode cX10_just 50 = .ok (.iload 6, 2) := by decide +kernel
theorem dX10_just_52 : decode cX10_just 52 = .ok (.iconst (-1), 1) := by decide +kernel
theorem dX10_just_53 : decode cX10_just 53 = .ok (.invokevirtual 169, 3) := by decide +kernel
theorem dX10_just_56 : decode cX10_just 56 = .ok (.istore 7, 2) := by decide +kernel
theorem dX10_just_58 : decode cX10_just 58 = .ok (.iload 7, 2) := by decide +kernel
theorem dX10_just_60 : decode cX10_just 60 = .ok (.iload_n 1, 1) := by decide +kernel
theorem dX10_just_61 : decode cX10_just 61 = .ok (.if_icmp .ge 10, 3) := by decide +kernel
theorem dX10_just_64 : decode cX10_just 64 = .ok (.iload_n 1, 1) := by decide +kernel
theorem dX10_just_65 : decode cX10_just 65 = .ok (.iload 7, 2) := by decide +kernel
theorem dX10_just_67 : decode cX10_just 67 = .ok (.isub, 1) := by decide +kernel
theorem dX10_just_68 : decode cX10_just 68 = .ok (.goto 7, 3) := by decide +kernel
theorem dX10_just_71 : decode cX10_just 71 = .ok (.iload 7, 2) := by decide +kernel
theorem dX10_just_73 : decode cX10_just 73 = .ok (.iload_n 1, 1) := by decide +kernel
theorem dX10_just_74 : decode cX10_just 74 = .ok (.isub, 1) := by decide +kernel
theorem dX10_just_75 : decode cX10_just 75 = .ok (.istore 8, 2) := by decide +kernel
theorem dX10_just_77 : decode cX10_just 77 = .ok (.iload 8, 2) := by decide +kernel
theorem dX10_just_79 : decode cX10_just 79 = .ok (.iload 5, 2) := by decide +kernel
theorem dX10_just_81 : decode cX10_just 81 = .ok (.if_icmp .ge 14, 3) := by decide +kernel
theorem dX10_just_84 : decode cX10_just 84 = .ok (.iload 6, 2) := by decide +kernel
theorem dX10_just_86 : decode cX10_just 86 = .ok (.istore_n 3, 1) := by decide +kernel
theorem dX10_just_87 : decode cX10_just 87 = .ok (.iload 7, 2) := by decide +kernel
theorem dX10_just_89 : decode cX10_just 89 = .ok (.istore 4, 2) := by decide +kernel
theorem dX10_just_91 : decode cX10_just 91 = .ok (.iload 8, 2) := by decide +kernel
theorem dX10_just_93 : decode cX10_just 93 = .ok (.istore 5, 2) := by decide +kernel
theorem dX10_just_95 : decode cX10_just 95 = .ok (.iinc 6 1, 3) := by decide +kernel
theorem dX10_just_98 : decode cX10_just 98 = .ok (.goto (-57), 3) := by decide +kernel
theorem dX10_just_101 : decode cX10_just 101 = .ok (.iload_n 2, 1) := by decide +kernel
theorem dX10_just_102 : decode cX10_just 102 = .ok (.ifCond .ne 7, 3) := by decide +kernel
theorem dX10_just_105 : decode cX10_just 105 = .ok (.iload_n 3, 1) := by decide +kernel
theorem dX10_just_106 : decode cX10_just 106 = .ok (.goto 5, 3) := by decide +kernel
theorem dX10_just_109 : decode cX10_just 109 = .ok (.iload 4, 2) := by decide +kernel
theorem dX10_just_111 : decode cX10_just 111 = .ok (.ireturn, 1) := by decide +kernel
set_option maxRecDepth 20000 in
theorem ggX10_span_X10_areTurns : GoodIn wsX10_span wsX10_areTurns := goodIn_r _ [5, 6, 7, 4, 8] (by decide +kernel) (by decide +kernel)
set_option maxRecDepth 20000 in
theorem gX10_span_X10_areTurns : GoodIn wsX10_span (va_wsS RX10 155 yX10_areTurns wsX10_areTurns) := goodIn_app (goodIn_of _ (by decide +kernel)) ggX10_span_X10_areTurns
set_option maxRecDepth 20000 in
theorem ggX10_span_X10_in : GoodIn wsX10_span wsX10_in := goodIn_r _ [8] (by decide +kernel) (by decide +kernel)
set_option maxRecDepth 20000 in
theorem gX10_span_X10_in : GoodIn wsX10_span (va_wsS RX10 45 yX10_in wsX10_in) := goodIn_app (goodIn_of _ (by decide +kernel)) ggX10_span_X10_in
set_option maxRecDepth 20000 in
theorem ggX10_span_X10_asItIs : GoodIn wsX10_span wsX10_asItIs := goodIn_r _ [12, 13, 14, 15, 16, 17, 18, 19, 20, 58, 59, 60, 61, 62, 63, 64, 65, 66, 67, 68, 69, 70, 71, 72, 73, 74, 75, 76, 77, 78, 79, 80, 81, 82, 83, 84] (by decide +kernel) (by decide +kernel)
set_option maxRecDepth 20000 in
theorem gX10_span_X10_asItIs : GoodIn wsX10_span (wsV RX10 114 RX10 yX10_asItIs wsX10_asItIs) := goodIn_app (goodIn_of _ (by decide +kernel)) ggX10_span_X10_asItIs
set_option maxRecDepth 20000 in
theorem ggX10_span_X10_placeOf : GoodIn wsX10_span wsX10_placeOf := goodIn_r _ [24, 25, 26, 27, 28, 4, 29, 30, 31, 32, 33, 34, 35, 36, 37, 19, 13, 20, 38, 39, 40, 41, 42, 43, 15, 44, 45, 46, 47, 14, 17, 18, 16, 48, 49, 50, 51, 52, 53, 54, 55, 56, 57, 58, 59, 60, 61, 62, 63, 64, 65, 66, 67, 68, 69, 70, 71, 72, 73, 74, 75, 76, 77, 78, 79, 80, 81, 82, 83, 84] (by decide +kernel) (by decide +kernel)
set_option maxRecDepth 20000 in
theorem gX10_span_X10_placeOf : GoodIn wsX10_span (wsV RX10 169 RX10 yX10_placeOf wsX10_placeOf) := goodIn_app (goodIn_of _ (by decide +kernel)) ggX10_span_X10_placeOf
theorem dX10_span_0 : decode cX10_span 0 = .ok (.aload_n 0, 1) := by decide +kernel
theorem dX10_span_1 : decode cX10_span 1 = .ok (.iconst 0, 1) := by decide +kernel
theorem dX10_span_2 : decode cX10_span 2 = .ok (.putfield 41, 3) := by decide +kernel
theorem dX10_span_5 : decode cX10_span 5 = .ok (.iload_n 1, 1) := by decide +kernel
theorem dX10_span_6 : decode cX10_span 6 = .ok (.invokestatic 155, 3) := by decide +kernel
theorem dX10_span_9 : decode cX10_span 9 = .ok (.ifCond .eq 23, 3) := by decide +kernel
theorem dX10_span_12 : decode cX10_span 12 = .ok (.iload_n 2, 1) := by decide +kernel
theorem dX10_span_13 : decode cX10_span 13 = .ok (.iconst 0, 1) := by decide +kernel
theorem dX10_span_14 : decode cX10_span 14 = .ok (.sipush 9999, 3) := by decide +kernel
theorem dX10_span_17 : decode cX10_span 17 = .ok (.invokestatic 45, 3) := by decide +kernel
theorem dX10_span_20 : decode cX10_span 20 = .ok (.ifCond .eq 12, 3) := by decide +kernel
theorem dX10_span_23 : decode cX10_span 23 = .ok (.iload_n 3, 1) := by decide +kernel
theorem dX10_span_24 : decode cX10_span 24 = .ok (.iconst 0, 1) := by decide +kernel
theorem dX10_span_25 : decode cX10_span 25 = .ok (.iconst 1, 1) := by decide +kernel
theorem dX10_span_26 : decode cX10_span 26 = .ok (.invokestatic 45, 3) := by decide +kernel
theorem dX10_span_29 : decode cX10_span 29 = .ok (.ifCond .ne 5, 3) := by decide +kernel
theorem dX10_span_32 : decode cX10_span 32 = .ok (.iconst (-1), 1) := by decide +kernel
theorem dX10_span_33 : decode cX10_span 33 = .ok (.ireturn, 1) := by decide +kernel
theorem dX10_span_34 : decode cX10_span 34 = .ok (.aload_n 0, 1) := by decide +kernel
theorem dX10_span_35 : decode cX10_span 35 = .ok (.invokevirtual 114, 3) := by decide +kernel
theorem dX10_span_38 : decode cX10_span 38 = .ok (.aload_n 0, 1) := by decide +kernel
theorem dX10_span_39 : decode cX10_span 39 = .ok (.iload_n 1, 1) := by decide +kernel
theorem dX10_span_40 : decode cX10_span 40 = .ok (.iload_n 2, 1) := by decide +kernel
theorem dX10_span_41 : decode cX10_span 41 = .ok (.invokevirtual 169, 3) := by decide +kernel
theorem dX10_span_44 : decode cX10_span 44 = .ok (.istore 4, 2) := by decide +kernel
theorem dX10_span_46 : decode cX10_span 46 = .ok (.iload 4, 2) := by decide +kernel
theorem dX10_span_48 : decode cX10_span 48 = .ok (.istore 5, 2) := by decide +kernel
theorem dX10_span_50 : decode cX10_span 50 = .ok (.iconst 1, 1) := by decide +kernel
theorem dX10_span_51 : decode cX10_span 51 = .ok (.istore 6, 2) := by decide +kernel
theorem dX10_span_53 : decode cX10_span 53 = .ok (.iload 6, 2) := by decide +kernel
theorem dX10_span_55 : decode cX10_span 55 = .ok (.bipush 10, 2) := by decide +kernel
theorem dX10_span_57 : decode cX10_span 57 = .ok (.if_icmp .ge 56, 3) := by decide +kernel
theorem dX10_span_60 : decode cX10_span 60 = .ok (.aload_n 0, 1) := by decide +kernel
theorem dX10_span_61 : decode cX10_span 61 = .ok (.iload_n 1, 1) := by decide +kernel
theorem dX10_span_62 : decode cX10_span 62 = .ok (.iload_n 2, 1) := by decide +kernel
theorem dX10_span_63 : decode cX10_span 63 = .ok (.iload 6, 2) := by decide +kernel
theorem dX10_span_65 : decode cX10_span 65 = .ok (.iadd, 1) := by decide +kernel
theorem dX10_span_66 : decode cX10_span 66 = .ok (.sipush 10000, 3) := by decide +kernel
theorem dX10_span_69 : decode cX10_span 69 = .ok (.irem, 1) := by decide +kernel
theorem dX10_span_70 : decode cX10_span 70 = .ok (.invokevirtual 169, 3) := by decide +kernel
theorem dX10_span_73 : decode cX10_span 73 = .ok (.istore 7, 2) := by decide +kernel
theorem dX10_span_75 : decode cX10_span 75 = .ok (.iload 7, 2) := by decide +kernel
theorem dX10_span_77 : decode cX10_span 77 = .ok (.iload 4, 2) := by decide +kernel
theorem dX10_span_79 : decode cX10_span 79 = .ok (.if_icmp .ge 8, 3) := by decide +kernel
theorem dX10_span_82 : decode cX10_span 82 = .ok (.iload 7, 2) := by decide +kernel
theorem dX10_span_84 : decode cX10_span 84 = .ok (.goto 5, 3) := by decide +kernel
theorem dX10_span_87 : decode cX10_span 87 = .ok (.iload 4, 2) := by decide +kernel
theorem dX10_span_89 : decode cX10_span 89 = .ok (.istore 4, 2) := by decide +kernel
theorem dX10_span_91 : decode cX10_span 91 = .ok (.iload 7, 2) := by decide +kernel
theorem dX10_span_93 : decode cX10_span 93 = .ok (.iload 5, 2) := by decide +kernel
theorem dX10_span_95 : decode cX10_span 95 = .ok (.if_icmp .le 8, 3) := by decide +kernel
theorem dX10_span_98 : decode cX10_span 98 = .ok (.iload 7, 2) := by decide +kernel
theorem dX10_span_100 : decode cX10_span 100 = .ok (.goto 5, 3) := by decide +kernel
theorem dX10_span_103 : decode cX10_span 103 = .ok (.iload 5, 2) := by decide +kernel
theorem dX10_span_105 : decode cX10_span 105 = .ok (.istore 5, 2) := by decide +kernel
theorem dX10_span_107 : decode cX10_span 107 = .ok (.iinc 6 1, 3) := by decide +kernel
theorem dX10_span_110 : decode cX10_span 110 = .ok (.goto (-57), 3) := by decide +kernel
theorem dX10_span_113 : decode cX10_span 113 = .ok (.iload_n 3, 1) := by decide +kernel
theorem dX10_span_114 : decode cX10_span 114 = .ok (.ifCond .ne 8, 3) := by decide +kernel
theorem dX10_span_117 : decode cX10_span 117 = .ok (.iload 4, 2) := by decide +kernel
theorem dX10_span_119 : decode cX10_span 119 = .ok (.goto 5, 3) := by decide +kernel
theorem dX10_span_122 : decode cX10_span 122 = .ok (.iload 5, 2) := by decide +kernel
theorem dX10_span_124 : decode cX10_span 124 = .ok (.ireturn, 1) := by decide +kernel
set_option maxRecDepth 20000 in
theorem ggX10_straight_X10_areTurns : GoodIn wsX10_straight wsX10_areTurns := goodIn_r _ [8, 9, 10, 7, 11] (by decide +kernel) (by decide +kernel)
set_option maxRecDepth 20000 in
theorem gX10_straight_X10_areTurns : GoodIn wsX10_straight (va_wsS RX10 155 yX10_areTurns wsX10_areTurns) := goodIn_app (goodIn_of _ (by decide +kernel)) ggX10_straight_X10_areTurns
set_option maxRecDepth 20000 in
theorem ggX10_straight_X10_in : GoodIn wsX10_straight wsX10_in := goodIn_r _ [11] (by decide +kernel) (by decide +kernel)
set_option maxRecDepth 20000 in
theorem gX10_straight_X10_in : GoodIn wsX10_straight (va_wsS RX10 45 yX10_in wsX10_in) := goodIn_app (goodIn_of _ (by decide +kernel)) ggX10_straight_X10_in
set_option maxRecDepth 20000 in
theorem ggX10_straight_X10_asItIs : GoodIn wsX10_straight wsX10_asItIs := goodIn_r _ [15, 16, 17, 18, 19, 20, 21, 22, 2, 59, 60, 61, 62, 63, 64, 65, 66, 67, 68, 69, 70, 71, 72, 73, 74, 75, 76, 77, 78, 79, 80, 81, 82, 83, 84, 85] (by decide +kernel) (by decide +kernel)
set_option maxRecDepth 20000 in
theorem gX10_straight_X10_asItIs : GoodIn wsX10_straight (wsV RX10 114 RX10 yX10_asItIs wsX10_asItIs) := goodIn_app (goodIn_of _ (by decide +kernel)) ggX10_straight_X10_asItIs
set_option maxRecDepth 20000 in
theorem ggX10_straight_X10_placeOf : GoodIn wsX10_straight wsX10_placeOf := goodIn_r _ [26, 3, 27, 28, 29, 7, 30, 31, 32, 33, 34, 35, 36, 37, 38, 22, 16, 2, 39, 40, 41, 42, 43, 44, 18, 45, 46, 47, 48, 17, 20, 21, 19, 49, 50, 51, 52, 53, 54, 55, 56, 57, 58, 59, 60, 61, 62, 63, 64, 65, 66, 67, 68, 69, 70, 71, 72, 73, 74, 75, 76, 77, 78, 79, 80, 81, 82, 83, 84, 85] (by decide +kernel) (by decide +kernel)
set_option maxRecDepth 20000 in
theorem gX10_straight_X10_placeOf : GoodIn wsX10_straight (wsV RX10 169 RX10 yX10_placeOf wsX10_placeOf) := goodIn_app (goodIn_of _ (by decide +kernel)) ggX10_straight_X10_placeOf
theorem dX10_straight_0 : decode cX10_straight 0 = .ok (.aload_n 0, 1) := by decide +kernel
theorem dX10_straight_1 : decode cX10_straight 1 = .ok (.iconst 0, 1) := by decide +kernel
theorem dX10_straight_2 : decode cX10_straight 2 = .ok (.putfield 41, 3) := by decide +kernel
theorem dX10_straight_5 : decode cX10_straight 5 = .ok (.iload_n 1, 1) := by decide +kernel
theorem dX10_straight_6 : decode cX10_straight 6 = .ok (.invokestatic 155, 3) := by decide +kernel
theorem dX10_straight_9 : decode cX10_straight 9 = .ok (.ifCond .eq 12, 3) := by decide +kernel
theorem dX10_straight_12 : decode cX10_straight 12 = .ok (.iload_n 2, 1) := by decide +kernel
theorem dX10_straight_13 : decode cX10_straight 13 = .ok (.iconst 0, 1) := by decide +kernel
theorem dX10_straight_14 : decode cX10_straight 14 = .ok (.iconst 1, 1) := by decide +kernel
theorem dX10_straight_15 : decode cX10_straight 15 = .ok (.invokestatic 45, 3) := by decide +kernel
theorem dX10_straight_18 : decode cX10_straight 18 = .ok (.ifCond .ne 5, 3) := by decide +kernel
theorem dX10_straight_21 : decode cX10_straight 21 = .ok (.iconst (-1), 1) := by decide +kernel
theorem dX10_straight_22 : decode cX10_straight 22 = .ok (.ireturn, 1) := by decide +kernel
theorem dX10_straight_23 : decode cX10_straight 23 = .ok (.aload_n 0, 1) := by decide +kernel
theorem dX10_straight_24 : decode cX10_straight 24 = .ok (.invokevirtual 114, 3) := by decide +kernel
theorem dX10_straight_27 : decode cX10_straight 27 = .ok (.iconst 0, 1) := by decide +kernel
theorem dX10_straight_28 : decode cX10_straight 28 = .ok (.istore_n 3, 1) := by decide +kernel
theorem dX10_straight_29 : decode cX10_straight 29 = .ok (.iconst 0, 1) := by decide +kernel
theorem dX10_straight_30 : decode cX10_straight 30 = .ok (.istore 4, 2) := by decide +kernel
theorem dX10_straight_32 : decode cX10_straight 32 = .ok (.iconst (-1), 1) := by decide +kernel
theorem dX10_straight_33 : decode cX10_straight 33 = .ok (.istore 5, 2) := by decide +kernel
theorem dX10_straight_35 : decode cX10_straight 35 = .ok (.aload_n 0, 1) := by decide +kernel
theorem dX10_straight_36 : decode cX10_straight 36 = .ok (.iconst 0, 1) := by decide +kernel
theorem dX10_straight_37 : decode cX10_straight 37 = .ok (.putfield 107, 3) := by decide +kernel
theorem dX10_straight_40 : decode cX10_straight 40 = .ok (.aload_n 0, 1) := by decide +kernel
theorem dX10_straight_41 : decode cX10_straight 41 = .ok (.getfield 107, 3) := by decide +kernel
theorem dX10_straight_44 : decode cX10_straight 44 = .ok (.bipush 21, 2) := by decide +kernel
theorem dX10_straight_46 : decode cX10_straight 46 = .ok (.if_icmp .ge 79, 3) := by decide +kernel
theorem dX10_straight_49 : decode cX10_straight 49 = .ok (.aload_n 0, 1) := by decide +kernel
theorem dX10_straight_50 : decode cX10_straight 50 = .ok (.iload_n 1, 1) := by decide +kernel
theorem dX10_straight_51 : decode cX10_straight 51 = .ok (.iconst (-1), 1) := by decide +kernel
theorem dX10_straight_52 : decode cX10_straight 52 = .ok (.invokevirtual 169, 3) := by decide +kernel
theorem dX10_straight_55 : decode cX10_straight 55 = .ok (.pop, 1) := by decide +kernel
theorem dX10_straight_56 : decode cX10_straight 56 = .ok (.aload_n 0, 1) := by decide +kernel
theorem dX10_straight_57 : decode cX10_straight 57 = .ok (.getfield 19, 3) := by decide +kernel
theorem dX10_straight_60 : decode cX10_straight 60 = .ok (.iconst 4, 1) := by decide +kernel
theorem dX10_straight_61 : decode cX10_straight 61 = .ok (.iaload, 1) := by decide +kernel
theorem dX10_straight_62 : decode cX10_straight 62 = .ok (.ifCond .ge 13, 3) := by decide +kernel
theorem dX10_straight_65 : decode cX10_straight 65 = .ok (.aload_n 0, 1) := by decide +kernel
theorem dX10_straight_66 : decode cX10_straight 66 = .ok (.getfield 19, 3) := by decide +kernel
theorem dX10_straight_69 : decode cX10_straight 69 = .ok (.iconst 4, 1) := by decide +kernel
theorem dX10_straight_70 : decode cX10_straight 70 = .ok (.iaload, 1) := by decide +kernel
theorem dX10_straight_71 : decode cX10_straight 71 = .ok (.ineg, 1) := by decide +kernel
theorem dX10_straight_72 : decode cX10_straight 72 = .ok (.goto 9, 3) := by decide +kernel
theorem dX10_straight_75 : decode cX10_straight 75 = .ok (.aload_n 0, 1) := by decide +kernel
theorem dX10_straight_76 : decode cX10_straight 76 = .ok (.getfield 19, 3) := by decide +kernel
theorem dX10_straight_79 : decode cX10_straight 79 = .ok (.iconst 4, 1) := by decide +kernel
theorem dX10_straight_80 : decode cX10_straight 80 = .ok (.iaload, 1) := by decide +kernel
theorem dX10_straight_81 : decode cX10_straight 81 = .ok (.istore 6, 2) := by decide +kernel
theorem dX10_straight_83 : decode cX10_straight 83 = .ok (.iload 5, 2) := by decide +kernel
theorem dX10_straight_85 : decode cX10_straight 85 = .ok (.ifCond .lt 10, 3) := by decide +kernel
theorem dX10_straight_88 : decode cX10_straight 88 = .ok (.iload 6, 2) := by decide +kernel
theorem dX10_straight_90 : decode cX10_straight 90 = .ok (.iload 5, 2) := by decide +kernel
theorem dX10_straight_92 : decode cX10_straight 92 = .ok (.if_icmp .ge 20, 3) := by decide +kernel
theorem dX10_straight_95 : decode cX10_straight 95 = .ok (.aload_n 0, 1) := by decide +kernel
theorem dX10_straight_96 : decode cX10_straight 96 = .ok (.getfield 107, 3) := by decide +kernel
theorem dX10_straight_99 : decode cX10_straight 99 = .ok (.istore_n 3, 1) := by decide +kernel
theorem dX10_straight_100 : decode cX10_straight 100 = .ok (.aload_n 0, 1) := by decide +kernel
theorem dX10_straight_101 : decode cX10_straight 101 = .ok (.getfield 19, 3) := by decide +kernel
theorem dX10_straight_104 : decode cX10_straight 104 = .ok (.iconst 4, 1) := by decide +kernel
theorem dX10_straight_105 : decode cX10_straight 105 = .ok (.iaload, 1) := by decide +kernel
theorem dX10_straight_106 : decode cX10_straight 106 = .ok (.istore 4, 2) := by decide +kernel
theorem dX10_straight_108 : decode cX10_straight 108 = .ok (.iload 6, 2) := by decide +kernel
theorem dX10_straight_110 : decode cX10_straight 110 = .ok (.istore 5, 2) := by decide +kernel
theorem dX10_straight_112 : decode cX10_straight 112 = .ok (.aload_n 0, 1) := by decide +kernel
theorem dX10_straight_113 : decode cX10_straight 113 = .ok (.dup, 1) := by decide +kernel
theorem dX10_straight_114 : decode cX10_straight 114 = .ok (.getfield 107, 3) := by decide +kernel
theorem dX10_straight_117 : decode cX10_straight 117 = .ok (.iconst 1, 1) := by decide +kernel
theorem dX10_straight_118 : decode cX10_straight 118 = .ok (.iadd, 1) := by decide +kernel
theorem dX10_straight_119 : decode cX10_straight 119 = .ok (.putfield 107, 3) := by decide +kernel
theorem dX10_straight_122 : decode cX10_straight 122 = .ok (.goto (-82), 3) := by decide +kernel
theorem dX10_straight_125 : decode cX10_straight 125 = .ok (.iload_n 2, 1) := by decide +kernel
theorem dX10_straight_126 : decode cX10_straight 126 = .ok (.ifCond .ne 7, 3) := by decide +kernel
theorem dX10_straight_129 : decode cX10_straight 129 = .ok (.iload_n 3, 1) := by decide +kernel
theorem dX10_straight_130 : decode cX10_straight 130 = .ok (.goto 8, 3) := by decide +kernel
theorem dX10_straight_133 : decode cX10_straight 133 = .ok (.iload 4, 2) := by decide +kernel
theorem dX10_straight_135 : decode cX10_straight 135 = .ok (.ldc 162, 2) := by decide +kernel
theorem dX10_straight_137 : decode cX10_straight 137 = .ok (.iadd, 1) := by decide +kernel
theorem dX10_straight_138 : decode cX10_straight 138 = .ok (.ireturn, 1) := by decide +kernel
set_option maxRecDepth 20000 in
theorem ggX10_two_X10_in : GoodIn wsX10_two wsX10_in := goodIn_r _ [6] (by decide +kernel) (by decide +kernel)
set_option maxRecDepth 20000 in
theorem gX10_two_X10_in : GoodIn wsX10_two (va_wsS RX10 45 yX10_in wsX10_in) := goodIn_app (goodIn_of _ (by decide +kernel)) ggX10_two_X10_in
set_option maxRecDepth 20000 in
theorem ggX10_two_X10_asItIs : GoodIn wsX10_two wsX10_asItIs := goodIn_r _ [10, 11, 12, 13, 14, 15, 16, 17, 18, 51, 52, 53, 54, 55, 56, 57, 58, 59, 60, 61, 62, 63, 64, 65, 66, 67, 68, 69, 70, 71, 72, 73, 74, 75, 76, 77] (by decide +kernel) (by decide +kernel)
set_option maxRecDepth 20000 in
theorem gX10_two_X10_asItIs : GoodIn wsX10_two (wsV RX10 114 RX10 yX10_asItIs wsX10_asItIs) := goodIn_app (goodIn_of _ (by decide +kernel)) ggX10_two_X10_asItIs
set_option maxRecDepth 20000 in
theorem ggX10_two_X10_runs : GoodIn wsX10_two wsX10_runs := goodIn_r _ [22, 2, 23, 24, 25, 26, 27, 28, 29, 5, 30, 17, 11, 18, 31, 32, 33, 34, 35, 36, 13, 37, 38, 39, 40, 12, 15, 16, 14, 41, 42, 43, 44, 45, 46, 47, 48, 49, 50, 51, 52, 53, 54, 55, 56, 57, 58, 59, 60, 61, 62, 63, 64, 65, 66, 67, 68, 69, 70, 71, 72, 73, 74, 75, 76, 77] (by decide +kernel) (by decide +kernel)
set_option maxRecDepth 20000 in
theorem gX10_two_X10_runs : GoodIn wsX10_two (wsV RX10 151 RX10 yX10_runs wsX10_runs) := goodIn_app (goodIn_of _ (by decide +kernel)) ggX10_two_X10_runs
theorem dX10_two_0 : decode cX10_two 0 = .ok (.aload_n 0, 1) := by decide +kernel
theorem dX10_two_1 : decode cX10_two 1 = .ok (.iconst 0, 1) := by decide +kernel
theorem dX10_two_2 : decode cX10_two 2 = .ok (.putfield 41, 3) := by decide +kernel
theorem dX10_two_5 : decode cX10_two 5 = .ok (.iload_n 1, 1) := by decide +kernel
theorem dX10_two_6 : decode cX10_two 6 = .ok (.iconst 1, 1) := by decide +kernel
theorem dX10_two_7 : decode cX10_two 7 = .ok (.sipush 400, 3) := by decide +kernel
theorem dX10_two_10 : decode cX10_two 10 = .ok (.invokestatic 45, 3) := by decide +kernel
theorem dX10_two_13 : decode cX10_two 13 = .ok (.ifCond .ne 5, 3) := by decide +kernel
theorem dX10_two_16 : decode cX10_two 16 = .ok (.iconst (-1), 1) := by decide +kernel
theorem dX10_two_17 : decode cX10_two 17 = .ok (.ireturn, 1) := by decide +kernel
theorem dX10_two_18 : decode cX10_two 18 = .ok (.aload_n 0, 1) := by decide +kernel
theorem dX10_two_19 : decode cX10_two 19 = .ok (.invokevirtual 114, 3) := by decide +kernel
theorem dX10_two_22 : decode cX10_two 22 = .ok (.aload_n 0, 1) := by decide +kernel
theorem dX10_two_23 : decode cX10_two 23 = .ok (.iload_n 1, 1) := by decide +kernel
theorem dX10_two_24 : decode cX10_two 24 = .ok (.iconst (-1), 1) := by decide +kernel
theorem dX10_two_25 : decode cX10_two 25 = .ok (.sipush 1200, 3) := by decide +kernel
theorem dX10_two_28 : decode cX10_two 28 = .ok (.iconst 1, 1) := by decide +kernel
theorem dX10_two_29 : decode cX10_two 29 = .ok (.iconst 1, 1) := by decide +kernel
theorem dX10_two_30 : decode cX10_two 30 = .ok (.invokevirtual 151, 3) := by decide +kernel
theorem dX10_two_33 : decode cX10_two 33 = .ok (.aload_n 0, 1) := by decide +kernel
theorem dX10_two_34 : decode cX10_two 34 = .ok (.getfield 19, 3) := by decide +kernel
theorem dX10_two_37 : decode cX10_two 37 = .ok (.iconst 2, 1) := by decide +kernel
theorem dX10_two_38 : decode cX10_two 38 = .ok (.iaload, 1) := by decide +kernel
theorem dX10_two_39 : decode cX10_two 39 = .ok (.ireturn, 1) := by decide +kernel
set_option maxRecDepth 20000 in
theorem ggX10_reading_X10_areTurns : GoodIn wsX10_reading wsX10_areTurns := goodIn_r _ [7, 8, 9, 6, 10] (by decide +kernel) (by decide +kernel)
set_option maxRecDepth 20000 in
theorem gX10_reading_X10_areTurns : GoodIn wsX10_reading (va_wsS RX10 155 yX10_areTurns wsX10_areTurns) := goodIn_app (goodIn_of _ (by decide +kernel)) ggX10_reading_X10_areTurns
set_option maxRecDepth 20000 in
theorem ggX10_reading_X10_in : GoodIn wsX10_reading wsX10_in := goodIn_r _ [10] (by decide +kernel) (by decide +kernel)
set_option maxRecDepth 20000 in
theorem gX10_reading_X10_in : GoodIn wsX10_reading (va_wsS RX10 45 yX10_in wsX10_in) := goodIn_app (goodIn_of _ (by decide +kernel)) ggX10_reading_X10_in
theorem dX10_reading_0 : decode cX10_reading 0 = .ok (.aload_n 0, 1) := by decide +kernel
theorem dX10_reading_1 : decode cX10_reading 1 = .ok (.iconst 0, 1) := by decide +kernel
theorem dX10_reading_2 : decode cX10_reading 2 = .ok (.putfield 41, 3) := by decide +kernel
theorem dX10_reading_5 : decode cX10_reading 5 = .ok (.iload_n 1, 1) := by decide +kernel
theorem dX10_reading_6 : decode cX10_reading 6 = .ok (.invokestatic 155, 3) := by decide +kernel
theorem dX10_reading_9 : decode cX10_reading 9 = .ok (.ifCond .eq 25, 3) := by decide +kernel
theorem dX10_reading_12 : decode cX10_reading 12 = .ok (.iload_n 2, 1) := by decide +kernel
theorem dX10_reading_13 : decode cX10_reading 13 = .ok (.iconst 0, 1) := by decide +kernel
theorem dX10_reading_14 : decode cX10_reading 14 = .ok (.sipush 9999, 3) := by decide +kernel
theorem dX10_reading_17 : decode cX10_reading 17 = .ok (.invokestatic 45, 3) := by decide +kernel
theorem dX10_reading_20 : decode cX10_reading 20 = .ok (.ifCond .eq 14, 3) := by decide +kernel
theorem dX10_reading_23 : decode cX10_reading 23 = .ok (.iload_n 3, 1) := by decide +kernel
theorem dX10_reading_24 : decode cX10_reading 24 = .ok (.iconst 0, 1) := by decide +kernel
theorem dX10_reading_25 : decode cX10_reading 25 = .ok (.sipush 9999, 3) := by decide +kernel
theorem dX10_reading_28 : decode cX10_reading 28 = .ok (.invokestatic 45, 3) := by decide +kernel
theorem dX10_reading_31 : decode cX10_reading 31 = .ok (.ifCond .ne 5, 3) := by decide +kernel
theorem dX10_reading_34 : decode cX10_reading 34 = .ok (.iconst (-1), 1) := by decide +kernel
theorem dX10_reading_35 : decode cX10_reading 35 = .ok (.ireturn, 1) := by decide +kernel
theorem dX10_reading_36 : decode cX10_reading 36 = .ok (.aload_n 0, 1) := by decide +kernel
theorem dX10_reading_37 : decode cX10_reading 37 = .ok (.getfield 80, 3) := by decide +kernel
theorem dX10_reading_40 : decode cX10_reading 40 = .ok (.bipush 6, 2) := by decide +kernel
theorem dX10_reading_42 : decode cX10_reading 42 = .ok (.if_icmp .ne 6, 3) := by decide +kernel
theorem dX10_reading_45 : decode cX10_reading 45 = .ok (.bipush (-3), 2) := by decide +kernel
theorem dX10_reading_47 : decode cX10_reading 47 = .ok (.ireturn, 1) := by decide +kernel
theorem dX10_reading_48 : decode cX10_reading 48 = .ok (.aload_n 0, 1) := by decide +kernel
theorem dX10_reading_49 : decode cX10_reading 49 = .ok (.getfield 25, 3) := by decide +kernel
theorem dX10_reading_52 : decode cX10_reading 52 = .ok (.iconst 3, 1) := by decide +kernel
theorem dX10_reading_53 : decode cX10_reading 53 = .ok (.aload_n 0, 1) := by decide +kernel
theorem dX10_reading_54 : decode cX10_reading 54 = .ok (.getfield 80, 3) := by decide +kernel
theorem dX10_reading_57 : decode cX10_reading 57 = .ok (.imul, 1) := by decide +kernel
theorem dX10_reading_58 : decode cX10_reading 58 = .ok (.iload_n 1, 1) := by decide +kernel
theorem dX10_reading_59 : decode cX10_reading 59 = .ok (.iastore, 1) := by decide +kernel
theorem dX10_reading_60 : decode cX10_reading 60 = .ok (.aload_n 0, 1) := by decide +kernel
theorem dX10_reading_61 : decode cX10_reading 61 = .ok (.getfield 25, 3) := by decide +kernel
theorem dX10_reading_64 : decode cX10_reading 64 = .ok (.iconst 3, 1) := by decide +kernel
theorem dX10_reading_65 : decode cX10_reading 65 = .ok (.aload_n 0, 1) := by decide +kernel
theorem dX10_reading_66 : decode cX10_reading 66 = .ok (.getfield 80, 3) := by decide +kernel
theorem dX10_reading_69 : decode cX10_reading 69 = .ok (.imul, 1) := by decide +kernel
theorem dX10_reading_70 : decode cX10_reading 70 = .ok (.iconst 1, 1) := by decide +kernel
theorem dX10_reading_71 : decode cX10_reading 71 = .ok (.iadd, 1) := by decide +kernel
theorem dX10_reading_72 : decode cX10_reading 72 = .ok (.iload_n 2, 1) := by decide +kernel
theorem dX10_reading_73 : decode cX10_reading 73 = .ok (.iastore, 1) := by decide +kernel
theorem dX10_reading_74 : decode cX10_reading 74 = .ok (.aload_n 0, 1) := by decide +kernel
theorem dX10_reading_75 : decode cX10_reading 75 = .ok (.getfield 25, 3) := by decide +kernel
theorem dX10_reading_78 : decode cX10_reading 78 = .ok (.iconst 3, 1) := by decide +kernel
theorem dX10_reading_79 : decode cX10_reading 79 = .ok (.aload_n 0, 1) := by decide +kernel
theorem dX10_reading_80 : decode cX10_reading 80 = .ok (.getfield 80, 3) := by decide +kernel
theorem dX10_reading_83 : decode cX10_reading 83 = .ok (.imul, 1) := by decide +kernel
theorem dX10_reading_84 : decode cX10_reading 84 = .ok (.iconst 2, 1) := by decide +kernel
theorem dX10_reading_85 : decode cX10_reading 85 = .ok (.iadd, 1) := by decide +kernel
theorem dX10_reading_86 : decode cX10_reading 86 = .ok (.iload_n 3, 1) := by decide +kernel
theorem dX10_reading_87 : decode cX10_reading 87 = .ok (.iastore, 1) := by decide +kernel
theorem dX10_reading_88 : decode cX10_reading 88 = .ok (.aload_n 0, 1) := by decide +kernel
theorem dX10_reading_89 : decode cX10_reading 89 = .ok (.dup, 1) := by decide +kernel
theorem dX10_reading_90 : decode cX10_reading 90 = .ok (.getfield 80, 3) := by decide +kernel
theorem dX10_reading_93 : decode cX10_reading 93 = .ok (.iconst 1, 1) := by decide +kernel
theorem dX10_reading_94 : decode cX10_reading 94 = .ok (.iadd, 1) := by decide +kernel
theorem dX10_reading_95 : decode cX10_reading 95 = .ok (.putfield 80, 3) := by decide +kernel
theorem dX10_reading_98 : decode cX10_reading 98 = .ok (.aload_n 0, 1) := by decide +kernel
theorem dX10_reading_99 : decode cX10_reading 99 = .ok (.getfield 80, 3) := by decide +kernel
theorem dX10_reading_102 : decode cX10_reading 102 = .ok (.ireturn, 1) := by decide +kernel
theorem dX10_isNear_0 : decode cX10_isNear 0 = .ok (.iload_n 0, 1) := by decide +kernel
theorem dX10_isNear_1 : decode cX10_isNear 1 = .ok (.iload_n 1, 1) := by decide +kernel
theorem dX10_isNear_2 : decode cX10_isNear 2 = .ok (.isub, 1) := by decide +kernel
theorem dX10_isNear_3 : decode cX10_isNear 3 = .ok (.iload_n 2, 1) := by decide +kernel
theorem dX10_isNear_4 : decode cX10_isNear 4 = .ok (.if_icmp .gt 14, 3) := by decide +kernel
theorem dX10_isNear_7 : decode cX10_isNear 7 = .ok (.iload_n 1, 1) := by decide +kernel
theorem dX10_isNear_8 : decode cX10_isNear 8 = .ok (.iload_n 0, 1) := by decide +kernel
theorem dX10_isNear_9 : decode cX10_isNear 9 = .ok (.isub, 1) := by decide +kernel
theorem dX10_isNear_10 : decode cX10_isNear 10 = .ok (.iload_n 2, 1) := by decide +kernel
theorem dX10_isNear_11 : decode cX10_isNear 11 = .ok (.if_icmp .gt 7, 3) := by decide +kernel
theorem dX10_isNear_14 : decode cX10_isNear 14 = .ok (.iconst 1, 1) := by decide +kernel
theorem dX10_isNear_15 : decode cX10_isNear 15 = .ok (.goto 4, 3) := by decide +kernel
theorem dX10_isNear_18 : decode cX10_isNear 18 = .ok (.iconst 0, 1) := by decide +kernel
theorem dX10_isNear_19 : decode cX10_isNear 19 = .ok (.ireturn, 1) := by decide +kernel
set_option maxRecDepth 20000 in
theorem ggX10_fitsAll_X10_woundPull : GoodIn wsX10_fitsAll wsX10_woundPull := goodIn_r _ [7, 8, 9, 10, 11, 12, 21, 22, 23, 24, 25, 26, 27, 28, 29, 30, 31, 32, 33, 34, 35, 36, 37, 38, 39, 40, 41, 42, 43, 44, 45, 46, 47] (by decide +kernel) (by decide +kernel)
set_option maxRecDepth 20000 in
theorem gX10_fitsAll_X10_woundPull : GoodIn wsX10_fitsAll (wsV RX10 110 RX10 yX10_woundPull wsX10_woundPull) := goodIn_app (goodIn_of _ (by decide +kernel)) ggX10_fitsAll_X10_woundPull
set_option maxRecDepth 20000 in
theorem ggX10_fitsAll_X10_isNear : GoodIn wsX10_fitsAll wsX10_isNear := goodIn_r _ [15] (by decide +kernel) (by decide +kernel)
set_option maxRecDepth 20000 in
theorem gX10_fitsAll_X10_isNear : GoodIn wsX10_fitsAll (va_wsS RX10 172 yX10_isNear wsX10_isNear) := goodIn_app (goodIn_of _ (by decide +kernel)) ggX10_fitsAll_X10_isNear
set_option maxRecDepth 20000 in
theorem ggX10_fitsAll_X10_freePull : GoodIn wsX10_fitsAll wsX10_freePull := goodIn_r _ [19, 20, 12, 3, 4, 5, 6, 7, 8, 9, 10, 11, 21, 22, 23, 24, 25, 26, 27, 28, 29, 30, 31, 32, 33, 34, 35, 36, 37, 38, 39, 40, 41, 42, 43, 44, 45, 46, 47] (by decide +kernel) (by decide +kernel)
set_option maxRecDepth 20000 in
theorem gX10_fitsAll_X10_freePull : GoodIn wsX10_fitsAll (wsV RX10 117 RX10 yX10_freePull wsX10_freePull) := goodIn_app (goodIn_of _ (by decide +kernel)) ggX10_fitsAll_X10_freePull
theorem dX10_fitsAll_0 : decode cX10_fitsAll 0 = .ok (.iconst 0, 1) := by decide +kernel
