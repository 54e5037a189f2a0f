theorem dX10_fitsAll_1 : decode cX10_fitsAll 1 = .ok (.istore_n 2, 1) := by decide +kernel
theorem dX10_fitsAll_2 : decode cX10_fitsAll 2 = .ok (.iload_n 2, 1) := by decide +kernel
theorem dX10_fitsAll_3 : decode cX10_fitsAll 3 = .ok (.aload_n 0, 1) := by decide +kernel
theorem dX10_fitsAll_4 : decode cX10_fitsAll 4 = .ok (.getfield 80, 3) := by decide +kernel
theorem dX10_fitsAll_7 : decode cX10_fitsAll 7 = .ok (.if_icmp .ge 67, 3) := by decide +kernel
theorem dX10_fitsAll_10 : decode cX10_fitsAll 10 = .ok (.bipush 100, 2) := by decide +kernel
theorem dX10_fitsAll_12 : decode cX10_fitsAll 12 = .ok (.aload_n 0, 1) := by decide +kernel
theorem dX10_fitsAll_13 : decode cX10_fitsAll 13 = .ok (.getfield 25, 3) := by decide +kernel
theorem dX10_fitsAll_16 : decode cX10_fitsAll 16 = .ok (.iconst 3, 1) := by decide +kernel
theorem dX10_fitsAll_17 : decode cX10_fitsAll 17 = .ok (.iload_n 2, 1) := by decide +kernel
theorem dX10_fitsAll_18 : decode cX10_fitsAll 18 = .ok (.imul, 1) := by decide +kernel
theorem dX10_fitsAll_19 : decode cX10_fitsAll 19 = .ok (.iaload, 1) := by decide +kernel
theorem dX10_fitsAll_20 : decode cX10_fitsAll 20 = .ok (.imul, 1) := by decide +kernel
theorem dX10_fitsAll_21 : decode cX10_fitsAll 21 = .ok (.istore_n 3, 1) := by decide +kernel
theorem dX10_fitsAll_22 : decode cX10_fitsAll 22 = .ok (.aload_n 0, 1) := by decide +kernel
theorem dX10_fitsAll_23 : decode cX10_fitsAll 23 = .ok (.iload_n 3, 1) := by decide +kernel
theorem dX10_fitsAll_24 : decode cX10_fitsAll 24 = .ok (.invokevirtual 110, 3) := by decide +kernel
theorem dX10_fitsAll_27 : decode cX10_fitsAll 27 = .ok (.aload_n 0, 1) := by decide +kernel
theorem dX10_fitsAll_28 : decode cX10_fitsAll 28 = .ok (.getfield 25, 3) := by decide +kernel
theorem dX10_fitsAll_31 : decode cX10_fitsAll 31 = .ok (.iconst 3, 1) := by decide +kernel
theorem dX10_fitsAll_32 : decode cX10_fitsAll 32 = .ok (.iload_n 2, 1) := by decide +kernel
theorem dX10_fitsAll_33 : decode cX10_fitsAll 33 = .ok (.imul, 1) := by decide +kernel
theorem dX10_fitsAll_34 : decode cX10_fitsAll 34 = .ok (.iconst 1, 1) := by decide +kernel
theorem dX10_fitsAll_35 : decode cX10_fitsAll 35 = .ok (.iadd, 1) := by decide +kernel
theorem dX10_fitsAll_36 : decode cX10_fitsAll 36 = .ok (.iaload, 1) := by decide +kernel
theorem dX10_fitsAll_37 : decode cX10_fitsAll 37 = .ok (.iload_n 1, 1) := by decide +kernel
theorem dX10_fitsAll_38 : decode cX10_fitsAll 38 = .ok (.invokestatic 172, 3) := by decide +kernel
theorem dX10_fitsAll_41 : decode cX10_fitsAll 41 = .ok (.ifCond .eq 25, 3) := by decide +kernel
theorem dX10_fitsAll_44 : decode cX10_fitsAll 44 = .ok (.aload_n 0, 1) := by decide +kernel
theorem dX10_fitsAll_45 : decode cX10_fitsAll 45 = .ok (.iload_n 3, 1) := by decide +kernel
theorem dX10_fitsAll_46 : decode cX10_fitsAll 46 = .ok (.invokevirtual 117, 3) := by decide +kernel
theorem dX10_fitsAll_49 : decode cX10_fitsAll 49 = .ok (.aload_n 0, 1) := by decide +kernel
theorem dX10_fitsAll_50 : decode cX10_fitsAll 50 = .ok (.getfield 25, 3) := by decide +kernel
theorem dX10_fitsAll_53 : decode cX10_fitsAll 53 = .ok (.iconst 3, 1) := by decide +kernel
theorem dX10_fitsAll_54 : decode cX10_fitsAll 54 = .ok (.iload_n 2, 1) := by decide +kernel
theorem dX10_fitsAll_55 : decode cX10_fitsAll 55 = .ok (.imul, 1) := by decide +kernel
theorem dX10_fitsAll_56 : decode cX10_fitsAll 56 = .ok (.iconst 2, 1) := by decide +kernel
theorem dX10_fitsAll_57 : decode cX10_fitsAll 57 = .ok (.iadd, 1) := by decide +kernel
theorem dX10_fitsAll_58 : decode cX10_fitsAll 58 = .ok (.iaload, 1) := by decide +kernel
theorem dX10_fitsAll_59 : decode cX10_fitsAll 59 = .ok (.iload_n 1, 1) := by decide +kernel
theorem dX10_fitsAll_60 : decode cX10_fitsAll 60 = .ok (.invokestatic 172, 3) := by decide +kernel
theorem dX10_fitsAll_63 : decode cX10_fitsAll 63 = .ok (.ifCond .ne 5, 3) := by decide +kernel
theorem dX10_fitsAll_66 : decode cX10_fitsAll 66 = .ok (.iconst 0, 1) := by decide +kernel
theorem dX10_fitsAll_67 : decode cX10_fitsAll 67 = .ok (.ireturn, 1) := by decide +kernel
theorem dX10_fitsAll_68 : decode cX10_fitsAll 68 = .ok (.iinc 2 1, 3) := by decide +kernel
theorem dX10_fitsAll_71 : decode cX10_fitsAll 71 = .ok (.goto (-69), 3) := by decide +kernel
theorem dX10_fitsAll_74 : decode cX10_fitsAll 74 = .ok (.iconst 1, 1) := by decide +kernel
theorem dX10_fitsAll_75 : decode cX10_fitsAll 75 = .ok (.ireturn, 1) := by decide +kernel
theorem dX10_widens_0 : decode cX10_widens 0 = .ok (.aload_n 0, 1) := by decide +kernel
theorem dX10_widens_1 : decode cX10_widens 1 = .ok (.getfield 34, 3) := by decide +kernel
theorem dX10_widens_4 : decode cX10_widens 4 = .ok (.iload_n 1, 1) := by decide +kernel
theorem dX10_widens_5 : decode cX10_widens 5 = .ok (.aload_n 0, 1) := by decide +kernel
theorem dX10_widens_6 : decode cX10_widens 6 = .ok (.getfield 34, 3) := by decide +kernel
theorem dX10_widens_9 : decode cX10_widens 9 = .ok (.iconst 0, 1) := by decide +kernel
theorem dX10_widens_10 : decode cX10_widens 10 = .ok (.iaload, 1) := by decide +kernel
theorem dX10_widens_11 : decode cX10_widens 11 = .ok (.ifCond .eq 13, 3) := by decide +kernel
theorem dX10_widens_14 : decode cX10_widens 14 = .ok (.iload_n 2, 1) := by decide +kernel
theorem dX10_widens_15 : decode cX10_widens 15 = .ok (.aload_n 0, 1) := by decide +kernel
theorem dX10_widens_16 : decode cX10_widens 16 = .ok (.getfield 34, 3) := by decide +kernel
theorem dX10_widens_19 : decode cX10_widens 19 = .ok (.iload_n 1, 1) := by decide +kernel
theorem dX10_widens_20 : decode cX10_widens 20 = .ok (.iaload, 1) := by decide +kernel
theorem dX10_widens_21 : decode cX10_widens 21 = .ok (.if_icmp .ge 7, 3) := by decide +kernel
theorem dX10_widens_24 : decode cX10_widens 24 = .ok (.iload_n 2, 1) := by decide +kernel
theorem dX10_widens_25 : decode cX10_widens 25 = .ok (.goto 9, 3) := by decide +kernel
theorem dX10_widens_28 : decode cX10_widens 28 = .ok (.aload_n 0, 1) := by decide +kernel
theorem dX10_widens_29 : decode cX10_widens 29 = .ok (.getfield 34, 3) := by decide +kernel
theorem dX10_widens_32 : decode cX10_widens 32 = .ok (.iload_n 1, 1) := by decide +kernel
theorem dX10_widens_33 : decode cX10_widens 33 = .ok (.iaload, 1) := by decide +kernel
theorem dX10_widens_34 : decode cX10_widens 34 = .ok (.iastore, 1) := by decide +kernel
theorem dX10_widens_35 : decode cX10_widens 35 = .ok (.aload_n 0, 1) := by decide +kernel
theorem dX10_widens_36 : decode cX10_widens 36 = .ok (.getfield 34, 3) := by decide +kernel
theorem dX10_widens_39 : decode cX10_widens 39 = .ok (.iload_n 1, 1) := by decide +kernel
theorem dX10_widens_40 : decode cX10_widens 40 = .ok (.iconst 1, 1) := by decide +kernel
theorem dX10_widens_41 : decode cX10_widens 41 = .ok (.iadd, 1) := by decide +kernel
theorem dX10_widens_42 : decode cX10_widens 42 = .ok (.aload_n 0, 1) := by decide +kernel
theorem dX10_widens_43 : decode cX10_widens 43 = .ok (.getfield 34, 3) := by decide +kernel
theorem dX10_widens_46 : decode cX10_widens 46 = .ok (.iconst 0, 1) := by decide +kernel
theorem dX10_widens_47 : decode cX10_widens 47 = .ok (.iaload, 1) := by decide +kernel
theorem dX10_widens_48 : decode cX10_widens 48 = .ok (.ifCond .eq 15, 3) := by decide +kernel
theorem dX10_widens_51 : decode cX10_widens 51 = .ok (.iload_n 2, 1) := by decide +kernel
theorem dX10_widens_52 : decode cX10_widens 52 = .ok (.aload_n 0, 1) := by decide +kernel
theorem dX10_widens_53 : decode cX10_widens 53 = .ok (.getfield 34, 3) := by decide +kernel
theorem dX10_widens_56 : decode cX10_widens 56 = .ok (.iload_n 1, 1) := by decide +kernel
theorem dX10_widens_57 : decode cX10_widens 57 = .ok (.iconst 1, 1) := by decide +kernel
theorem dX10_widens_58 : decode cX10_widens 58 = .ok (.iadd, 1) := by decide +kernel
theorem dX10_widens_59 : decode cX10_widens 59 = .ok (.iaload, 1) := by decide +kernel
theorem dX10_widens_60 : decode cX10_widens 60 = .ok (.if_icmp .le 7, 3) := by decide +kernel
theorem dX10_widens_63 : decode cX10_widens 63 = .ok (.iload_n 2, 1) := by decide +kernel
theorem dX10_widens_64 : decode cX10_widens 64 = .ok (.goto 11, 3) := by decide +kernel
theorem dX10_widens_67 : decode cX10_widens 67 = .ok (.aload_n 0, 1) := by decide +kernel
theorem dX10_widens_68 : decode cX10_widens 68 = .ok (.getfield 34, 3) := by decide +kernel
theorem dX10_widens_71 : decode cX10_widens 71 = .ok (.iload_n 1, 1) := by decide +kernel
theorem dX10_widens_72 : decode cX10_widens 72 = .ok (.iconst 1, 1) := by decide +kernel
theorem dX10_widens_73 : decode cX10_widens 73 = .ok (.iadd, 1) := by decide +kernel
theorem dX10_widens_74 : decode cX10_widens 74 = .ok (.iaload, 1) := by decide +kernel
theorem dX10_widens_75 : decode cX10_widens 75 = .ok (.iastore, 1) := by decide +kernel
theorem dX10_widens_76 : decode cX10_widens 76 = .ok (.return_, 1) := by decide +kernel
set_option maxRecDepth 20000 in
theorem ggX10_fits_X10_in : GoodIn wsX10_fits wsX10_in := goodIn_r _ [8] (by decide +kernel) (by decide +kernel)
set_option maxRecDepth 20000 in
theorem gX10_fits_X10_in : GoodIn wsX10_fits (va_wsS RX10 45 yX10_in wsX10_in) := goodIn_app (goodIn_of _ (by decide +kernel)) ggX10_fits_X10_in
set_option maxRecDepth 20000 in
theorem ggX10_fits_X10_asItIs : GoodIn wsX10_fits wsX10_asItIs := goodIn_r _ [12, 13, 3, 4, 14, 15, 16, 17, 18, 40, 41, 42, 43, 44, 45, 46, 47, 48, 49, 50, 51, 52, 53, 54, 55, 56, 57, 58, 59, 60, 61, 62, 63, 64, 65, 66] (by decide +kernel) (by decide +kernel)
set_option maxRecDepth 20000 in
theorem gX10_fits_X10_asItIs : GoodIn wsX10_fits (wsV RX10 114 RX10 yX10_asItIs wsX10_asItIs) := goodIn_app (goodIn_of _ (by decide +kernel)) ggX10_fits_X10_asItIs
set_option maxRecDepth 20000 in
theorem ggX10_fits_X10_fitsAll : GoodIn wsX10_fits wsX10_fitsAll := goodIn_r _ [22, 23, 24, 25, 26, 27, 7, 28, 3, 15, 16, 14, 13, 29, 30, 31, 32, 33, 34, 35, 4, 40, 41, 42, 43, 44, 45, 46, 47, 48, 49, 50, 51, 52, 53, 54, 55, 56, 57, 58, 59, 60, 61, 62, 63, 64, 65, 66] (by decide +kernel) (by decide +kernel)
set_option maxRecDepth 20000 in
theorem gX10_fits_X10_fitsAll : GoodIn wsX10_fits (wsV RX10 175 RX10 yX10_fitsAll wsX10_fitsAll) := goodIn_app (goodIn_of _ (by decide +kernel)) ggX10_fits_X10_fitsAll
set_option maxRecDepth 20000 in
theorem ggX10_fits_X10_widens : GoodIn wsX10_fits wsX10_widens := goodIn_r _ [39, 2, 40, 41, 42, 43, 44, 45, 46, 47, 48, 49, 50, 51, 52, 53, 54, 55, 56, 57, 58, 59, 60, 61, 62, 63, 64, 65, 66] (by decide +kernel) (by decide +kernel)
set_option maxRecDepth 20000 in
theorem gX10_fits_X10_widens : GoodIn wsX10_fits (wsV RX10 178 RX10 yX10_widens wsX10_widens) := goodIn_app (goodIn_of _ (by decide +kernel)) ggX10_fits_X10_widens
theorem dX10_fits_0 : decode cX10_fits 0 = .ok (.aload_n 0, 1) := by decide +kernel
theorem dX10_fits_1 : decode cX10_fits 1 = .ok (.iconst 0, 1) := by decide +kernel
theorem dX10_fits_2 : decode cX10_fits 2 = .ok (.putfield 41, 3) := by decide +kernel
theorem dX10_fits_5 : decode cX10_fits 5 = .ok (.iload_n 1, 1) := by decide +kernel
theorem dX10_fits_6 : decode cX10_fits 6 = .ok (.iconst 0, 1) := by decide +kernel
theorem dX10_fits_7 : decode cX10_fits 7 = .ok (.sipush 999, 3) := by decide +kernel
theorem dX10_fits_10 : decode cX10_fits 10 = .ok (.invokestatic 45, 3) := by decide +kernel
theorem dX10_fits_13 : decode cX10_fits 13 = .ok (.ifCond .eq 12, 3) := by decide +kernel
theorem dX10_fits_16 : decode cX10_fits 16 = .ok (.iload_n 2, 1) := by decide +kernel
theorem dX10_fits_17 : decode cX10_fits 17 = .ok (.iconst 0, 1) := by decide +kernel
theorem dX10_fits_18 : decode cX10_fits 18 = .ok (.iconst 4, 1) := by decide +kernel
theorem dX10_fits_19 : decode cX10_fits 19 = .ok (.invokestatic 45, 3) := by decide +kernel
theorem dX10_fits_22 : decode cX10_fits 22 = .ok (.ifCond .ne 5, 3) := by decide +kernel
theorem dX10_fits_25 : decode cX10_fits 25 = .ok (.iconst (-1), 1) := by decide +kernel
theorem dX10_fits_26 : decode cX10_fits 26 = .ok (.ireturn, 1) := by decide +kernel
theorem dX10_fits_27 : decode cX10_fits 27 = .ok (.aload_n 0, 1) := by decide +kernel
theorem dX10_fits_28 : decode cX10_fits 28 = .ok (.invokevirtual 114, 3) := by decide +kernel
theorem dX10_fits_31 : decode cX10_fits 31 = .ok (.aload_n 0, 1) := by decide +kernel
theorem dX10_fits_32 : decode cX10_fits 32 = .ok (.getfield 34, 3) := by decide +kernel
theorem dX10_fits_35 : decode cX10_fits 35 = .ok (.iconst 0, 1) := by decide +kernel
theorem dX10_fits_36 : decode cX10_fits 36 = .ok (.iconst 0, 1) := by decide +kernel
theorem dX10_fits_37 : decode cX10_fits 37 = .ok (.iastore, 1) := by decide +kernel
theorem dX10_fits_38 : decode cX10_fits 38 = .ok (.aload_n 0, 1) := by decide +kernel
theorem dX10_fits_39 : decode cX10_fits 39 = .ok (.iconst 1, 1) := by decide +kernel
theorem dX10_fits_40 : decode cX10_fits 40 = .ok (.putfield 89, 3) := by decide +kernel
theorem dX10_fits_43 : decode cX10_fits 43 = .ok (.aload_n 0, 1) := by decide +kernel
theorem dX10_fits_44 : decode cX10_fits 44 = .ok (.getfield 89, 3) := by decide +kernel
theorem dX10_fits_47 : decode cX10_fits 47 = .ok (.bipush 100, 2) := by decide +kernel
theorem dX10_fits_49 : decode cX10_fits 49 = .ok (.if_icmp .ge 79, 3) := by decide +kernel
theorem dX10_fits_52 : decode cX10_fits 52 = .ok (.aload_n 0, 1) := by decide +kernel
theorem dX10_fits_53 : decode cX10_fits 53 = .ok (.iconst 0, 1) := by decide +kernel
theorem dX10_fits_54 : decode cX10_fits 54 = .ok (.putfield 92, 3) := by decide +kernel
theorem dX10_fits_57 : decode cX10_fits 57 = .ok (.aload_n 0, 1) := by decide +kernel
theorem dX10_fits_58 : decode cX10_fits 58 = .ok (.getfield 92, 3) := by decide +kernel
theorem dX10_fits_61 : decode cX10_fits 61 = .ok (.bipush 91, 2) := by decide +kernel
theorem dX10_fits_63 : decode cX10_fits 63 = .ok (.if_icmp .ge 52, 3) := by decide +kernel
theorem dX10_fits_66 : decode cX10_fits 66 = .ok (.aload_n 0, 1) := by decide +kernel
theorem dX10_fits_67 : decode cX10_fits 67 = .ok (.iload_n 1, 1) := by decide +kernel
theorem dX10_fits_68 : decode cX10_fits 68 = .ok (.invokevirtual 175, 3) := by decide +kernel
theorem dX10_fits_71 : decode cX10_fits 71 = .ok (.ifCond .eq 31, 3) := by decide +kernel
theorem dX10_fits_74 : decode cX10_fits 74 = .ok (.aload_n 0, 1) := by decide +kernel
theorem dX10_fits_75 : decode cX10_fits 75 = .ok (.iconst 1, 1) := by decide +kernel
theorem dX10_fits_76 : decode cX10_fits 76 = .ok (.aload_n 0, 1) := by decide +kernel
theorem dX10_fits_77 : decode cX10_fits 77 = .ok (.getfield 89, 3) := by decide +kernel
theorem dX10_fits_80 : decode cX10_fits 80 = .ok (.invokevirtual 178, 3) := by decide +kernel
theorem dX10_fits_83 : decode cX10_fits 83 = .ok (.aload_n 0, 1) := by decide +kernel
theorem dX10_fits_84 : decode cX10_fits 84 = .ok (.iconst 3, 1) := by decide +kernel
theorem dX10_fits_85 : decode cX10_fits 85 = .ok (.aload_n 0, 1) := by decide +kernel
theorem dX10_fits_86 : decode cX10_fits 86 = .ok (.getfield 92, 3) := by decide +kernel
theorem dX10_fits_89 : decode cX10_fits 89 = .ok (.invokevirtual 178, 3) := by decide +kernel
theorem dX10_fits_92 : decode cX10_fits 92 = .ok (.aload_n 0, 1) := by decide +kernel
theorem dX10_fits_93 : decode cX10_fits 93 = .ok (.getfield 34, 3) := by decide +kernel
theorem dX10_fits_96 : decode cX10_fits 96 = .ok (.iconst 0, 1) := by decide +kernel
theorem dX10_fits_97 : decode cX10_fits 97 = .ok (.dup2, 1) := by decide +kernel
theorem dX10_fits_98 : decode cX10_fits 98 = .ok (.iaload, 1) := by decide +kernel
theorem dX10_fits_99 : decode cX10_fits 99 = .ok (.iconst 1, 1) := by decide +kernel
theorem dX10_fits_100 : decode cX10_fits 100 = .ok (.iadd, 1) := by decide +kernel
theorem dX10_fits_101 : decode cX10_fits 101 = .ok (.iastore, 1) := by decide +kernel
theorem dX10_fits_102 : decode cX10_fits 102 = .ok (.aload_n 0, 1) := by decide +kernel
theorem dX10_fits_103 : decode cX10_fits 103 = .ok (.dup, 1) := by decide +kernel
theorem dX10_fits_104 : decode cX10_fits 104 = .ok (.getfield 92, 3) := by decide +kernel
theorem dX10_fits_107 : decode cX10_fits 107 = .ok (.iconst 1, 1) := by decide +kernel
theorem dX10_fits_108 : decode cX10_fits 108 = .ok (.iadd, 1) := by decide +kernel
theorem dX10_fits_109 : decode cX10_fits 109 = .ok (.putfield 92, 3) := by decide +kernel
theorem dX10_fits_112 : decode cX10_fits 112 = .ok (.goto (-55), 3) := by decide +kernel
theorem dX10_fits_115 : decode cX10_fits 115 = .ok (.aload_n 0, 1) := by decide +kernel
theorem dX10_fits_116 : decode cX10_fits 116 = .ok (.dup, 1) := by decide +kernel
theorem dX10_fits_117 : decode cX10_fits 117 = .ok (.getfield 89, 3) := by decide +kernel
theorem dX10_fits_120 : decode cX10_fits 120 = .ok (.iconst 1, 1) := by decide +kernel
theorem dX10_fits_121 : decode cX10_fits 121 = .ok (.iadd, 1) := by decide +kernel
theorem dX10_fits_122 : decode cX10_fits 122 = .ok (.putfield 89, 3) := by decide +kernel
theorem dX10_fits_125 : decode cX10_fits 125 = .ok (.goto (-82), 3) := by decide +kernel
theorem dX10_fits_128 : decode cX10_fits 128 = .ok (.iload_n 2, 1) := by decide +kernel
theorem dX10_fits_129 : decode cX10_fits 129 = .ok (.ifCond .le 17, 3) := by decide +kernel
theorem dX10_fits_132 : decode cX10_fits 132 = .ok (.aload_n 0, 1) := by decide +kernel
theorem dX10_fits_133 : decode cX10_fits 133 = .ok (.getfield 34, 3) := by decide +kernel
theorem dX10_fits_136 : decode cX10_fits 136 = .ok (.iconst 0, 1) := by decide +kernel
theorem dX10_fits_137 : decode cX10_fits 137 = .ok (.iaload, 1) := by decide +kernel
theorem dX10_fits_138 : decode cX10_fits 138 = .ok (.ifCond .ne 8, 3) := by decide +kernel
theorem dX10_fits_141 : decode cX10_fits 141 = .ok (.bipush (-4), 2) := by decide +kernel
theorem dX10_fits_143 : decode cX10_fits 143 = .ok (.goto 9, 3) := by decide +kernel
theorem dX10_fits_146 : decode cX10_fits 146 = .ok (.aload_n 0, 1) := by decide +kernel
theorem dX10_fits_147 : decode cX10_fits 147 = .ok (.getfield 34, 3) := by decide +kernel
theorem dX10_fits_150 : decode cX10_fits 150 = .ok (.iload_n 2, 1) := by decide +kernel
theorem dX10_fits_151 : decode cX10_fits 151 = .ok (.iaload, 1) := by decide +kernel
theorem dX10_fits_152 : decode cX10_fits 152 = .ok (.ireturn, 1) := by decide +kernel
set_option maxRecDepth 20000 in
theorem ggX10_mark_X10_in : GoodIn wsX10_mark wsX10_in := goodIn_r _ [8] (by decide +kernel) (by decide +kernel)
set_option maxRecDepth 20000 in
theorem gX10_mark_X10_in : GoodIn wsX10_mark (va_wsS RX10 45 yX10_in wsX10_in) := goodIn_app (goodIn_of _ (by decide +kernel)) ggX10_mark_X10_in
theorem dX10_mark_0 : decode cX10_mark 0 = .ok (.aload_n 0, 1) := by decide +kernel
theorem dX10_mark_1 : decode cX10_mark 1 = .ok (.iconst 0, 1) := by decide +kernel
theorem dX10_mark_2 : decode cX10_mark 2 = .ok (.putfield 41, 3) := by decide +kernel
theorem dX10_mark_5 : decode cX10_mark 5 = .ok (.iload_n 1, 1) := by decide +kernel
theorem dX10_mark_6 : decode cX10_mark 6 = .ok (.iconst 1, 1) := by decide +kernel
theorem dX10_mark_7 : decode cX10_mark 7 = .ok (.ldc 163, 2) := by decide +kernel
theorem dX10_mark_9 : decode cX10_mark 9 = .ok (.invokestatic 45, 3) := by decide +kernel
theorem dX10_mark_12 : decode cX10_mark 12 = .ok (.ifCond .eq 14, 3) := by decide +kernel
theorem dX10_mark_15 : decode cX10_mark 15 = .ok (.iload_n 2, 1) := by decide +kernel
theorem dX10_mark_16 : decode cX10_mark 16 = .ok (.iconst 0, 1) := by decide +kernel
theorem dX10_mark_17 : decode cX10_mark 17 = .ok (.sipush 600, 3) := by decide +kernel
theorem dX10_mark_20 : decode cX10_mark 20 = .ok (.invokestatic 45, 3) := by decide +kernel
theorem dX10_mark_23 : decode cX10_mark 23 = .ok (.ifCond .ne 5, 3) := by decide +kernel
theorem dX10_mark_26 : decode cX10_mark 26 = .ok (.iconst (-1), 1) := by decide +kernel
theorem dX10_mark_27 : decode cX10_mark 27 = .ok (.ireturn, 1) := by decide +kernel
theorem dX10_mark_28 : decode cX10_mark 28 = .ok (.aload_n 0, 1) := by decide +kernel
theorem dX10_mark_29 : decode cX10_mark 29 = .ok (.getfield 83, 3) := by decide +kernel
theorem dX10_mark_32 : decode cX10_mark 32 = .ok (.iconst 4, 1) := by decide +kernel
theorem dX10_mark_33 : decode cX10_mark 33 = .ok (.if_icmp .ne 6, 3) := by decide +kernel
theorem dX10_mark_36 : decode cX10_mark 36 = .ok (.bipush (-3), 2) := by decide +kernel
theorem dX10_mark_38 : decode cX10_mark 38 = .ok (.ireturn, 1) := by decide +kernel
theorem dX10_mark_39 : decode cX10_mark 39 = .ok (.aload_n 0, 1) := by decide +kernel
theorem dX10_mark_40 : decode cX10_mark 40 = .ok (.getfield 28, 3) := by decide +kernel
theorem dX10_mark_43 : decode cX10_mark 43 = .ok (.iconst 2, 1) := by decide +kernel
theorem dX10_mark_44 : decode cX10_mark 44 = .ok (.aload_n 0, 1) := by decide +kernel
theorem dX10_mark_45 : decode cX10_mark 45 = .ok (.getfield 83, 3) := by decide +kernel
theorem dX10_mark_48 : decode cX10_mark 48 = .ok (.imul, 1) := by decide +kernel
theorem dX10_mark_49 : decode cX10_mark 49 = .ok (.iload_n 1, 1) := by decide +kernel
theorem dX10_mark_50 : decode cX10_mark 50 = .ok (.iastore, 1) := by decide +kernel
theorem dX10_mark_51 : decode cX10_mark 51 = .ok (.aload_n 0, 1) := by decide +kernel
theorem dX10_mark_52 : decode cX10_mark 52 = .ok (.getfield 28, 3) := by decide +kernel
theorem dX10_mark_55 : decode cX10_mark 55 = .ok (.iconst 2, 1) := by decide +kernel
theorem dX10_mark_56 : decode cX10_mark 56 = .ok (.aload_n 0, 1) := by decide +kernel
theorem dX10_mark_57 : decode cX10_mark 57 = .ok (.getfield 83, 3) := by decide +kernel
theorem dX10_mark_60 : decode cX10_mark 60 = .ok (.imul, 1) := by decide +kernel
theorem dX10_mark_61 : decode cX10_mark 61 = .ok (.iconst 1, 1) := by decide +kernel
theorem dX10_mark_62 : decode cX10_mark 62 = .ok (.iadd, 1) := by decide +kernel
theorem dX10_mark_63 : decode cX10_mark 63 = .ok (.iload_n 2, 1) := by decide +kernel
theorem dX10_mark_64 : decode cX10_mark 64 = .ok (.iastore, 1) := by decide +kernel
theorem dX10_mark_65 : decode cX10_mark 65 = .ok (.aload_n 0, 1) := by decide +kernel
theorem dX10_mark_66 : decode cX10_mark 66 = .ok (.dup, 1) := by decide +kernel
theorem dX10_mark_67 : decode cX10_mark 67 = .ok (.getfield 83, 3) := by decide +kernel
theorem dX10_mark_70 : decode cX10_mark 70 = .ok (.iconst 1, 1) := by decide +kernel
theorem dX10_mark_71 : decode cX10_mark 71 = .ok (.iadd, 1) := by decide +kernel
theorem dX10_mark_72 : decode cX10_mark 72 = .ok (.putfield 83, 3) := by decide +kernel
theorem dX10_mark_75 : decode cX10_mark 75 = .ok (.aload_n 0, 1) := by decide +kernel
theorem dX10_mark_76 : decode cX10_mark 76 = .ok (.getfield 83, 3) := by decide +kernel
theorem dX10_mark_79 : decode cX10_mark 79 = .ok (.ireturn, 1) := by decide +kernel
set_option maxRecDepth 20000 in
theorem ggX10_runsByMarks_X10_tenth : GoodIn wsX10_runsByMarks wsX10_tenth := goodIn_r _ [9, 10, 11, 12, 13, 14, 15, 16, 17, 8, 18, 19, 20, 21, 22, 23, 24, 25, 26, 27, 28, 29, 30, 31, 32, 33, 34, 35, 36, 37, 38, 39, 40, 41, 42, 43, 44, 45, 46, 47, 48, 49, 50, 51, 52, 53, 54, 55, 56, 57, 58, 59, 60, 61, 62, 63, 64] (by decide +kernel) (by decide +kernel)
set_option maxRecDepth 20000 in
theorem gX10_runsByMarks_X10_tenth : GoodIn wsX10_runsByMarks (wsV RX10 144 RX10 yX10_tenth wsX10_tenth) := goodIn_app (goodIn_of _ (by decide +kernel)) ggX10_runsByMarks_X10_tenth
theorem dX10_runsByMarks_0 : decode cX10_runsByMarks 0 = .ok (.iconst 0, 1) := by decide +kernel
theorem dX10_runsByMarks_1 : decode cX10_runsByMarks 1 = .ok (.istore_n 2, 1) := by decide +kernel
theorem dX10_runsByMarks_2 : decode cX10_runsByMarks 2 = .ok (.iload_n 2, 1) := by decide +kernel
theorem dX10_runsByMarks_3 : decode cX10_runsByMarks 3 = .ok (.iconst 4, 1) := by decide +kernel
theorem dX10_runsByMarks_4 : decode cX10_runsByMarks 4 = .ok (.if_icmp .ge 17, 3) := by decide +kernel
theorem dX10_runsByMarks_7 : decode cX10_runsByMarks 7 = .ok (.aload_n 0, 1) := by decide +kernel
theorem dX10_runsByMarks_8 : decode cX10_runsByMarks 8 = .ok (.getfield 31, 3) := by decide +kernel
theorem dX10_runsByMarks_11 : decode cX10_runsByMarks 11 = .ok (.iload_n 2, 1) := by decide +kernel
theorem dX10_runsByMarks_12 : decode cX10_runsByMarks 12 = .ok (.bipush (-4), 2) := by decide +kernel
theorem dX10_runsByMarks_14 : decode cX10_runsByMarks 14 = .ok (.iastore, 1) := by decide +kernel
theorem dX10_runsByMarks_15 : decode cX10_runsByMarks 15 = .ok (.iinc 2 1, 3) := by decide +kernel
theorem dX10_runsByMarks_18 : decode cX10_runsByMarks 18 = .ok (.goto (-16), 3) := by decide +kernel
theorem dX10_runsByMarks_21 : decode cX10_runsByMarks 21 = .ok (.iconst 0, 1) := by decide +kernel
theorem dX10_runsByMarks_22 : decode cX10_runsByMarks 22 = .ok (.istore_n 2, 1) := by decide +kernel
theorem dX10_runsByMarks_23 : decode cX10_runsByMarks 23 = .ok (.iload_n 2, 1) := by decide +kernel
theorem dX10_runsByMarks_24 : decode cX10_runsByMarks 24 = .ok (.bipush 6, 2) := by decide +kernel
theorem dX10_runsByMarks_26 : decode cX10_runsByMarks 26 = .ok (.if_icmp .ge 16, 3) := by decide +kernel
theorem dX10_runsByMarks_29 : decode cX10_runsByMarks 29 = .ok (.aload_n 0, 1) := by decide +kernel
theorem dX10_runsByMarks_30 : decode cX10_runsByMarks 30 = .ok (.getfield 19, 3) := by decide +kernel
theorem dX10_runsByMarks_33 : decode cX10_runsByMarks 33 = .ok (.iload_n 2, 1) := by decide +kernel
theorem dX10_runsByMarks_34 : decode cX10_runsByMarks 34 = .ok (.iconst 0, 1) := by decide +kernel
theorem dX10_runsByMarks_35 : decode cX10_runsByMarks 35 = .ok (.iastore, 1) := by decide +kernel
theorem dX10_runsByMarks_36 : decode cX10_runsByMarks 36 = .ok (.iinc 2 1, 3) := by decide +kernel
theorem dX10_runsByMarks_39 : decode cX10_runsByMarks 39 = .ok (.goto (-16), 3) := by decide +kernel
theorem dX10_runsByMarks_42 : decode cX10_runsByMarks 42 = .ok (.aload_n 0, 1) := by decide +kernel
theorem dX10_runsByMarks_43 : decode cX10_runsByMarks 43 = .ok (.getfield 19, 3) := by decide +kernel
theorem dX10_runsByMarks_46 : decode cX10_runsByMarks 46 = .ok (.iconst 0, 1) := by decide +kernel
theorem dX10_runsByMarks_47 : decode cX10_runsByMarks 47 = .ok (.bipush 100, 2) := by decide +kernel
theorem dX10_runsByMarks_49 : decode cX10_runsByMarks 49 = .ok (.iload_n 1, 1) := by decide +kernel
theorem dX10_runsByMarks_50 : decode cX10_runsByMarks 50 = .ok (.imul, 1) := by decide +kernel
theorem dX10_runsByMarks_51 : decode cX10_runsByMarks 51 = .ok (.iastore, 1) := by decide +kernel
theorem dX10_runsByMarks_52 : decode cX10_runsByMarks 52 = .ok (.aload_n 0, 1) := by decide +kernel
theorem dX10_runsByMarks_53 : decode cX10_runsByMarks 53 = .ok (.getfield 19, 3) := by decide +kernel
theorem dX10_runsByMarks_56 : decode cX10_runsByMarks 56 = .ok (.iconst 5, 1) := by decide +kernel
theorem dX10_runsByMarks_57 : decode cX10_runsByMarks 57 = .ok (.iaload, 1) := by decide +kernel
theorem dX10_runsByMarks_58 : decode cX10_runsByMarks 58 = .ok (.sipush 600, 3) := by decide +kernel
theorem dX10_runsByMarks_61 : decode cX10_runsByMarks 61 = .ok (.if_icmp .ge 98, 3) := by decide +kernel
theorem dX10_runsByMarks_64 : decode cX10_runsByMarks 64 = .ok (.aload_n 0, 1) := by decide +kernel
theorem dX10_runsByMarks_65 : decode cX10_runsByMarks 65 = .ok (.getfield 19, 3) := by decide +kernel
theorem dX10_runsByMarks_68 : decode cX10_runsByMarks 68 = .ok (.iconst 0, 1) := by decide +kernel
theorem dX10_runsByMarks_69 : decode cX10_runsByMarks 69 = .ok (.iaload, 1) := by decide +kernel
theorem dX10_runsByMarks_70 : decode cX10_runsByMarks 70 = .ok (.ifCond .gt 12, 3) := by decide +kernel
theorem dX10_runsByMarks_73 : decode cX10_runsByMarks 73 = .ok (.aload_n 0, 1) := by decide +kernel
theorem dX10_runsByMarks_74 : decode cX10_runsByMarks 74 = .ok (.getfield 19, 3) := by decide +kernel
theorem dX10_runsByMarks_77 : decode cX10_runsByMarks 77 = .ok (.iconst 1, 1) := by decide +kernel
theorem dX10_runsByMarks_78 : decode cX10_runsByMarks 78 = .ok (.iaload, 1) := by decide +kernel
theorem dX10_runsByMarks_79 : decode cX10_runsByMarks 79 = .ok (.ifCond .le 80, 3) := by decide +kernel
theorem dX10_runsByMarks_82 : decode cX10_runsByMarks 82 = .ok (.aload_n 0, 1) := by decide +kernel
theorem dX10_runsByMarks_83 : decode cX10_runsByMarks 83 = .ok (.aload_n 0, 1) := by decide +kernel
theorem dX10_runsByMarks_84 : decode cX10_runsByMarks 84 = .ok (.getfield 19, 3) := by decide +kernel
theorem dX10_runsByMarks_87 : decode cX10_runsByMarks 87 = .ok (.iconst (-1), 1) := by decide +kernel
theorem dX10_runsByMarks_88 : decode cX10_runsByMarks 88 = .ok (.invokevirtual 144, 3) := by decide +kernel
theorem dX10_runsByMarks_91 : decode cX10_runsByMarks 91 = .ok (.iconst 0, 1) := by decide +kernel
theorem dX10_runsByMarks_92 : decode cX10_runsByMarks 92 = .ok (.istore_n 2, 1) := by decide +kernel
theorem dX10_runsByMarks_93 : decode cX10_runsByMarks 93 = .ok (.iload_n 2, 1) := by decide +kernel
theorem dX10_runsByMarks_94 : decode cX10_runsByMarks 94 = .ok (.aload_n 0, 1) := by decide +kernel
theorem dX10_runsByMarks_95 : decode cX10_runsByMarks 95 = .ok (.getfield 83, 3) := by decide +kernel
theorem dX10_runsByMarks_98 : decode cX10_runsByMarks 98 = .ok (.if_icmp .ge 58, 3) := by decide +kernel
theorem dX10_runsByMarks_101 : decode cX10_runsByMarks 101 = .ok (.aload_n 0, 1) := by decide +kernel
theorem dX10_runsByMarks_102 : decode cX10_runsByMarks 102 = .ok (.getfield 31, 3) := by decide +kernel
theorem dX10_runsByMarks_105 : decode cX10_runsByMarks 105 = .ok (.iload_n 2, 1) := by decide +kernel
theorem dX10_runsByMarks_106 : decode cX10_runsByMarks 106 = .ok (.aload_n 0, 1) := by decide +kernel
theorem dX10_runsByMarks_107 : decode cX10_runsByMarks 107 = .ok (.getfield 31, 3) := by decide +kernel
theorem dX10_runsByMarks_110 : decode cX10_runsByMarks 110 = .ok (.iload_n 2, 1) := by decide +kernel
theorem dX10_runsByMarks_111 : decode cX10_runsByMarks 111 = .ok (.iaload, 1) := by decide +kernel
theorem dX10_runsByMarks_112 : decode cX10_runsByMarks 112 = .ok (.bipush (-4), 2) := by decide +kernel
theorem dX10_runsByMarks_114 : decode cX10_runsByMarks 114 = .ok (.if_icmp .ne 29, 3) := by decide +kernel
theorem dX10_runsByMarks_117 : decode cX10_runsByMarks 117 = .ok (.aload_n 0, 1) := by decide +kernel
theorem dX10_runsByMarks_118 : decode cX10_runsByMarks 118 = .ok (.getfield 19, 3) := by decide +kernel
theorem dX10_runsByMarks_121 : decode cX10_runsByMarks 121 = .ok (.iconst 2, 1) := by decide +kernel
theorem dX10_runsByMarks_122 : decode cX10_runsByMarks 122 = .ok (.iaload, 1) := by decide +kernel
theorem dX10_runsByMarks_123 : decode cX10_runsByMarks 123 = .ok (.aload_n 0, 1) := by decide +kernel
theorem dX10_runsByMarks_124 : decode cX10_runsByMarks 124 = .ok (.getfield 28, 3) := by decide +kernel
theorem dX10_runsByMarks_127 : decode cX10_runsByMarks 127 = .ok (.iconst 2, 1) := by decide +kernel
theorem dX10_runsByMarks_128 : decode cX10_runsByMarks 128 = .ok (.iload_n 2, 1) := by decide +kernel
theorem dX10_runsByMarks_129 : decode cX10_runsByMarks 129 = .ok (.imul, 1) := by decide +kernel
theorem dX10_runsByMarks_130 : decode cX10_runsByMarks 130 = .ok (.iaload, 1) := by decide +kernel
theorem dX10_runsByMarks_131 : decode cX10_runsByMarks 131 = .ok (.if_icmp .lt 12, 3) := by decide +kernel
theorem dX10_runsByMarks_134 : decode cX10_runsByMarks 134 = .ok (.aload_n 0, 1) := by decide +kernel
theorem dX10_runsByMarks_135 : decode cX10_runsByMarks 135 = .ok (.getfield 19, 3) := by decide +kernel
theorem dX10_runsByMarks_138 : decode cX10_runsByMarks 138 = .ok (.iconst 5, 1) := by decide +kernel
theorem dX10_runsByMarks_139 : decode cX10_runsByMarks 139 = .ok (.iaload, 1) := by decide +kernel
theorem dX10_runsByMarks_140 : decode cX10_runsByMarks 140 = .ok (.goto 9, 3) := by decide +kernel
theorem dX10_runsByMarks_143 : decode cX10_runsByMarks 143 = .ok (.aload_n 0, 1) := by decide +kernel
theorem dX10_runsByMarks_144 : decode cX10_runsByMarks 144 = .ok (.getfield 31, 3) := by decide +kernel
theorem dX10_runsByMarks_147 : decode cX10_runsByMarks 147 = .ok (.iload_n 2, 1) := by decide +kernel
theorem dX10_runsByMarks_148 : decode cX10_runsByMarks 148 = .ok (.iaload, 1) := by decide +kernel
theorem dX10_runsByMarks_149 : decode cX10_runsByMarks 149 = .ok (.iastore, 1) := by decide +kernel
theorem dX10_runsByMarks_150 : decode cX10_runsByMarks 150 = .ok (.iinc 2 1, 3) := by decide +kernel
theorem dX10_runsByMarks_153 : decode cX10_runsByMarks 153 = .ok (.goto (-60), 3) := by decide +kernel
theorem dX10_runsByMarks_156 : decode cX10_runsByMarks 156 = .ok (.goto (-104), 3) := by decide +kernel
theorem dX10_runsByMarks_159 : decode cX10_runsByMarks 159 = .ok (.return_, 1) := by decide +kernel
theorem dX10_isByMarks_0 : decode cX10_isByMarks 0 = .ok (.iconst 1, 1) := by decide +kernel
theorem dX10_isByMarks_1 : decode cX10_isByMarks 1 = .ok (.istore_n 2, 1) := by decide +kernel
theorem dX10_isByMarks_2 : decode cX10_isByMarks 2 = .ok (.iconst 0, 1) := by decide +kernel
theorem dX10_isByMarks_3 : decode cX10_isByMarks 3 = .ok (.istore_n 3, 1) := by decide +kernel
theorem dX10_isByMarks_4 : decode cX10_isByMarks 4 = .ok (.iload_n 3, 1) := by decide +kernel
theorem dX10_isByMarks_5 : decode cX10_isByMarks 5 = .ok (.aload_n 0, 1) := by decide +kernel
theorem dX10_isByMarks_6 : decode cX10_isByMarks 6 = .ok (.getfield 83, 3) := by decide +kernel
theorem dX10_isByMarks_9 : decode cX10_isByMarks 9 = .ok (.if_icmp .ge 70, 3) := by decide +kernel
theorem dX10_isByMarks_12 : decode cX10_isByMarks 12 = .ok (.iload_n 2, 1) := by decide +kernel
theorem dX10_isByMarks_13 : decode cX10_isByMarks 13 = .ok (.ifCond .eq 58, 3) := by decide +kernel
theorem dX10_isByMarks_16 : decode cX10_isByMarks 16 = .ok (.aload_n 0, 1) := by decide +kernel
theorem dX10_isByMarks_17 : decode cX10_isByMarks 17 = .ok (.getfield 31, 3) := by decide +kernel
theorem dX10_isByMarks_20 : decode cX10_isByMarks 20 = .ok (.iload_n 3, 1) := by decide +kernel
theorem dX10_isByMarks_21 : decode cX10_isByMarks 21 = .ok (.iaload, 1) := by decide +kernel
theorem dX10_isByMarks_22 : decode cX10_isByMarks 22 = .ok (.bipush (-4), 2) := by decide +kernel
theorem dX10_isByMarks_24 : decode cX10_isByMarks 24 = .ok (.if_icmp .eq 47, 3) := by decide +kernel
theorem dX10_isByMarks_27 : decode cX10_isByMarks 27 = .ok (.aload_n 0, 1) := by decide +kernel
theorem dX10_isByMarks_28 : decode cX10_isByMarks 28 = .ok (.getfield 31, 3) := by decide +kernel
theorem dX10_isByMarks_31 : decode cX10_isByMarks 31 = .ok (.iload_n 3, 1) := by decide +kernel
theorem dX10_isByMarks_32 : decode cX10_isByMarks 32 = .ok (.iaload, 1) := by decide +kernel
theorem dX10_isByMarks_33 : decode cX10_isByMarks 33 = .ok (.aload_n 0, 1) := by decide +kernel
theorem dX10_isByMarks_34 : decode cX10_isByMarks 34 = .ok (.getfield 28, 3) := by decide +kernel
theorem dX10_isByMarks_37 : decode cX10_isByMarks 37 = .ok (.iconst 2, 1) := by decide +kernel
theorem dX10_isByMarks_38 : decode cX10_isByMarks 38 = .ok (.iload_n 3, 1) := by decide +kernel
theorem dX10_isByMarks_39 : decode cX10_isByMarks 39 = .ok (.imul, 1) := by decide +kernel
theorem dX10_isByMarks_40 : decode cX10_isByMarks 40 = .ok (.iconst 1, 1) := by decide +kernel
theorem dX10_isByMarks_41 : decode cX10_isByMarks 41 = .ok (.iadd, 1) := by decide +kernel
theorem dX10_isByMarks_42 : decode cX10_isByMarks 42 = .ok (.iaload, 1) := by decide +kernel
theorem dX10_isByMarks_43 : decode cX10_isByMarks 43 = .ok (.if_icmp .gt 28, 3) := by decide +kernel
theorem dX10_isByMarks_46 : decode cX10_isByMarks 46 = .ok (.aload_n 0, 1) := by decide +kernel
theorem dX10_isByMarks_47 : decode cX10_isByMarks 47 = .ok (.getfield 28, 3) := by decide +kernel
theorem dX10_isByMarks_50 : decode cX10_isByMarks 50 = .ok (.iconst 2, 1) := by decide +kernel
theorem dX10_isByMarks_51 : decode cX10_isByMarks 51 = .ok (.iload_n 3, 1) := by decide +kernel
theorem dX10_isByMarks_52 : decode cX10_isByMarks 52 = .ok (.imul, 1) := by decide +kernel
theorem dX10_isByMarks_53 : decode cX10_isByMarks 53 = .ok (.iconst 1, 1) := by decide +kernel
theorem dX10_isByMarks_54 : decode cX10_isByMarks 54 = .ok (.iadd, 1) := by decide +kernel
theorem dX10_isByMarks_55 : decode cX10_isByMarks 55 = .ok (.iaload, 1) := by decide +kernel
theorem dX10_isByMarks_56 : decode cX10_isByMarks 56 = .ok (.aload_n 0, 1) := by decide +kernel
theorem dX10_isByMarks_57 : decode cX10_isByMarks 57 = .ok (.getfield 31, 3) := by decide +kernel
theorem dX10_isByMarks_60 : decode cX10_isByMarks 60 = .ok (.iload_n 3, 1) := by decide +kernel
theorem dX10_isByMarks_61 : decode cX10_isByMarks 61 = .ok (.iaload, 1) := by decide +kernel
theorem dX10_isByMarks_62 : decode cX10_isByMarks 62 = .ok (.isub, 1) := by decide +kernel
theorem dX10_isByMarks_63 : decode cX10_isByMarks 63 = .ok (.iload_n 1, 1) := by decide +kernel
theorem dX10_isByMarks_64 : decode cX10_isByMarks 64 = .ok (.if_icmp .gt 7, 3) := by decide +kernel
theorem dX10_isByMarks_67 : decode cX10_isByMarks 67 = .ok (.iconst 1, 1) := by decide +kernel
theorem dX10_isByMarks_68 : decode cX10_isByMarks 68 = .ok (.goto 4, 3) := by decide +kernel
theorem dX10_isByMarks_71 : decode cX10_isByMarks 71 = .ok (.iconst 0, 1) := by decide +kernel
theorem dX10_isByMarks_72 : decode cX10_isByMarks 72 = .ok (.istore_n 2, 1) := by decide +kernel
theorem dX10_isByMarks_73 : decode cX10_isByMarks 73 = .ok (.iinc 3 1, 3) := by decide +kernel
theorem dX10_isByMarks_76 : decode cX10_isByMarks 76 = .ok (.goto (-72), 3) := by decide +kernel
theorem dX10_isByMarks_79 : decode cX10_isByMarks 79 = .ok (.iload_n 2, 1) := by decide +kernel
theorem dX10_isByMarks_80 : decode cX10_isByMarks 80 = .ok (.ireturn, 1) := by decide +kernel
set_option maxRecDepth 20000 in
theorem ggX10_told_X10_in : GoodIn wsX10_told wsX10_in := goodIn_r _ [8] (by decide +kernel) (by decide +kernel)
set_option maxRecDepth 20000 in
theorem gX10_told_X10_in : GoodIn wsX10_told (va_wsS RX10 45 yX10_in wsX10_in) := goodIn_app (goodIn_of _ (by decide +kernel)) ggX10_told_X10_in
set_option maxRecDepth 20000 in
theorem ggX10_told_X10_asItIs : GoodIn wsX10_told wsX10_asItIs := goodIn_r _ [12, 13, 14, 15, 16, 3, 17, 4, 18, 59, 60, 61, 62, 63, 64, 65, 66, 67, 68, 69, 70, 71, 72, 73, 74, 75, 76, 77, 78, 79, 80, 81, 82, 83, 84, 85] (by decide +kernel) (by decide +kernel)
set_option maxRecDepth 20000 in
theorem gX10_told_X10_asItIs : GoodIn wsX10_told (wsV RX10 114 RX10 yX10_asItIs wsX10_asItIs) := goodIn_app (goodIn_of _ (by decide +kernel)) ggX10_told_X10_asItIs
set_option maxRecDepth 20000 in
theorem ggX10_told_X10_runsByMarks : GoodIn wsX10_told wsX10_runsByMarks := goodIn_r _ [22, 23, 24, 25, 26, 27, 28, 29, 7, 30, 4, 13, 18, 31, 32, 33, 34, 35, 36, 15, 37, 38, 39, 40, 14, 3, 17, 16, 41, 42, 43, 44, 45, 46, 47, 48, 49, 50, 59, 60, 61, 62, 63, 64, 65, 66, 67, 68, 69, 70, 71, 72, 73, 74, 75, 76, 77, 78, 79, 80, 81, 82, 83, 84, 85] (by decide +kernel) (by decide +kernel)
set_option maxRecDepth 20000 in
theorem gX10_told_X10_runsByMarks : GoodIn wsX10_told (wsV RX10 181 RX10 yX10_runsByMarks wsX10_runsByMarks) := goodIn_app (goodIn_of _ (by decide +kernel)) ggX10_told_X10_runsByMarks
set_option maxRecDepth 20000 in
theorem ggX10_told_X10_isByMarks : GoodIn wsX10_told wsX10_isByMarks := goodIn_r _ [54, 25, 23, 26, 59, 60, 61, 62, 63, 64, 65, 66, 67, 68, 69, 70, 71, 72, 73, 74, 75, 76, 77, 78, 79, 80, 81, 82, 83, 84, 85] (by decide +kernel) (by decide +kernel)
set_option maxRecDepth 20000 in
theorem gX10_told_X10_isByMarks : GoodIn wsX10_told (wsV RX10 184 RX10 yX10_isByMarks wsX10_isByMarks) := goodIn_app (goodIn_of _ (by decide +kernel)) ggX10_told_X10_isByMarks
set_option maxRecDepth 20000 in
theorem ggX10_told_X10_widens : GoodIn wsX10_told wsX10_widens := goodIn_r _ [58, 2, 59, 60, 61, 62, 63, 64, 65, 66, 67, 68, 69, 70, 71, 72, 73, 74, 75, 76, 77, 78, 79, 80, 81, 82, 83, 84, 85] (by decide +kernel) (by decide +kernel)
set_option maxRecDepth 20000 in
theorem gX10_told_X10_widens : GoodIn wsX10_told (wsV RX10 178 RX10 yX10_widens wsX10_widens) := goodIn_app (goodIn_of _ (by decide +kernel)) ggX10_told_X10_widens
theorem dX10_told_0 : decode cX10_told 0 = .ok (.aload_n 0, 1) := by decide +kernel
theorem dX10_told_1 : decode cX10_told 1 = .ok (.iconst 0, 1) := by decide +kernel
theorem dX10_told_2 : decode cX10_told 2 = .ok (.putfield 41, 3) := by decide +kernel
theorem dX10_told_5 : decode cX10_told 5 = .ok (.iload_n 1, 1) := by decide +kernel
theorem dX10_told_6 : decode cX10_told 6 = .ok (.iconst 0, 1) := by decide +kernel
theorem dX10_told_7 : decode cX10_told 7 = .ok (.bipush 50, 2) := by decide +kernel
theorem dX10_told_9 : decode cX10_told 9 = .ok (.invokestatic 45, 3) := by decide +kernel
theorem dX10_told_12 : decode cX10_told 12 = .ok (.ifCond .eq 13, 3) := by decide +kernel
theorem dX10_told_15 : decode cX10_told 15 = .ok (.iload_n 2, 1) := by decide +kernel
theorem dX10_told_16 : decode cX10_told 16 = .ok (.iconst 0, 1) := by decide +kernel
theorem dX10_told_17 : decode cX10_told 17 = .ok (.bipush 9, 2) := by decide +kernel
theorem dX10_told_19 : decode cX10_told 19 = .ok (.invokestatic 45, 3) := by decide +kernel
theorem dX10_told_22 : decode cX10_told 22 = .ok (.ifCond .ne 5, 3) := by decide +kernel
theorem dX10_told_25 : decode cX10_told 25 = .ok (.iconst (-1), 1) := by decide +kernel
theorem dX10_told_26 : decode cX10_told 26 = .ok (.ireturn, 1) := by decide +kernel
theorem dX10_told_27 : decode cX10_told 27 = .ok (.aload_n 0, 1) := by decide +kernel
theorem dX10_told_28 : decode cX10_told 28 = .ok (.invokevirtual 114, 3) := by decide +kernel
theorem dX10_told_31 : decode cX10_told 31 = .ok (.aload_n 0, 1) := by decide +kernel
theorem dX10_told_32 : decode cX10_told 32 = .ok (.getfield 34, 3) := by decide +kernel
theorem dX10_told_35 : decode cX10_told 35 = .ok (.iconst 0, 1) := by decide +kernel
theorem dX10_told_36 : decode cX10_told 36 = .ok (.iconst 0, 1) := by decide +kernel
theorem dX10_told_37 : decode cX10_told 37 = .ok (.iastore, 1) := by decide +kernel
theorem dX10_told_38 : decode cX10_told 38 = .ok (.aload_n 0, 1) := by decide +kernel
theorem dX10_told_39 : decode cX10_told 39 = .ok (.iconst 1, 1) := by decide +kernel
theorem dX10_told_40 : decode cX10_told 40 = .ok (.putfield 98, 3) := by decide +kernel
theorem dX10_told_43 : decode cX10_told 43 = .ok (.aload_n 0, 1) := by decide +kernel
theorem dX10_told_44 : decode cX10_told 44 = .ok (.getfield 98, 3) := by decide +kernel
theorem dX10_told_47 : decode cX10_told 47 = .ok (.bipush 9, 2) := by decide +kernel
theorem dX10_told_49 : decode cX10_told 49 = .ok (.if_icmp .ge 189, 3) := by decide +kernel
theorem dX10_told_52 : decode cX10_told 52 = .ok (.aload_n 0, 1) := by decide +kernel
theorem dX10_told_53 : decode cX10_told 53 = .ok (.iconst 1, 1) := by decide +kernel
theorem dX10_told_54 : decode cX10_told 54 = .ok (.putfield 104, 3) := by decide +kernel
theorem dX10_told_57 : decode cX10_told 57 = .ok (.aload_n 0, 1) := by decide +kernel
theorem dX10_told_58 : decode cX10_told 58 = .ok (.getfield 104, 3) := by decide +kernel
theorem dX10_told_61 : decode cX10_told 61 = .ok (.bipush 10, 2) := by decide +kernel
theorem dX10_told_63 : decode cX10_told 63 = .ok (.if_icmp .ge 162, 3) := by decide +kernel
theorem dX10_told_66 : decode cX10_told 66 = .ok (.bipush 10, 2) := by decide +kernel
theorem dX10_told_68 : decode cX10_told 68 = .ok (.istore_n 3, 1) := by decide +kernel
theorem dX10_told_69 : decode cX10_told 69 = .ok (.iload_n 3, 1) := by decide +kernel
theorem dX10_told_70 : decode cX10_told 70 = .ok (.sipush 401, 3) := by decide +kernel
theorem dX10_told_73 : decode cX10_told 73 = .ok (.if_icmp .ge 139, 3) := by decide +kernel
theorem dX10_told_76 : decode cX10_told 76 = .ok (.aload_n 0, 1) := by decide +kernel
theorem dX10_told_77 : decode cX10_told 77 = .ok (.iload_n 3, 1) := by decide +kernel
theorem dX10_told_78 : decode cX10_told 78 = .ok (.invokevirtual 181, 3) := by decide +kernel
theorem dX10_told_81 : decode cX10_told 81 = .ok (.aload_n 0, 1) := by decide +kernel
theorem dX10_told_82 : decode cX10_told 82 = .ok (.iload_n 1, 1) := by decide +kernel
theorem dX10_told_83 : decode cX10_told 83 = .ok (.invokevirtual 184, 3) := by decide +kernel
theorem dX10_told_86 : decode cX10_told 86 = .ok (.ifCond .eq 120, 3) := by decide +kernel
theorem dX10_told_89 : decode cX10_told 89 = .ok (.aload_n 0, 1) := by decide +kernel
theorem dX10_told_90 : decode cX10_told 90 = .ok (.getfield 34, 3) := by decide +kernel
theorem dX10_told_93 : decode cX10_told 93 = .ok (.iconst 1, 1) := by decide +kernel
theorem dX10_told_94 : decode cX10_told 94 = .ok (.aload_n 0, 1) := by decide +kernel
theorem dX10_told_95 : decode cX10_told 95 = .ok (.getfield 34, 3) := by decide +kernel
theorem dX10_told_98 : decode cX10_told 98 = .ok (.iconst 0, 1) := by decide +kernel
theorem dX10_told_99 : decode cX10_told 99 = .ok (.iaload, 1) := by decide +kernel
theorem dX10_told_100 : decode cX10_told 100 = .ok (.ifCond .ne 10, 3) := by decide +kernel
theorem dX10_told_103 : decode cX10_told 103 = .ok (.aload_n 0, 1) := by decide +kernel
theorem dX10_told_104 : decode cX10_told 104 = .ok (.getfield 98, 3) := by decide +kernel
theorem dX10_told_107 : decode cX10_told 107 = .ok (.goto 9, 3) := by decide +kernel
theorem dX10_told_110 : decode cX10_told 110 = .ok (.aload_n 0, 1) := by decide +kernel
theorem dX10_told_111 : decode cX10_told 111 = .ok (.getfield 34, 3) := by decide +kernel
theorem dX10_told_114 : decode cX10_told 114 = .ok (.iconst 1, 1) := by decide +kernel
theorem dX10_told_115 : decode cX10_told 115 = .ok (.iaload, 1) := by decide +kernel
theorem dX10_told_116 : decode cX10_told 116 = .ok (.iastore, 1) := by decide +kernel
theorem dX10_told_117 : decode cX10_told 117 = .ok (.aload_n 0, 1) := by decide +kernel
theorem dX10_told_118 : decode cX10_told 118 = .ok (.getfield 34, 3) := by decide +kernel
theorem dX10_told_121 : decode cX10_told 121 = .ok (.iconst 2, 1) := by decide +kernel
theorem dX10_told_122 : decode cX10_told 122 = .ok (.aload_n 0, 1) := by decide +kernel
theorem dX10_told_123 : decode cX10_told 123 = .ok (.getfield 34, 3) := by decide +kernel
theorem dX10_told_126 : decode cX10_told 126 = .ok (.iconst 0, 1) := by decide +kernel
theorem dX10_told_127 : decode cX10_told 127 = .ok (.iaload, 1) := by decide +kernel
theorem dX10_told_128 : decode cX10_told 128 = .ok (.ifCond .ne 10, 3) := by decide +kernel
theorem dX10_told_131 : decode cX10_told 131 = .ok (.aload_n 0, 1) := by decide +kernel
theorem dX10_told_132 : decode cX10_told 132 = .ok (.getfield 104, 3) := by decide +kernel
theorem dX10_told_135 : decode cX10_told 135 = .ok (.goto 9, 3) := by decide +kernel
theorem dX10_told_138 : decode cX10_told 138 = .ok (.aload_n 0, 1) := by decide +kernel
theorem dX10_told_139 : decode cX10_told 139 = .ok (.getfield 34, 3) := by decide +kernel
theorem dX10_told_142 : decode cX10_told 142 = .ok (.iconst 2, 1) := by decide +kernel
theorem dX10_told_143 : decode cX10_told 143 = .ok (.iaload, 1) := by decide +kernel
theorem dX10_told_144 : decode cX10_told 144 = .ok (.iastore, 1) := by decide +kernel
theorem dX10_told_145 : decode cX10_told 145 = .ok (.aload_n 0, 1) := by decide +kernel
theorem dX10_told_146 : decode cX10_told 146 = .ok (.getfield 34, 3) := by decide +kernel
theorem dX10_told_149 : decode cX10_told 149 = .ok (.iconst 3, 1) := by decide +kernel
theorem dX10_told_150 : decode cX10_told 150 = .ok (.aload_n 0, 1) := by decide +kernel
theorem dX10_told_151 : decode cX10_told 151 = .ok (.getfield 34, 3) := by decide +kernel
theorem dX10_told_154 : decode cX10_told 154 = .ok (.iconst 0, 1) := by decide +kernel
theorem dX10_told_155 : decode cX10_told 155 = .ok (.iaload, 1) := by decide +kernel
theorem dX10_told_156 : decode cX10_told 156 = .ok (.ifCond .ne 7, 3) := by decide +kernel
theorem dX10_told_159 : decode cX10_told 159 = .ok (.iload_n 3, 1) := by decide +kernel
theorem dX10_told_160 : decode cX10_told 160 = .ok (.goto 9, 3) := by decide +kernel
theorem dX10_told_163 : decode cX10_told 163 = .ok (.aload_n 0, 1) := by decide +kernel
theorem dX10_told_164 : decode cX10_told 164 = .ok (.getfield 34, 3) := by decide +kernel
theorem dX10_told_167 : decode cX10_told 167 = .ok (.iconst 3, 1) := by decide +kernel
theorem dX10_told_168 : decode cX10_told 168 = .ok (.iaload, 1) := by decide +kernel
theorem dX10_told_169 : decode cX10_told 169 = .ok (.iastore, 1) := by decide +kernel
theorem dX10_told_170 : decode cX10_told 170 = .ok (.aload_n 0, 1) := by decide +kernel
theorem dX10_told_171 : decode cX10_told 171 = .ok (.iconst 4, 1) := by decide +kernel
theorem dX10_told_172 : decode cX10_told 172 = .ok (.aload_n 0, 1) := by decide +kernel
theorem dX10_told_173 : decode cX10_told 173 = .ok (.getfield 98, 3) := by decide +kernel
theorem dX10_told_176 : decode cX10_told 176 = .ok (.invokevirtual 178, 3) := by decide +kernel
theorem dX10_told_179 : decode cX10_told 179 = .ok (.aload_n 0, 1) := by decide +kernel
theorem dX10_told_180 : decode cX10_told 180 = .ok (.bipush 6, 2) := by decide +kernel
theorem dX10_told_182 : decode cX10_told 182 = .ok (.aload_n 0, 1) := by decide +kernel
theorem dX10_told_183 : decode cX10_told 183 = .ok (.getfield 104, 3) := by decide +kernel
theorem dX10_told_186 : decode cX10_told 186 = .ok (.invokevirtual 178, 3) := by decide +kernel
theorem dX10_told_189 : decode cX10_told 189 = .ok (.aload_n 0, 1) := by decide +kernel
theorem dX10_told_190 : decode cX10_told 190 = .ok (.bipush 8, 2) := by decide +kernel
theorem dX10_told_192 : decode cX10_told 192 = .ok (.iload_n 3, 1) := by decide +kernel
theorem dX10_told_193 : decode cX10_told 193 = .ok (.invokevirtual 178, 3) := by decide +kernel
theorem dX10_told_196 : decode cX10_told 196 = .ok (.aload_n 0, 1) := by decide +kernel
theorem dX10_told_197 : decode cX10_told 197 = .ok (.getfield 34, 3) := by decide +kernel
theorem dX10_told_200 : decode cX10_told 200 = .ok (.iconst 0, 1) := by decide +kernel
theorem dX10_told_201 : decode cX10_told 201 = .ok (.dup2, 1) := by decide +kernel
theorem dX10_told_202 : decode cX10_told 202 = .ok (.iaload, 1) := by decide +kernel
theorem dX10_told_203 : decode cX10_told 203 = .ok (.iconst 1, 1) := by decide +kernel
theorem dX10_told_204 : decode cX10_told 204 = .ok (.iadd, 1) := by decide +kernel
theorem dX10_told_205 : decode cX10_told 205 = .ok (.iastore, 1) := by decide +kernel
theorem dX10_told_206 : decode cX10_told 206 = .ok (.iinc 3 10, 3) := by decide +kernel
theorem dX10_told_209 : decode cX10_told 209 = .ok (.goto (-140), 3) := by decide +kernel
theorem dX10_told_212 : decode cX10_told 212 = .ok (.aload_n 0, 1) := by decide +kernel
theorem dX10_told_213 : decode cX10_told 213 = .ok (.dup, 1) := by decide +kernel
theorem dX10_told_214 : decode cX10_told 214 = .ok (.getfield 104, 3) := by decide +kernel
theorem dX10_told_217 : decode cX10_told 217 = .ok (.iconst 1, 1) := by decide +kernel
theorem dX10_told_218 : decode cX10_told 218 = .ok (.iadd, 1) := by decide +kernel
theorem dX10_told_219 : decode cX10_told 219 = .ok (.putfield 104, 3) := by decide +kernel
theorem dX10_told_222 : decode cX10_told 222 = .ok (.goto (-165), 3) := by decide +kernel
theorem dX10_told_225 : decode cX10_told 225 = .ok (.aload_n 0, 1) := by decide +kernel
theorem dX10_told_226 : decode cX10_told 226 = .ok (.dup, 1) := by decide +kernel
theorem dX10_told_227 : decode cX10_told 227 = .ok (.getfield 98, 3) := by decide +kernel
theorem dX10_told_230 : decode cX10_told 230 = .ok (.iconst 1, 1) := by decide +kernel
theorem dX10_told_231 : decode cX10_told 231 = .ok (.iadd, 1) := by decide +kernel
theorem dX10_told_232 : decode cX10_told 232 = .ok (.putfield 98, 3) := by decide +kernel
theorem dX10_told_235 : decode cX10_told 235 = .ok (.goto (-192), 3) := by decide +kernel
theorem dX10_told_238 : decode cX10_told 238 = .ok (.iload_n 2, 1) := by decide +kernel
theorem dX10_told_239 : decode cX10_told 239 = .ok (.ifCond .le 17, 3) := by decide +kernel
theorem dX10_told_242 : decode cX10_told 242 = .ok (.aload_n 0, 1) := by decide +kernel
theorem dX10_told_243 : decode cX10_told 243 = .ok (.getfield 34, 3) := by decide +kernel
theorem dX10_told_246 : decode cX10_told 246 = .ok (.iconst 0, 1) := by decide +kernel
theorem dX10_told_247 : decode cX10_told 247 = .ok (.iaload, 1) := by decide +kernel
theorem dX10_told_248 : decode cX10_told 248 = .ok (.ifCond .ne 8, 3) := by decide +kernel
theorem dX10_told_251 : decode cX10_told 251 = .ok (.bipush (-4), 2) := by decide +kernel
theorem dX10_told_253 : decode cX10_told 253 = .ok (.goto 9, 3) := by decide +kernel
theorem dX10_told_256 : decode cX10_told 256 = .ok (.aload_n 0, 1) := by decide +kernel
theorem dX10_told_257 : decode cX10_told 257 = .ok (.getfield 34, 3) := by decide +kernel
theorem dX10_told_260 : decode cX10_told 260 = .ok (.iload_n 2, 1) := by decide +kernel
theorem dX10_told_261 : decode cX10_told 261 = .ok (.iaload, 1) := by decide +kernel
theorem dX10_told_262 : decode cX10_told 262 = .ok (.ireturn, 1) := by decide +kernel
theorem dX10_forget_0 : decode cX10_forget 0 = .ok (.aload_n 0, 1) := by decide +kernel
theorem dX10_forget_1 : decode cX10_forget 1 = .ok (.iconst 0, 1) := by decide +kernel
theorem dX10_forget_2 : decode cX10_forget 2 = .ok (.putfield 41, 3) := by decide +kernel
theorem dX10_forget_5 : decode cX10_forget 5 = .ok (.aload_n 0, 1) := by decide +kernel
theorem dX10_forget_6 : decode cX10_forget 6 = .ok (.getfield 80, 3) := by decide +kernel
theorem dX10_forget_9 : decode cX10_forget 9 = .ok (.aload_n 0, 1) := by decide +kernel
theorem dX10_forget_10 : decode cX10_forget 10 = .ok (.getfield 83, 3) := by decide +kernel
theorem dX10_forget_13 : decode cX10_forget 13 = .ok (.iadd, 1) := by decide +kernel
theorem dX10_forget_14 : decode cX10_forget 14 = .ok (.istore_n 1, 1) := by decide +kernel
theorem dX10_forget_15 : decode cX10_forget 15 = .ok (.aload_n 0, 1) := by decide +kernel
theorem dX10_forget_16 : decode cX10_forget 16 = .ok (.iconst 0, 1) := by decide +kernel
theorem dX10_forget_17 : decode cX10_forget 17 = .ok (.putfield 80, 3) := by decide +kernel
theorem dX10_forget_20 : decode cX10_forget 20 = .ok (.aload_n 0, 1) := by decide +kernel
theorem dX10_forget_21 : decode cX10_forget 21 = .ok (.iconst 0, 1) := by decide +kernel
theorem dX10_forget_22 : decode cX10_forget 22 = .ok (.putfield 83, 3) := by decide +kernel
theorem dX10_forget_25 : decode cX10_forget 25 = .ok (.iload_n 1, 1) := by decide +kernel
theorem dX10_forget_26 : decode cX10_forget 26 = .ok (.ireturn, 1) := by decide +kernel
set_option maxRecDepth 20000 in
theorem ggX10_wind_X10_in : GoodIn wsX10_wind wsX10_in := goodIn_r _ [7] (by decide +kernel) (by decide +kernel)
set_option maxRecDepth 20000 in
theorem gX10_wind_X10_in : GoodIn wsX10_wind (va_wsS RX10 45 yX10_in wsX10_in) := goodIn_app (goodIn_of _ (by decide +kernel)) ggX10_wind_X10_in
theorem dX10_wind_0 : decode cX10_wind 0 = .ok (.aload_n 0, 1) := by decide +kernel
theorem dX10_wind_1 : decode cX10_wind 1 = .ok (.iconst 0, 1) := by decide +kernel
theorem dX10_wind_2 : decode cX10_wind 2 = .ok (.putfield 41, 3) := by decide +kernel
theorem dX10_wind_5 : decode cX10_wind 5 = .ok (.iload_n 1, 1) := by decide +kernel
theorem dX10_wind_6 : decode cX10_wind 6 = .ok (.iconst 1, 1) := by decide +kernel
theorem dX10_wind_7 : decode cX10_wind 7 = .ok (.sipush 400, 3) := by decide +kernel
theorem dX10_wind_10 : decode cX10_wind 10 = .ok (.invokestatic 45, 3) := by decide +kernel
theorem dX10_wind_13 : decode cX10_wind 13 = .ok (.ifCond .ne 5, 3) := by decide +kernel
theorem dX10_wind_16 : decode cX10_wind 16 = .ok (.iconst (-1), 1) := by decide +kernel
theorem dX10_wind_17 : decode cX10_wind 17 = .ok (.ireturn, 1) := by decide +kernel
theorem dX10_wind_18 : decode cX10_wind 18 = .ok (.aload_n 0, 1) := by decide +kernel
theorem dX10_wind_19 : decode cX10_wind 19 = .ok (.getfield 16, 3) := by decide +kernel
theorem dX10_wind_22 : decode cX10_wind 22 = .ok (.iconst 0, 1) := by decide +kernel
theorem dX10_wind_23 : decode cX10_wind 23 = .ok (.iaload, 1) := by decide +kernel
theorem dX10_wind_24 : decode cX10_wind 24 = .ok (.bipush 100, 2) := by decide +kernel
theorem dX10_wind_26 : decode cX10_wind 26 = .ok (.iload_n 1, 1) := by decide +kernel
theorem dX10_wind_27 : decode cX10_wind 27 = .ok (.imul, 1) := by decide +kernel
theorem dX10_wind_28 : decode cX10_wind 28 = .ok (.iadd, 1) := by decide +kernel
theorem dX10_wind_29 : decode cX10_wind 29 = .ok (.ldc 113, 2) := by decide +kernel
theorem dX10_wind_31 : decode cX10_wind 31 = .ok (.if_icmp .le 6, 3) := by decide +kernel
theorem dX10_wind_34 : decode cX10_wind 34 = .ok (.bipush (-2), 2) := by decide +kernel
theorem dX10_wind_36 : decode cX10_wind 36 = .ok (.ireturn, 1) := by decide +kernel
theorem dX10_wind_37 : decode cX10_wind 37 = .ok (.aload_n 0, 1) := by decide +kernel
theorem dX10_wind_38 : decode cX10_wind 38 = .ok (.getfield 16, 3) := by decide +kernel
theorem dX10_wind_41 : decode cX10_wind 41 = .ok (.iconst 0, 1) := by decide +kernel
theorem dX10_wind_42 : decode cX10_wind 42 = .ok (.dup2, 1) := by decide +kernel
theorem dX10_wind_43 : decode cX10_wind 43 = .ok (.iaload, 1) := by decide +kernel
theorem dX10_wind_44 : decode cX10_wind 44 = .ok (.bipush 100, 2) := by decide +kernel
theorem dX10_wind_46 : decode cX10_wind 46 = .ok (.iload_n 1, 1) := by decide +kernel
theorem dX10_wind_47 : decode cX10_wind 47 = .ok (.imul, 1) := by decide +kernel
theorem dX10_wind_48 : decode cX10_wind 48 = .ok (.iadd, 1) := by decide +kernel
theorem dX10_wind_49 : decode cX10_wind 49 = .ok (.iastore, 1) := by decide +kernel
theorem dX10_wind_50 : decode cX10_wind 50 = .ok (.aload_n 0, 1) := by decide +kernel
theorem dX10_wind_51 : decode cX10_wind 51 = .ok (.getfield 16, 3) := by decide +kernel
theorem dX10_wind_54 : decode cX10_wind 54 = .ok (.iconst 0, 1) := by decide +kernel
theorem dX10_wind_55 : decode cX10_wind 55 = .ok (.iaload, 1) := by decide +kernel
theorem dX10_wind_56 : decode cX10_wind 56 = .ok (.ireturn, 1) := by decide +kernel
set_option maxRecDepth 20000 in
theorem ggX10_go_X10_in : GoodIn wsX10_go wsX10_in := goodIn_r _ [6] (by decide +kernel) (by decide +kernel)
set_option maxRecDepth 20000 in
theorem gX10_go_X10_in : GoodIn wsX10_go (va_wsS RX10 45 yX10_in wsX10_in) := goodIn_app (goodIn_of _ (by decide +kernel)) ggX10_go_X10_in
set_option maxRecDepth 20000 in
theorem ggX10_go_X10_isWind : GoodIn wsX10_go wsX10_isWind := goodIn_r _ [9, 3, 4, 5, 6] (by decide +kernel) (by decide +kernel)
set_option maxRecDepth 20000 in
theorem gX10_go_X10_isWind : GoodIn wsX10_go (va_wsS RX10 159 yX10_isWind wsX10_isWind) := goodIn_app (goodIn_of _ (by decide +kernel)) ggX10_go_X10_isWind
set_option maxRecDepth 20000 in
theorem ggX10_go_X10_asItIs : GoodIn wsX10_go wsX10_asItIs := goodIn_r _ [13, 14, 15, 16, 17, 18, 19, 20, 21, 46, 47, 48, 49, 50, 51, 52, 53, 54, 55, 56, 57, 58, 59, 60, 61, 62, 63, 64, 65, 66, 67, 68, 69, 70, 71, 72] (by decide +kernel) (by decide +kernel)
set_option maxRecDepth 20000 in
theorem gX10_go_X10_asItIs : GoodIn wsX10_go (wsV RX10 114 RX10 yX10_asItIs wsX10_asItIs) := goodIn_app (goodIn_of _ (by decide +kernel)) ggX10_go_X10_asItIs
set_option maxRecDepth 20000 in
theorem ggX10_go_X10_tenth : GoodIn wsX10_go wsX10_tenth := goodIn_r _ [25, 20, 14, 21, 26, 27, 28, 29, 30, 5, 31, 16, 32, 33, 34, 35, 15, 18, 19, 17, 36, 37, 38, 39, 40, 41, 42, 43, 44, 45, 46, 47, 48, 49, 50, 51, 52, 53, 54, 55, 56, 57, 58, 59, 60, 61, 62, 63, 64, 65, 66, 67, 68, 69, 70, 71, 72] (by decide +kernel) (by decide +kernel)
set_option maxRecDepth 20000 in
theorem gX10_go_X10_tenth : GoodIn wsX10_go (wsV RX10 144 RX10 yX10_tenth wsX10_tenth) := goodIn_app (goodIn_of _ (by decide +kernel)) ggX10_go_X10_tenth
theorem dX10_go_0 : decode cX10_go 0 = .ok (.aload_n 0, 1) := by decide +kernel
theorem dX10_go_1 : decode cX10_go 1 = .ok (.iconst 0, 1) := by decide +kernel
theorem dX10_go_2 : decode cX10_go 2 = .ok (.putfield 41, 3) := by decide +kernel
theorem dX10_go_5 : decode cX10_go 5 = .ok (.iload_n 1, 1) := by decide +kernel
theorem dX10_go_6 : decode cX10_go 6 = .ok (.iconst 1, 1) := by decide +kernel
theorem dX10_go_7 : decode cX10_go 7 = .ok (.bipush 99, 2) := by decide +kernel
theorem dX10_go_9 : decode cX10_go 9 = .ok (.invokestatic 45, 3) := by decide +kernel
theorem dX10_go_12 : decode cX10_go 12 = .ok (.ifCond .eq 10, 3) := by decide +kernel
theorem dX10_go_15 : decode cX10_go 15 = .ok (.iload_n 2, 1) := by decide +kernel
theorem dX10_go_16 : decode cX10_go 16 = .ok (.invokestatic 159, 3) := by decide +kernel
theorem dX10_go_19 : decode cX10_go 19 = .ok (.ifCond .ne 5, 3) := by decide +kernel
theorem dX10_go_22 : decode cX10_go 22 = .ok (.iconst (-1), 1) := by decide +kernel
theorem dX10_go_23 : decode cX10_go 23 = .ok (.ireturn, 1) := by decide +kernel
theorem dX10_go_24 : decode cX10_go 24 = .ok (.aload_n 0, 1) := by decide +kernel
theorem dX10_go_25 : decode cX10_go 25 = .ok (.invokevirtual 114, 3) := by decide +kernel
theorem dX10_go_28 : decode cX10_go 28 = .ok (.iconst 0, 1) := by decide +kernel
theorem dX10_go_29 : decode cX10_go 29 = .ok (.istore_n 3, 1) := by decide +kernel
theorem dX10_go_30 : decode cX10_go 30 = .ok (.iload_n 3, 1) := by decide +kernel
theorem dX10_go_31 : decode cX10_go 31 = .ok (.iload_n 1, 1) := by decide +kernel
theorem dX10_go_32 : decode cX10_go 32 = .ok (.if_icmp .ge 18, 3) := by decide +kernel
theorem dX10_go_35 : decode cX10_go 35 = .ok (.aload_n 0, 1) := by decide +kernel
theorem dX10_go_36 : decode cX10_go 36 = .ok (.aload_n 0, 1) := by decide +kernel
theorem dX10_go_37 : decode cX10_go 37 = .ok (.getfield 16, 3) := by decide +kernel
theorem dX10_go_40 : decode cX10_go 40 = .ok (.iload_n 2, 1) := by decide +kernel
theorem dX10_go_41 : decode cX10_go 41 = .ok (.invokevirtual 144, 3) := by decide +kernel
theorem dX10_go_44 : decode cX10_go 44 = .ok (.iinc 3 1, 3) := by decide +kernel
theorem dX10_go_47 : decode cX10_go 47 = .ok (.goto (-17), 3) := by decide +kernel
theorem dX10_go_50 : decode cX10_go 50 = .ok (.aload_n 0, 1) := by decide +kernel
theorem dX10_go_51 : decode cX10_go 51 = .ok (.getfield 16, 3) := by decide +kernel
theorem dX10_go_54 : decode cX10_go 54 = .ok (.iconst 2, 1) := by decide +kernel
theorem dX10_go_55 : decode cX10_go 55 = .ok (.iaload, 1) := by decide +kernel
theorem dX10_go_56 : decode cX10_go 56 = .ok (.ireturn, 1) := by decide +kernel
theorem dX10_weed_0 : decode cX10_weed 0 = .ok (.aload_n 0, 1) := by decide +kernel
theorem dX10_weed_1 : decode cX10_weed 1 = .ok (.iconst 0, 1) := by decide +kernel
theorem dX10_weed_2 : decode cX10_weed 2 = .ok (.putfield 41, 3) := by decide +kernel
theorem dX10_weed_5 : decode cX10_weed 5 = .ok (.aload_n 0, 1) := by decide +kernel
theorem dX10_weed_6 : decode cX10_weed 6 = .ok (.getfield 16, 3) := by decide +kernel
theorem dX10_weed_9 : decode cX10_weed 9 = .ok (.iconst 1, 1) := by decide +kernel
theorem dX10_weed_10 : decode cX10_weed 10 = .ok (.iaload, 1) := by decide +kernel
theorem dX10_weed_11 : decode cX10_weed 11 = .ok (.istore_n 1, 1) := by decide +kernel
theorem dX10_weed_12 : decode cX10_weed 12 = .ok (.aload_n 0, 1) := by decide +kernel
theorem dX10_weed_13 : decode cX10_weed 13 = .ok (.getfield 16, 3) := by decide +kernel
theorem dX10_weed_16 : decode cX10_weed 16 = .ok (.iconst 1, 1) := by decide +kernel
theorem dX10_weed_17 : decode cX10_weed 17 = .ok (.iconst 0, 1) := by decide +kernel
theorem dX10_weed_18 : decode cX10_weed 18 = .ok (.iastore, 1) := by decide +kernel
theorem dX10_weed_19 : decode cX10_weed 19 = .ok (.iload_n 1, 1) := by decide +kernel
theorem dX10_weed_20 : decode cX10_weed 20 = .ok (.ireturn, 1) := by decide +kernel
set_option maxRecDepth 20000 in
theorem ggX10_now_X10_in : GoodIn wsX10_now wsX10_in := goodIn_r _ [7] (by decide +kernel) (by decide +kernel)
set_option maxRecDepth 20000 in
theorem gX10_now_X10_in : GoodIn wsX10_now (va_wsS RX10 45 yX10_in wsX10_in) := goodIn_app (goodIn_of _ (by decide +kernel)) ggX10_now_X10_in
theorem dX10_now_0 : decode cX10_now 0 = .ok (.aload_n 0, 1) := by decide +kernel
theorem dX10_now_1 : decode cX10_now 1 = .ok (.iconst 0, 1) := by decide +kernel
theorem dX10_now_2 : decode cX10_now 2 = .ok (.putfield 41, 3) := by decide +kernel
theorem dX10_now_5 : decode cX10_now 5 = .ok (.iload_n 1, 1) := by decide +kernel
theorem dX10_now_6 : decode cX10_now 6 = .ok (.iconst 0, 1) := by decide +kernel
theorem dX10_now_7 : decode cX10_now 7 = .ok (.iconst 5, 1) := by decide +kernel
theorem dX10_now_8 : decode cX10_now 8 = .ok (.invokestatic 45, 3) := by decide +kernel
theorem dX10_now_11 : decode cX10_now 11 = .ok (.ifCond .ne 7, 3) := by decide +kernel
theorem dX10_now_14 : decode cX10_now 14 = .ok (.iconst (-1), 1) := by decide +kernel
theorem dX10_now_15 : decode cX10_now 15 = .ok (.goto 32, 3) := by decide +kernel
theorem dX10_now_18 : decode cX10_now 18 = .ok (.aload_n 0, 1) := by decide +kernel
theorem dX10_now_19 : decode cX10_now 19 = .ok (.getfield 16, 3) := by decide +kernel
theorem dX10_now_22 : decode cX10_now 22 = .ok (.iload_n 1, 1) := by decide +kernel
theorem dX10_now_23 : decode cX10_now 23 = .ok (.iaload, 1) := by decide +kernel
theorem dX10_now_24 : decode cX10_now 24 = .ok (.iload_n 1, 1) := by decide +kernel
theorem dX10_now_25 : decode cX10_now 25 = .ok (.iconst 3, 1) := by decide +kernel
theorem dX10_now_26 : decode cX10_now 26 = .ok (.if_icmp .ne 9, 3) := by decide +kernel
theorem dX10_now_29 : decode cX10_now 29 = .ok (.sipush 10000, 3) := by decide +kernel
theorem dX10_now_32 : decode cX10_now 32 = .ok (.goto 14, 3) := by decide +kernel
theorem dX10_now_35 : decode cX10_now 35 = .ok (.iload_n 1, 1) := by decide +kernel
theorem dX10_now_36 : decode cX10_now 36 = .ok (.iconst 4, 1) := by decide +kernel
theorem dX10_now_37 : decode cX10_now 37 = .ok (.if_icmp .ne 8, 3) := by decide +kernel
theorem dX10_now_40 : decode cX10_now 40 = .ok (.ldc 162, 2) := by decide +kernel
theorem dX10_now_42 : decode cX10_now 42 = .ok (.goto 4, 3) := by decide +kernel
theorem dX10_now_45 : decode cX10_now 45 = .ok (.iconst 0, 1) := by decide +kernel
theorem dX10_now_46 : decode cX10_now 46 = .ok (.iadd, 1) := by decide +kernel
theorem dX10_now_47 : decode cX10_now 47 = .ok (.ireturn, 1) := by decide +kernel
theorem dX10_keep_0 : decode cX10_keep 0 = .ok (.aload_n 0, 1) := by decide +kernel
theorem dX10_keep_1 : decode cX10_keep 1 = .ok (.iconst 0, 1) := by decide +kernel
theorem dX10_keep_2 : decode cX10_keep 2 = .ok (.putfield 41, 3) := by decide +kernel
theorem dX10_keep_5 : decode cX10_keep 5 = .ok (.aload_n 0, 1) := by decide +kernel
theorem dX10_keep_6 : decode cX10_keep 6 = .ok (.getfield 86, 3) := by decide +kernel
theorem dX10_keep_9 : decode cX10_keep 9 = .ok (.iconst 2, 1) := by decide +kernel
theorem dX10_keep_10 : decode cX10_keep 10 = .ok (.if_icmp .ne 6, 3) := by decide +kernel
theorem dX10_keep_13 : decode cX10_keep 13 = .ok (.bipush (-3), 2) := by decide +kernel
theorem dX10_keep_15 : decode cX10_keep 15 = .ok (.ireturn, 1) := by decide +kernel
theorem dX10_keep_16 : decode cX10_keep 16 = .ok (.iconst 0, 1) := by decide +kernel
theorem dX10_keep_17 : decode cX10_keep 17 = .ok (.istore_n 1, 1) := by decide +kernel
theorem dX10_keep_18 : decode cX10_keep 18 = .ok (.iload_n 1, 1) := by decide +kernel
theorem dX10_keep_19 : decode cX10_keep 19 = .ok (.bipush 6, 2) := by decide +kernel
theorem dX10_keep_21 : decode cX10_keep 21 = .ok (.if_icmp .ge 29, 3) := by decide +kernel
theorem dX10_keep_24 : decode cX10_keep 24 = .ok (.aload_n 0, 1) := by decide +kernel
theorem dX10_keep_25 : decode cX10_keep 25 = .ok (.getfield 22, 3) := by decide +kernel
theorem dX10_keep_28 : decode cX10_keep 28 = .ok (.bipush 6, 2) := by decide +kernel
theorem dX10_keep_30 : decode cX10_keep 30 = .ok (.aload_n 0, 1) := by decide +kernel
theorem dX10_keep_31 : decode cX10_keep 31 = .ok (.getfield 86, 3) := by decide +kernel
theorem dX10_keep_34 : decode cX10_keep 34 = .ok (.imul, 1) := by decide +kernel
theorem dX10_keep_35 : decode cX10_keep 35 = .ok (.iload_n 1, 1) := by decide +kernel
theorem dX10_keep_36 : decode cX10_keep 36 = .ok (.iadd, 1) := by decide +kernel
theorem dX10_keep_37 : decode cX10_keep 37 = .ok (.aload_n 0, 1) := by decide +kernel
theorem dX10_keep_38 : decode cX10_keep 38 = .ok (.getfield 16, 3) := by decide +kernel
theorem dX10_keep_41 : decode cX10_keep 41 = .ok (.iload_n 1, 1) := by decide +kernel
theorem dX10_keep_42 : decode cX10_keep 42 = .ok (.iaload, 1) := by decide +kernel
theorem dX10_keep_43 : decode cX10_keep 43 = .ok (.iastore, 1) := by decide +kernel
theorem dX10_keep_44 : decode cX10_keep 44 = .ok (.iinc 1 1, 3) := by decide +kernel
theorem dX10_keep_47 : decode cX10_keep 47 = .ok (.goto (-29), 3) := by decide +kernel
theorem dX10_keep_50 : decode cX10_keep 50 = .ok (.aload_n 0, 1) := by decide +kernel
theorem dX10_keep_51 : decode cX10_keep 51 = .ok (.dup, 1) := by decide +kernel
theorem dX10_keep_52 : decode cX10_keep 52 = .ok (.getfield 86, 3) := by decide +kernel
theorem dX10_keep_55 : decode cX10_keep 55 = .ok (.iconst 1, 1) := by decide +kernel
theorem dX10_keep_56 : decode cX10_keep 56 = .ok (.iadd, 1) := by decide +kernel
theorem dX10_keep_57 : decode cX10_keep 57 = .ok (.putfield 86, 3) := by decide +kernel
theorem dX10_keep_60 : decode cX10_keep 60 = .ok (.aload_n 0, 1) := by decide +kernel
theorem dX10_keep_61 : decode cX10_keep 61 = .ok (.getfield 86, 3) := by decide +kernel
theorem dX10_keep_64 : decode cX10_keep 64 = .ok (.ireturn, 1) := by decide +kernel
theorem dX10_back_0 : decode cX10_back 0 = .ok (.aload_n 0, 1) := by decide +kernel
theorem dX10_back_1 : decode cX10_back 1 = .ok (.iconst 0, 1) := by decide +kernel
theorem dX10_back_2 : decode cX10_back 2 = .ok (.putfield 41, 3) := by decide +kernel
theorem dX10_back_5 : decode cX10_back 5 = .ok (.aload_n 0, 1) := by decide +kernel
theorem dX10_back_6 : decode cX10_back 6 = .ok (.getfield 86, 3) := by decide +kernel
theorem dX10_back_9 : decode cX10_back 9 = .ok (.ifCond .ne 6, 3) := by decide +kernel
theorem dX10_back_12 : decode cX10_back 12 = .ok (.bipush (-2), 2) := by decide +kernel
theorem dX10_back_14 : decode cX10_back 14 = .ok (.ireturn, 1) := by decide +kernel
theorem dX10_back_15 : decode cX10_back 15 = .ok (.aload_n 0, 1) := by decide +kernel
theorem dX10_back_16 : decode cX10_back 16 = .ok (.dup, 1) := by decide +kernel
theorem dX10_back_17 : decode cX10_back 17 = .ok (.getfield 86, 3) := by decide +kernel
theorem dX10_back_20 : decode cX10_back 20 = .ok (.iconst 1, 1) := by decide +kernel
theorem dX10_back_21 : decode cX10_back 21 = .ok (.isub, 1) := by decide +kernel
theorem dX10_back_22 : decode cX10_back 22 = .ok (.putfield 86, 3) := by decide +kernel
theorem dX10_back_25 : decode cX10_back 25 = .ok (.iconst 0, 1) := by decide +kernel
theorem dX10_back_26 : decode cX10_back 26 = .ok (.istore_n 1, 1) := by decide +kernel
theorem dX10_back_27 : decode cX10_back 27 = .ok (.iload_n 1, 1) := by decide +kernel
theorem dX10_back_28 : decode cX10_back 28 = .ok (.bipush 6, 2) := by decide +kernel
theorem dX10_back_30 : decode cX10_back 30 = .ok (.if_icmp .ge 29, 3) := by decide +kernel
theorem dX10_back_33 : decode cX10_back 33 = .ok (.aload_n 0, 1) := by decide +kernel
theorem dX10_back_34 : decode cX10_back 34 = .ok (.getfield 16, 3) := by decide +kernel
theorem dX10_back_37 : decode cX10_back 37 = .ok (.iload_n 1, 1) := by decide +kernel
theorem dX10_back_38 : decode cX10_back 38 = .ok (.aload_n 0, 1) := by decide +kernel
theorem dX10_back_39 : decode cX10_back 39 = .ok (.getfield 22, 3) := by decide +kernel
theorem dX10_back_42 : decode cX10_back 42 = .ok (.bipush 6, 2) := by decide +kernel
theorem dX10_back_44 : decode cX10_back 44 = .ok (.aload_n 0, 1) := by decide +kernel
theorem dX10_back_45 : decode cX10_back 45 = .ok (.getfield 86, 3) := by decide +kernel
theorem dX10_back_48 : decode cX10_back 48 = .ok (.imul, 1) := by decide +kernel
theorem dX10_back_49 : decode cX10_back 49 = .ok (.iload_n 1, 1) := by decide +kernel
theorem dX10_back_50 : decode cX10_back 50 = .ok (.iadd, 1) := by decide +kernel
theorem dX10_back_51 : decode cX10_back 51 = .ok (.iaload, 1) := by decide +kernel
theorem dX10_back_52 : decode cX10_back 52 = .ok (.iastore, 1) := by decide +kernel
theorem dX10_back_53 : decode cX10_back 53 = .ok (.iinc 1 1, 3) := by decide +kernel
theorem dX10_back_56 : decode cX10_back 56 = .ok (.goto (-29), 3) := by decide +kernel
theorem dX10_back_59 : decode cX10_back 59 = .ok (.aload_n 0, 1) := by decide +kernel
theorem dX10_back_60 : decode cX10_back 60 = .ok (.getfield 86, 3) := by decide +kernel
theorem dX10_back_63 : decode cX10_back 63 = .ok (.ireturn, 1) := by decide +kernel
theorem dX10_count_0 : decode cX10_count 0 = .ok (.aload_n 0, 1) := by decide +kernel
theorem dX10_count_1 : decode cX10_count 1 = .ok (.iconst 0, 1) := by decide +kernel
theorem dX10_count_2 : decode cX10_count 2 = .ok (.putfield 41, 3) := by decide +kernel
theorem dX10_count_5 : decode cX10_count 5 = .ok (.iload_n 1, 1) := by decide +kernel
theorem dX10_count_6 : decode cX10_count 6 = .ok (.ifCond .ne 13, 3) := by decide +kernel
theorem dX10_count_9 : decode cX10_count 9 = .ok (.aload_n 0, 1) := by decide +kernel
theorem dX10_count_10 : decode cX10_count 10 = .ok (.getfield 13, 3) := by decide +kernel
theorem dX10_count_13 : decode cX10_count 13 = .ok (.bipush 28, 2) := by decide +kernel
theorem dX10_count_15 : decode cX10_count 15 = .ok (.iaload, 1) := by decide +kernel
theorem dX10_count_16 : decode cX10_count 16 = .ok (.goto 52, 3) := by decide +kernel
theorem dX10_count_19 : decode cX10_count 19 = .ok (.iload_n 1, 1) := by decide +kernel
theorem dX10_count_20 : decode cX10_count 20 = .ok (.iconst 1, 1) := by decide +kernel
theorem dX10_count_21 : decode cX10_count 21 = .ok (.if_icmp .ne 10, 3) := by decide +kernel
theorem dX10_count_24 : decode cX10_count 24 = .ok (.aload_n 0, 1) := by decide +kernel
theorem dX10_count_25 : decode cX10_count 25 = .ok (.getfield 49, 3) := by decide +kernel
theorem dX10_count_28 : decode cX10_count 28 = .ok (.goto 40, 3) := by decide +kernel
theorem dX10_count_31 : decode cX10_count 31 = .ok (.iload_n 1, 1) := by decide +kernel
theorem dX10_count_32 : decode cX10_count 32 = .ok (.iconst 2, 1) := by decide +kernel
theorem dX10_count_33 : decode cX10_count 33 = .ok (.if_icmp .ne 10, 3) := by decide +kernel
theorem dX10_count_36 : decode cX10_count 36 = .ok (.aload_n 0, 1) := by decide +kernel
theorem dX10_count_37 : decode cX10_count 37 = .ok (.getfield 80, 3) := by decide +kernel
theorem dX10_count_40 : decode cX10_count 40 = .ok (.goto 28, 3) := by decide +kernel
theorem dX10_count_43 : decode cX10_count 43 = .ok (.iload_n 1, 1) := by decide +kernel
theorem dX10_count_44 : decode cX10_count 44 = .ok (.iconst 3, 1) := by decide +kernel
theorem dX10_count_45 : decode cX10_count 45 = .ok (.if_icmp .ne 10, 3) := by decide +kernel
theorem dX10_count_48 : decode cX10_count 48 = .ok (.aload_n 0, 1) := by decide +kernel
theorem dX10_count_49 : decode cX10_count 49 = .ok (.getfield 83, 3) := by decide +kernel
theorem dX10_count_52 : decode cX10_count 52 = .ok (.goto 16, 3) := by decide +kernel
theorem dX10_count_55 : decode cX10_count 55 = .ok (.iload_n 1, 1) := by decide +kernel
theorem dX10_count_56 : decode cX10_count 56 = .ok (.iconst 4, 1) := by decide +kernel
theorem dX10_count_57 : decode cX10_count 57 = .ok (.if_icmp .ne 10, 3) := by decide +kernel
theorem dX10_count_60 : decode cX10_count 60 = .ok (.aload_n 0, 1) := by decide +kernel
theorem dX10_count_61 : decode cX10_count 61 = .ok (.getfield 86, 3) := by decide +kernel
theorem dX10_count_64 : decode cX10_count 64 = .ok (.goto 4, 3) := by decide +kernel
theorem dX10_count_67 : decode cX10_count 67 = .ok (.iconst (-1), 1) := by decide +kernel
theorem dX10_count_68 : decode cX10_count 68 = .ok (.ireturn, 1) := by decide +kernel
theorem dJ9_abs_0f7a4_0 : decode cJ9_abs_0f7a4 0 = .ok (.iload_n 0, 1) := by decide +kernel
theorem dJ9_abs_0f7a4_1 : decode cJ9_abs_0f7a4 1 = .ok (.ifCond .ge 8, 3) := by decide +kernel
theorem dJ9_abs_0f7a4_4 : decode cJ9_abs_0f7a4 4 = .ok (.iload_n 0, 1) := by decide +kernel
theorem dJ9_abs_0f7a4_5 : decode cJ9_abs_0f7a4 5 = .ok (.ineg, 1) := by decide +kernel
theorem dJ9_abs_0f7a4_6 : decode cJ9_abs_0f7a4 6 = .ok (.goto 4, 3) := by decide +kernel
theorem dJ9_abs_0f7a4_9 : decode cJ9_abs_0f7a4 9 = .ok (.iload_n 0, 1) := by decide +kernel
theorem dJ9_abs_0f7a4_10 : decode cJ9_abs_0f7a4 10 = .ok (.ireturn, 1) := by decide +kernel
theorem dJ9_max_7cf53_0 : decode cJ9_max_7cf53 0 = .ok (.iload_n 0, 1) := by decide +kernel
theorem dJ9_max_7cf53_1 : decode cJ9_max_7cf53 1 = .ok (.iload_n 1, 1) := by decide +kernel
theorem dJ9_max_7cf53_2 : decode cJ9_max_7cf53 2 = .ok (.if_icmp .lt 7, 3) := by decide +kernel
theorem dJ9_max_7cf53_5 : decode cJ9_max_7cf53 5 = .ok (.iload_n 0, 1) := by decide +kernel
theorem dJ9_max_7cf53_6 : decode cJ9_max_7cf53 6 = .ok (.goto 4, 3) := by decide +kernel
theorem dJ9_max_7cf53_9 : decode cJ9_max_7cf53 9 = .ok (.iload_n 1, 1) := by decide +kernel
theorem dJ9_max_7cf53_10 : decode cJ9_max_7cf53 10 = .ok (.ireturn, 1) := by decide +kernel
theorem dJ9_min_7cf53_0 : decode cJ9_min_7cf53 0 = .ok (.iload_n 0, 1) := by decide +kernel
theorem dJ9_min_7cf53_1 : decode cJ9_min_7cf53 1 = .ok (.iload_n 1, 1) := by decide +kernel
theorem dJ9_min_7cf53_2 : decode cJ9_min_7cf53 2 = .ok (.if_icmp .gt 7, 3) := by decide +kernel
theorem dJ9_min_7cf53_5 : decode cJ9_min_7cf53 5 = .ok (.iload_n 0, 1) := by decide +kernel
theorem dJ9_min_7cf53_6 : decode cJ9_min_7cf53 6 = .ok (.goto 4, 3) := by decide +kernel
theorem dJ9_min_7cf53_9 : decode cJ9_min_7cf53 9 = .ok (.iload_n 1, 1) := by decide +kernel
theorem dJ9_min_7cf53_10 : decode cJ9_min_7cf53 10 = .ok (.ireturn, 1) := by decide +kernel
abbrev vwCl : List vw_C := [(RX0, TX0, 7), (RX1, TX1, 4), (RX2, TX2, 3), (RX3, TX3, 4), (RX4, TX4, 7), (RX5, TX5, 3), (RX6, TX6, 17), (RX7, TX7, 2), (RX8, TX8, 6), (RX9, TX9, 18), (RX10, TX10, 27)]
