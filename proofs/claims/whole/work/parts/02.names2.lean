theorem dX9_init_1 : decode cX9_init 1 = .ok (.invokespecial 1, 3) := by decide +kernel
theorem dX9_init_4 : decode cX9_init 4 = .ok (.aload_n 0, 1) := by decide +kernel
theorem dX9_init_5 : decode cX9_init 5 = .ok (.new 7, 3) := by decide +kernel
theorem dX9_init_8 : decode cX9_init 8 = .ok (.dup, 1) := by decide +kernel
theorem dX9_init_9 : decode cX9_init 9 = .ok (.invokespecial 9, 3) := by decide +kernel
theorem dX9_init_12 : decode cX9_init 12 = .ok (.putfield 10, 3) := by decide +kernel
theorem dX9_init_15 : decode cX9_init 15 = .ok (.aload_n 0, 1) := by decide +kernel
theorem dX9_init_16 : decode cX9_init 16 = .ok (.new 16, 3) := by decide +kernel
theorem dX9_init_19 : decode cX9_init 19 = .ok (.dup, 1) := by decide +kernel
theorem dX9_init_20 : decode cX9_init 20 = .ok (.invokespecial 18, 3) := by decide +kernel
theorem dX9_init_23 : decode cX9_init 23 = .ok (.putfield 19, 3) := by decide +kernel
theorem dX9_init_26 : decode cX9_init 26 = .ok (.aload_n 0, 1) := by decide +kernel
theorem dX9_init_27 : decode cX9_init 27 = .ok (.new 23, 3) := by decide +kernel
theorem dX9_init_30 : decode cX9_init 30 = .ok (.dup, 1) := by decide +kernel
theorem dX9_init_31 : decode cX9_init 31 = .ok (.invokespecial 25, 3) := by decide +kernel
theorem dX9_init_34 : decode cX9_init 34 = .ok (.putfield 26, 3) := by decide +kernel
theorem dX9_init_37 : decode cX9_init 37 = .ok (.aload_n 0, 1) := by decide +kernel
theorem dX9_init_38 : decode cX9_init 38 = .ok (.new 23, 3) := by decide +kernel
theorem dX9_init_41 : decode cX9_init 41 = .ok (.dup, 1) := by decide +kernel
theorem dX9_init_42 : decode cX9_init 42 = .ok (.invokespecial 25, 3) := by decide +kernel
theorem dX9_init_45 : decode cX9_init 45 = .ok (.putfield 30, 3) := by decide +kernel
theorem dX9_init_48 : decode cX9_init 48 = .ok (.aload_n 0, 1) := by decide +kernel
theorem dX9_init_49 : decode cX9_init 49 = .ok (.new 33, 3) := by decide +kernel
theorem dX9_init_52 : decode cX9_init 52 = .ok (.dup, 1) := by decide +kernel
theorem dX9_init_53 : decode cX9_init 53 = .ok (.invokespecial 35, 3) := by decide +kernel
theorem dX9_init_56 : decode cX9_init 56 = .ok (.putfield 36, 3) := by decide +kernel
theorem dX9_init_59 : decode cX9_init 59 = .ok (.aload_n 0, 1) := by decide +kernel
theorem dX9_init_60 : decode cX9_init 60 = .ok (.new 40, 3) := by decide +kernel
theorem dX9_init_63 : decode cX9_init 63 = .ok (.dup, 1) := by decide +kernel
theorem dX9_init_64 : decode cX9_init 64 = .ok (.invokespecial 42, 3) := by decide +kernel
theorem dX9_init_67 : decode cX9_init 67 = .ok (.putfield 43, 3) := by decide +kernel
theorem dX9_init_70 : decode cX9_init 70 = .ok (.aload_n 0, 1) := by decide +kernel
theorem dX9_init_71 : decode cX9_init 71 = .ok (.new 47, 3) := by decide +kernel
theorem dX9_init_74 : decode cX9_init 74 = .ok (.dup, 1) := by decide +kernel
theorem dX9_init_75 : decode cX9_init 75 = .ok (.invokespecial 49, 3) := by decide +kernel
theorem dX9_init_78 : decode cX9_init 78 = .ok (.putfield 50, 3) := by decide +kernel
theorem dX9_init_81 : decode cX9_init 81 = .ok (.aload_n 0, 1) := by decide +kernel
theorem dX9_init_82 : decode cX9_init 82 = .ok (.new 54, 3) := by decide +kernel
theorem dX9_init_85 : decode cX9_init 85 = .ok (.dup, 1) := by decide +kernel
theorem dX9_init_86 : decode cX9_init 86 = .ok (.invokespecial 56, 3) := by decide +kernel
theorem dX9_init_89 : decode cX9_init 89 = .ok (.putfield 57, 3) := by decide +kernel
theorem dX9_init_92 : decode cX9_init 92 = .ok (.aload_n 0, 1) := by decide +kernel
theorem dX9_init_93 : decode cX9_init 93 = .ok (.new 61, 3) := by decide +kernel
theorem dX9_init_96 : decode cX9_init 96 = .ok (.dup, 1) := by decide +kernel
theorem dX9_init_97 : decode cX9_init 97 = .ok (.invokespecial 63, 3) := by decide +kernel
theorem dX9_init_100 : decode cX9_init 100 = .ok (.putfield 64, 3) := by decide +kernel
theorem dX9_init_103 : decode cX9_init 103 = .ok (.aload_n 0, 1) := by decide +kernel
theorem dX9_init_104 : decode cX9_init 104 = .ok (.iconst 2, 1) := by decide +kernel
theorem dX9_init_105 : decode cX9_init 105 = .ok (.anewarray 61, 3) := by decide +kernel
theorem dX9_init_108 : decode cX9_init 108 = .ok (.putfield 68, 3) := by decide +kernel
theorem dX9_init_111 : decode cX9_init 111 = .ok (.aload_n 0, 1) := by decide +kernel
theorem dX9_init_112 : decode cX9_init 112 = .ok (.sipush 401, 3) := by decide +kernel
theorem dX9_init_115 : decode cX9_init 115 = .ok (.newarray .int, 2) := by decide +kernel
theorem dX9_init_117 : decode cX9_init 117 = .ok (.putfield 72, 3) := by decide +kernel
theorem dX9_init_120 : decode cX9_init 120 = .ok (.aload_n 0, 1) := by decide +kernel
theorem dX9_init_121 : decode cX9_init 121 = .ok (.new 76, 3) := by decide +kernel
theorem dX9_init_124 : decode cX9_init 124 = .ok (.dup, 1) := by decide +kernel
theorem dX9_init_125 : decode cX9_init 125 = .ok (.iconst 4, 1) := by decide +kernel
theorem dX9_init_126 : decode cX9_init 126 = .ok (.invokespecial 78, 3) := by decide +kernel
theorem dX9_init_129 : decode cX9_init 129 = .ok (.putfield 81, 3) := by decide +kernel
theorem dX9_init_132 : decode cX9_init 132 = .ok (.aload_n 0, 1) := by decide +kernel
theorem dX9_init_133 : decode cX9_init 133 = .ok (.new 76, 3) := by decide +kernel
theorem dX9_init_136 : decode cX9_init 136 = .ok (.dup, 1) := by decide +kernel
theorem dX9_init_137 : decode cX9_init 137 = .ok (.iconst 2, 1) := by decide +kernel
theorem dX9_init_138 : decode cX9_init 138 = .ok (.invokespecial 78, 3) := by decide +kernel
theorem dX9_init_141 : decode cX9_init 141 = .ok (.putfield 85, 3) := by decide +kernel
theorem dX9_init_144 : decode cX9_init 144 = .ok (.aload_n 0, 1) := by decide +kernel
theorem dX9_init_145 : decode cX9_init 145 = .ok (.new 76, 3) := by decide +kernel
theorem dX9_init_148 : decode cX9_init 148 = .ok (.dup, 1) := by decide +kernel
theorem dX9_init_149 : decode cX9_init 149 = .ok (.iconst 2, 1) := by decide +kernel
theorem dX9_init_150 : decode cX9_init 150 = .ok (.invokespecial 78, 3) := by decide +kernel
theorem dX9_init_153 : decode cX9_init 153 = .ok (.putfield 88, 3) := by decide +kernel
theorem dX9_init_156 : decode cX9_init 156 = .ok (.aload_n 0, 1) := by decide +kernel
theorem dX9_init_157 : decode cX9_init 157 = .ok (.new 76, 3) := by decide +kernel
theorem dX9_init_160 : decode cX9_init 160 = .ok (.dup, 1) := by decide +kernel
theorem dX9_init_161 : decode cX9_init 161 = .ok (.iconst 5, 1) := by decide +kernel
theorem dX9_init_162 : decode cX9_init 162 = .ok (.invokespecial 78, 3) := by decide +kernel
theorem dX9_init_165 : decode cX9_init 165 = .ok (.putfield 91, 3) := by decide +kernel
theorem dX9_init_168 : decode cX9_init 168 = .ok (.aload_n 0, 1) := by decide +kernel
theorem dX9_init_169 : decode cX9_init 169 = .ok (.new 76, 3) := by decide +kernel
theorem dX9_init_172 : decode cX9_init 172 = .ok (.dup, 1) := by decide +kernel
theorem dX9_init_173 : decode cX9_init 173 = .ok (.bipush 10, 2) := by decide +kernel
theorem dX9_init_175 : decode cX9_init 175 = .ok (.invokespecial 78, 3) := by decide +kernel
theorem dX9_init_178 : decode cX9_init 178 = .ok (.putfield 94, 3) := by decide +kernel
theorem dX9_init_181 : decode cX9_init 181 = .ok (.iconst 0, 1) := by decide +kernel
theorem dX9_init_182 : decode cX9_init 182 = .ok (.istore_n 1, 1) := by decide +kernel
theorem dX9_init_183 : decode cX9_init 183 = .ok (.iload_n 1, 1) := by decide +kernel
theorem dX9_init_184 : decode cX9_init 184 = .ok (.aload_n 0, 1) := by decide +kernel
theorem dX9_init_185 : decode cX9_init 185 = .ok (.getfield 68, 3) := by decide +kernel
theorem dX9_init_188 : decode cX9_init 188 = .ok (.arraylength, 1) := by decide +kernel
theorem dX9_init_189 : decode cX9_init 189 = .ok (.if_icmp .ge 22, 3) := by decide +kernel
theorem dX9_init_192 : decode cX9_init 192 = .ok (.aload_n 0, 1) := by decide +kernel
theorem dX9_init_193 : decode cX9_init 193 = .ok (.getfield 68, 3) := by decide +kernel
theorem dX9_init_196 : decode cX9_init 196 = .ok (.iload_n 1, 1) := by decide +kernel
theorem dX9_init_197 : decode cX9_init 197 = .ok (.new 61, 3) := by decide +kernel
theorem dX9_init_200 : decode cX9_init 200 = .ok (.dup, 1) := by decide +kernel
theorem dX9_init_201 : decode cX9_init 201 = .ok (.invokespecial 63, 3) := by decide +kernel
theorem dX9_init_204 : decode cX9_init 204 = .ok (.aastore, 1) := by decide +kernel
theorem dX9_init_205 : decode cX9_init 205 = .ok (.iinc 1 1, 3) := by decide +kernel
theorem dX9_init_208 : decode cX9_init 208 = .ok (.goto (-25), 3) := by decide +kernel
theorem dX9_init_211 : decode cX9_init 211 = .ok (.aload_n 0, 1) := by decide +kernel
theorem dX9_init_212 : decode cX9_init 212 = .ok (.getfield 26, 3) := by decide +kernel
theorem dX9_init_215 : decode cX9_init 215 = .ok (.invokevirtual 97, 3) := by decide +kernel
theorem dX9_init_218 : decode cX9_init 218 = .ok (.aload_n 0, 1) := by decide +kernel
theorem dX9_init_219 : decode cX9_init 219 = .ok (.getfield 36, 3) := by decide +kernel
theorem dX9_init_222 : decode cX9_init 222 = .ok (.aload_n 0, 1) := by decide +kernel
theorem dX9_init_223 : decode cX9_init 223 = .ok (.getfield 26, 3) := by decide +kernel
theorem dX9_init_226 : decode cX9_init 226 = .ok (.invokevirtual 100, 3) := by decide +kernel
theorem dX9_init_229 : decode cX9_init 229 = .ok (.return_, 1) := by decide +kernel
set_option maxRecDepth 20000 in
theorem ggX9_write_X9_within : GoodIn wsX9_write wsX9_within := goodIn_r _ [5] (by decide +kernel) (by decide +kernel)
set_option maxRecDepth 20000 in
theorem gX9_write_X9_within : GoodIn wsX9_write (va_wsS RX9 104 yX9_within wsX9_within) := goodIn_app (goodIn_of _ (by decide +kernel)) ggX9_write_X9_within
set_option maxRecDepth 20000 in
theorem ggX9_write_X7_append : GoodIn wsX9_write wsX7_append := goodIn_r _ [9, 10, 11, 30, 31] (by decide +kernel) (by decide +kernel)
set_option maxRecDepth 20000 in
theorem gX9_write_X7_append_n108 : GoodIn wsX9_write (wsX7_append) := ggX9_write_X7_append
theorem dX9_write_0 : decode cX9_write 0 = .ok (.iload_n 1, 1) := by decide +kernel
theorem dX9_write_1 : decode cX9_write 1 = .ok (.iconst 1, 1) := by decide +kernel
theorem dX9_write_2 : decode cX9_write 2 = .ok (.bipush 8, 2) := by decide +kernel
theorem dX9_write_4 : decode cX9_write 4 = .ok (.invokestatic 104, 3) := by decide +kernel
theorem dX9_write_7 : decode cX9_write 7 = .ok (.ifCond .ne 5, 3) := by decide +kernel
theorem dX9_write_10 : decode cX9_write 10 = .ok (.iconst (-1), 1) := by decide +kernel
theorem dX9_write_11 : decode cX9_write 11 = .ok (.ireturn, 1) := by decide +kernel
theorem dX9_write_12 : decode cX9_write 12 = .ok (.aload_n 0, 1) := by decide +kernel
theorem dX9_write_13 : decode cX9_write 13 = .ok (.getfield 10, 3) := by decide +kernel
theorem dX9_write_16 : decode cX9_write 16 = .ok (.iload_n 1, 1) := by decide +kernel
theorem dX9_write_17 : decode cX9_write 17 = .ok (.lload_n 2, 1) := by decide +kernel
theorem dX9_write_18 : decode cX9_write 18 = .ok (.invokevirtual 108, 3) := by decide +kernel
theorem dX9_write_21 : decode cX9_write 21 = .ok (.ifCond .eq 13, 3) := by decide +kernel
theorem dX9_write_24 : decode cX9_write 24 = .ok (.aload_n 0, 1) := by decide +kernel
theorem dX9_write_25 : decode cX9_write 25 = .ok (.getfield 10, 3) := by decide +kernel
theorem dX9_write_28 : decode cX9_write 28 = .ok (.getfield 112, 3) := by decide +kernel
theorem dX9_write_31 : decode cX9_write 31 = .ok (.goto 5, 3) := by decide +kernel
theorem dX9_write_34 : decode cX9_write 34 = .ok (.bipush (-3), 2) := by decide +kernel
theorem dX9_write_36 : decode cX9_write 36 = .ok (.ireturn, 1) := by decide +kernel
theorem dX9_wipe_0 : decode cX9_wipe 0 = .ok (.aload_n 0, 1) := by decide +kernel
theorem dX9_wipe_1 : decode cX9_wipe 1 = .ok (.getfield 10, 3) := by decide +kernel
theorem dX9_wipe_4 : decode cX9_wipe 4 = .ok (.getfield 112, 3) := by decide +kernel
theorem dX9_wipe_7 : decode cX9_wipe 7 = .ok (.istore_n 1, 1) := by decide +kernel
theorem dX9_wipe_8 : decode cX9_wipe 8 = .ok (.aload_n 0, 1) := by decide +kernel
theorem dX9_wipe_9 : decode cX9_wipe 9 = .ok (.getfield 10, 3) := by decide +kernel
theorem dX9_wipe_12 : decode cX9_wipe 12 = .ok (.iconst 0, 1) := by decide +kernel
theorem dX9_wipe_13 : decode cX9_wipe 13 = .ok (.putfield 112, 3) := by decide +kernel
theorem dX9_wipe_16 : decode cX9_wipe 16 = .ok (.iload_n 1, 1) := by decide +kernel
theorem dX9_wipe_17 : decode cX9_wipe 17 = .ok (.ireturn, 1) := by decide +kernel
set_option maxRecDepth 20000 in
theorem ggX9_fault_X5_readAll : GoodIn wsX9_fault wsX5_readAll := goodIn_r _ [6, 7, 8, 9, 10, 11, 12, 13, 14, 15, 16, 17, 18, 19, 20, 21, 22, 23, 24, 25, 26, 27, 28, 29, 30, 31, 4, 32, 33, 34, 35, 36, 37, 38, 39, 40, 41, 42, 43, 44, 45, 46, 47, 48, 49, 50, 51, 52, 53, 54, 55, 56, 57, 58, 59, 60, 61, 62, 63, 64, 65, 66, 67, 68, 69, 70, 71, 72, 73, 74, 93, 94, 95, 96, 97, 98, 99, 100, 101, 102, 103, 104, 105, 106, 107, 108, 109, 110, 111, 112, 113, 114] (by decide +kernel) (by decide +kernel)
set_option maxRecDepth 20000 in
theorem gX9_fault_X5_readAll_n116 : GoodIn wsX9_fault (wsX5_readAll) := ggX9_fault_X5_readAll
theorem dX9_fault_0 : decode cX9_fault 0 = .ok (.aload_n 0, 1) := by decide +kernel
theorem dX9_fault_1 : decode cX9_fault 1 = .ok (.getfield 19, 3) := by decide +kernel
theorem dX9_fault_4 : decode cX9_fault 4 = .ok (.aload_n 0, 1) := by decide +kernel
theorem dX9_fault_5 : decode cX9_fault 5 = .ok (.getfield 10, 3) := by decide +kernel
theorem dX9_fault_8 : decode cX9_fault 8 = .ok (.invokevirtual 116, 3) := by decide +kernel
theorem dX9_fault_11 : decode cX9_fault 11 = .ok (.ireturn, 1) := by decide +kernel
set_option maxRecDepth 20000 in
theorem ggX9_lay_X5_readAll : GoodIn wsX9_lay wsX5_readAll := goodIn_r _ [12, 13, 14, 15, 16, 17, 18, 19, 20, 21, 22, 23, 24, 25, 26, 27, 28, 29, 30, 31, 32, 33, 34, 35, 36, 37, 10, 38, 39, 40, 41, 42, 43, 44, 45, 46, 47, 48, 49, 50, 51, 52, 53, 54, 55, 56, 57, 58, 59, 60, 61, 62, 63, 64, 65, 66, 67, 68, 69, 70, 71, 72, 73, 74, 75, 76, 77, 78, 79, 80, 141, 142, 143, 168, 169, 144, 145, 146, 147, 148, 149, 150, 151, 152, 153, 154, 155, 156, 157, 158, 159, 160] (by decide +kernel) (by decide +kernel)
set_option maxRecDepth 20000 in
theorem gX9_lay_X5_readAll_n116 : GoodIn wsX9_lay (wsX5_readAll) := ggX9_lay_X5_readAll
set_option maxRecDepth 20000 in
theorem ggX9_lay_X6_copy : GoodIn wsX9_lay wsX6_copy := goodIn_r _ [83, 18, 19, 20, 21, 22, 23, 24, 25, 26, 27, 28, 29, 30, 31, 32, 33, 34, 144, 145, 146, 147, 148, 149, 150, 151, 152, 153, 154, 155, 156, 157, 158, 159, 160] (by decide +kernel) (by decide +kernel)
set_option maxRecDepth 20000 in
theorem gX9_lay_X6_copy_n127 : GoodIn wsX9_lay (wsX6_copy) := ggX9_lay_X6_copy
set_option maxRecDepth 20000 in
theorem ggX9_lay_X0_fit : GoodIn wsX9_lay wsX0_fit := goodIn_r _ [87, 88, 89, 90, 91, 92, 93, 94, 95, 54, 96, 144, 145, 146, 147, 148, 149, 150, 151, 152, 153, 154, 155, 156, 157, 158, 159, 160, 170, 171, 172, 173, 174, 175, 176] (by decide +kernel) (by decide +kernel)
set_option maxRecDepth 20000 in
theorem gX9_lay_X0_fit_n100 : GoodIn wsX9_lay (wsX0_fit) := ggX9_lay_X0_fit
set_option maxRecDepth 20000 in
theorem ggX9_lay_X4_rest : GoodIn wsX9_lay wsX4_rest := goodIn_r _ [100, 101, 102, 103, 104, 105, 106, 107, 177, 178, 179, 180, 181, 182, 183] (by decide +kernel) (by decide +kernel)
set_option maxRecDepth 20000 in
theorem gX9_lay_X4_rest_n130 : GoodIn wsX9_lay (wsX4_rest) := ggX9_lay_X4_rest
set_option maxRecDepth 20000 in
theorem ggX9_lay_X9_dropMemos : GoodIn wsX9_lay wsX9_dropMemos := goodIn_r _ [111, 112, 113, 114, 115, 116, 117, 118, 119, 120, 121, 122, 123, 124, 125, 126, 127, 128, 129, 130, 131, 132, 133, 134, 135, 136, 137, 138, 139, 140, 184, 185, 186, 187] (by decide +kernel) (by decide +kernel)
set_option maxRecDepth 20000 in
theorem gX9_lay_X9_dropMemos : GoodIn wsX9_lay (wsV RX9 142 RX9 yX9_dropMemos wsX9_dropMemos) := goodIn_app (goodIn_of _ (by decide +kernel)) ggX9_lay_X9_dropMemos
theorem dX9_lay_0 : decode cX9_lay 0 = .ok (.aload_n 0, 1) := by decide +kernel
theorem dX9_lay_1 : decode cX9_lay 1 = .ok (.getfield 19, 3) := by decide +kernel
theorem dX9_lay_4 : decode cX9_lay 4 = .ok (.aload_n 0, 1) := by decide +kernel
theorem dX9_lay_5 : decode cX9_lay 5 = .ok (.getfield 10, 3) := by decide +kernel
theorem dX9_lay_8 : decode cX9_lay 8 = .ok (.invokevirtual 116, 3) := by decide +kernel
theorem dX9_lay_11 : decode cX9_lay 11 = .ok (.bipush (-4), 2) := by decide +kernel
theorem dX9_lay_13 : decode cX9_lay 13 = .ok (.if_icmp .ne 16, 3) := by decide +kernel
theorem dX9_lay_16 : decode cX9_lay 16 = .ok (.aload_n 0, 1) := by decide +kernel
theorem dX9_lay_17 : decode cX9_lay 17 = .ok (.getfield 19, 3) := by decide +kernel
theorem dX9_lay_20 : decode cX9_lay 20 = .ok (.getfield 120, 3) := by decide +kernel
theorem dX9_lay_23 : decode cX9_lay 23 = .ok (.getfield 123, 3) := by decide +kernel
theorem dX9_lay_26 : decode cX9_lay 26 = .ok (.ifCond .ne 6, 3) := by decide +kernel
theorem dX9_lay_29 : decode cX9_lay 29 = .ok (.bipush (-2), 2) := by decide +kernel
theorem dX9_lay_31 : decode cX9_lay 31 = .ok (.ireturn, 1) := by decide +kernel
theorem dX9_lay_32 : decode cX9_lay 32 = .ok (.aload_n 0, 1) := by decide +kernel
theorem dX9_lay_33 : decode cX9_lay 33 = .ok (.getfield 26, 3) := by decide +kernel
theorem dX9_lay_36 : decode cX9_lay 36 = .ok (.aload_n 0, 1) := by decide +kernel
theorem dX9_lay_37 : decode cX9_lay 37 = .ok (.getfield 19, 3) := by decide +kernel
theorem dX9_lay_40 : decode cX9_lay 40 = .ok (.getfield 120, 3) := by decide +kernel
theorem dX9_lay_43 : decode cX9_lay 43 = .ok (.invokevirtual 127, 3) := by decide +kernel
theorem dX9_lay_46 : decode cX9_lay 46 = .ok (.aload_n 0, 1) := by decide +kernel
theorem dX9_lay_47 : decode cX9_lay 47 = .ok (.getfield 36, 3) := by decide +kernel
theorem dX9_lay_50 : decode cX9_lay 50 = .ok (.aload_n 0, 1) := by decide +kernel
theorem dX9_lay_51 : decode cX9_lay 51 = .ok (.getfield 26, 3) := by decide +kernel
theorem dX9_lay_54 : decode cX9_lay 54 = .ok (.invokevirtual 100, 3) := by decide +kernel
theorem dX9_lay_57 : decode cX9_lay 57 = .ok (.aload_n 0, 1) := by decide +kernel
theorem dX9_lay_58 : decode cX9_lay 58 = .ok (.getfield 64, 3) := by decide +kernel
theorem dX9_lay_61 : decode cX9_lay 61 = .ok (.invokevirtual 130, 3) := by decide +kernel
theorem dX9_lay_64 : decode cX9_lay 64 = .ok (.aload_n 0, 1) := by decide +kernel
theorem dX9_lay_65 : decode cX9_lay 65 = .ok (.getfield 50, 3) := by decide +kernel
theorem dX9_lay_68 : decode cX9_lay 68 = .ok (.iconst 0, 1) := by decide +kernel
theorem dX9_lay_69 : decode cX9_lay 69 = .ok (.putfield 133, 3) := by decide +kernel
theorem dX9_lay_72 : decode cX9_lay 72 = .ok (.aload_n 0, 1) := by decide +kernel
theorem dX9_lay_73 : decode cX9_lay 73 = .ok (.getfield 57, 3) := by decide +kernel
theorem dX9_lay_76 : decode cX9_lay 76 = .ok (.iconst 0, 1) := by decide +kernel
theorem dX9_lay_77 : decode cX9_lay 77 = .ok (.putfield 136, 3) := by decide +kernel
theorem dX9_lay_80 : decode cX9_lay 80 = .ok (.aload_n 0, 1) := by decide +kernel
theorem dX9_lay_81 : decode cX9_lay 81 = .ok (.iconst 0, 1) := by decide +kernel
theorem dX9_lay_82 : decode cX9_lay 82 = .ok (.putfield 139, 3) := by decide +kernel
theorem dX9_lay_85 : decode cX9_lay 85 = .ok (.aload_n 0, 1) := by decide +kernel
theorem dX9_lay_86 : decode cX9_lay 86 = .ok (.invokevirtual 142, 3) := by decide +kernel
theorem dX9_lay_89 : decode cX9_lay 89 = .ok (.aload_n 0, 1) := by decide +kernel
theorem dX9_lay_90 : decode cX9_lay 90 = .ok (.getfield 26, 3) := by decide +kernel
theorem dX9_lay_93 : decode cX9_lay 93 = .ok (.getfield 145, 3) := by decide +kernel
theorem dX9_lay_96 : decode cX9_lay 96 = .ok (.ireturn, 1) := by decide +kernel
set_option maxRecDepth 20000 in
theorem ggX9_pull_X9_within : GoodIn wsX9_pull wsX9_within := goodIn_r _ [6] (by decide +kernel) (by decide +kernel)
set_option maxRecDepth 20000 in
theorem gX9_pull_X9_within : GoodIn wsX9_pull (va_wsS RX9 104 yX9_within wsX9_within) := goodIn_app (goodIn_of _ (by decide +kernel)) ggX9_pull_X9_within
set_option maxRecDepth 20000 in
theorem ggX9_pull_X0_loosed : GoodIn wsX9_pull wsX0_loosed := goodIn_r _ [10, 11, 12, 13, 14, 15, 8, 16, 17, 18, 19, 20, 39, 40, 41, 42, 43, 44, 45] (by decide +kernel) (by decide +kernel)
set_option maxRecDepth 20000 in
theorem gX9_pull_X0_loosed_n149 : GoodIn wsX9_pull (wsX0_loosed) := ggX9_pull_X0_loosed
set_option maxRecDepth 20000 in
theorem ggX9_pull_X0_wound : GoodIn wsX9_pull wsX0_wound := goodIn_r _ [16, 17, 18, 19, 20, 39, 40, 41, 42, 43, 44, 45] (by decide +kernel) (by decide +kernel)
set_option maxRecDepth 20000 in
theorem gX9_pull_X0_wound_n153 : GoodIn wsX9_pull (wsX0_wound) := ggX9_pull_X0_wound
theorem dX9_pull_0 : decode cX9_pull 0 = .ok (.iload_n 1, 1) := by decide +kernel
theorem dX9_pull_1 : decode cX9_pull 1 = .ok (.iconst 0, 1) := by decide +kernel
theorem dX9_pull_2 : decode cX9_pull 2 = .ok (.ldc 148, 2) := by decide +kernel
theorem dX9_pull_4 : decode cX9_pull 4 = .ok (.invokestatic 104, 3) := by decide +kernel
theorem dX9_pull_7 : decode cX9_pull 7 = .ok (.ifCond .ne 5, 3) := by decide +kernel
theorem dX9_pull_10 : decode cX9_pull 10 = .ok (.iconst (-1), 1) := by decide +kernel
theorem dX9_pull_11 : decode cX9_pull 11 = .ok (.ireturn, 1) := by decide +kernel
theorem dX9_pull_12 : decode cX9_pull 12 = .ok (.iload_n 2, 1) := by decide +kernel
theorem dX9_pull_13 : decode cX9_pull 13 = .ok (.ifCond .eq 14, 3) := by decide +kernel
theorem dX9_pull_16 : decode cX9_pull 16 = .ok (.aload_n 0, 1) := by decide +kernel
theorem dX9_pull_17 : decode cX9_pull 17 = .ok (.getfield 36, 3) := by decide +kernel
theorem dX9_pull_20 : decode cX9_pull 20 = .ok (.iload_n 1, 1) := by decide +kernel
theorem dX9_pull_21 : decode cX9_pull 21 = .ok (.invokevirtual 149, 3) := by decide +kernel
theorem dX9_pull_24 : decode cX9_pull 24 = .ok (.goto 11, 3) := by decide +kernel
theorem dX9_pull_27 : decode cX9_pull 27 = .ok (.aload_n 0, 1) := by decide +kernel
theorem dX9_pull_28 : decode cX9_pull 28 = .ok (.getfield 36, 3) := by decide +kernel
theorem dX9_pull_31 : decode cX9_pull 31 = .ok (.iload_n 1, 1) := by decide +kernel
theorem dX9_pull_32 : decode cX9_pull 32 = .ok (.invokevirtual 153, 3) := by decide +kernel
theorem dX9_pull_35 : decode cX9_pull 35 = .ok (.ireturn, 1) := by decide +kernel
set_option maxRecDepth 20000 in
theorem ggX9_run_X9_isTurns : GoodIn wsX9_run wsX9_isTurns := goodIn_r _ [7, 8, 9, 6, 10] (by decide +kernel) (by decide +kernel)
set_option maxRecDepth 20000 in
theorem gX9_run_X9_isTurns : GoodIn wsX9_run (va_wsS RX9 156 yX9_isTurns wsX9_isTurns) := goodIn_app (goodIn_of _ (by decide +kernel)) ggX9_run_X9_isTurns
set_option maxRecDepth 20000 in
theorem ggX9_run_X9_within : GoodIn wsX9_run wsX9_within := goodIn_r _ [10] (by decide +kernel) (by decide +kernel)
set_option maxRecDepth 20000 in
theorem gX9_run_X9_within : GoodIn wsX9_run (va_wsS RX9 104 yX9_within wsX9_within) := goodIn_app (goodIn_of _ (by decide +kernel)) ggX9_run_X9_within
set_option maxRecDepth 20000 in
theorem ggX9_run_X8_make : GoodIn wsX9_run wsX8_make := goodIn_r _ [14, 15, 16, 17, 18, 19, 20, 21, 22, 23, 24, 25, 26, 27, 28, 29, 30, 31, 6, 32, 33, 34, 35, 36, 37, 38, 39, 40, 41, 42, 43, 44, 45, 46, 47, 48, 49, 50, 51, 52, 53, 54, 55, 56, 57, 58, 59, 60, 61, 62, 63, 64, 65, 66, 67, 68, 69, 70, 71, 72, 73, 74, 75, 76, 77, 78, 79, 80, 81, 12, 82, 83, 84, 103, 104, 105, 106, 107, 108, 109, 110, 111, 112, 113, 114, 115, 116, 117, 118, 119, 120, 121, 122, 123, 124, 125, 126, 127, 128, 129, 130, 131, 132, 133, 134, 135, 136, 137, 138, 139] (by decide +kernel) (by decide +kernel)
set_option maxRecDepth 20000 in
theorem gX9_run_X8_make_n160 : GoodIn wsX9_run (wsX8_make) := ggX9_run_X8_make
theorem dX9_run_0 : decode cX9_run 0 = .ok (.iload_n 1, 1) := by decide +kernel
theorem dX9_run_1 : decode cX9_run 1 = .ok (.invokestatic 156, 3) := by decide +kernel
theorem dX9_run_4 : decode cX9_run 4 = .ok (.ifCond .eq 23, 3) := by decide +kernel
theorem dX9_run_7 : decode cX9_run 7 = .ok (.iload_n 2, 1) := by decide +kernel
theorem dX9_run_8 : decode cX9_run 8 = .ok (.iconst (-1), 1) := by decide +kernel
theorem dX9_run_9 : decode cX9_run 9 = .ok (.sipush 9999, 3) := by decide +kernel
theorem dX9_run_12 : decode cX9_run 12 = .ok (.invokestatic 104, 3) := by decide +kernel
theorem dX9_run_15 : decode cX9_run 15 = .ok (.ifCond .eq 12, 3) := by decide +kernel
theorem dX9_run_18 : decode cX9_run 18 = .ok (.iload_n 3, 1) := by decide +kernel
theorem dX9_run_19 : decode cX9_run 19 = .ok (.iconst 0, 1) := by decide +kernel
theorem dX9_run_20 : decode cX9_run 20 = .ok (.iconst 4, 1) := by decide +kernel
theorem dX9_run_21 : decode cX9_run 21 = .ok (.invokestatic 104, 3) := by decide +kernel
theorem dX9_run_24 : decode cX9_run 24 = .ok (.ifCond .ne 5, 3) := by decide +kernel
theorem dX9_run_27 : decode cX9_run 27 = .ok (.iconst (-1), 1) := by decide +kernel
theorem dX9_run_28 : decode cX9_run 28 = .ok (.ireturn, 1) := by decide +kernel
theorem dX9_run_29 : decode cX9_run 29 = .ok (.aload_n 0, 1) := by decide +kernel
theorem dX9_run_30 : decode cX9_run 30 = .ok (.getfield 43, 3) := by decide +kernel
theorem dX9_run_33 : decode cX9_run 33 = .ok (.aload_n 0, 1) := by decide +kernel
theorem dX9_run_34 : decode cX9_run 34 = .ok (.getfield 26, 3) := by decide +kernel
theorem dX9_run_37 : decode cX9_run 37 = .ok (.iload_n 1, 1) := by decide +kernel
theorem dX9_run_38 : decode cX9_run 38 = .ok (.iload_n 2, 1) := by decide +kernel
theorem dX9_run_39 : decode cX9_run 39 = .ok (.sipush 600, 3) := by decide +kernel
theorem dX9_run_42 : decode cX9_run 42 = .ok (.iconst 0, 1) := by decide +kernel
theorem dX9_run_43 : decode cX9_run 43 = .ok (.invokevirtual 160, 3) := by decide +kernel
theorem dX9_run_46 : decode cX9_run 46 = .ok (.iload_n 3, 1) := by decide +kernel
theorem dX9_run_47 : decode cX9_run 47 = .ok (.tableswitch 70 0 3 #[29, 37, 48, 56], 29) := by decide +kernel
theorem dX9_run_76 : decode cX9_run 76 = .ok (.aload_n 0, 1) := by decide +kernel
theorem dX9_run_77 : decode cX9_run 77 = .ok (.getfield 43, 3) := by decide +kernel
theorem dX9_run_80 : decode cX9_run 80 = .ok (.getfield 164, 3) := by decide +kernel
theorem dX9_run_83 : decode cX9_run 83 = .ok (.ireturn, 1) := by decide +kernel
theorem dX9_run_84 : decode cX9_run 84 = .ok (.aload_n 0, 1) := by decide +kernel
theorem dX9_run_85 : decode cX9_run 85 = .ok (.getfield 43, 3) := by decide +kernel
theorem dX9_run_88 : decode cX9_run 88 = .ok (.getfield 167, 3) := by decide +kernel
theorem dX9_run_91 : decode cX9_run 91 = .ok (.getfield 170, 3) := by decide +kernel
theorem dX9_run_94 : decode cX9_run 94 = .ok (.ireturn, 1) := by decide +kernel
theorem dX9_run_95 : decode cX9_run 95 = .ok (.aload_n 0, 1) := by decide +kernel
theorem dX9_run_96 : decode cX9_run 96 = .ok (.getfield 43, 3) := by decide +kernel
theorem dX9_run_99 : decode cX9_run 99 = .ok (.getfield 173, 3) := by decide +kernel
theorem dX9_run_102 : decode cX9_run 102 = .ok (.ireturn, 1) := by decide +kernel
theorem dX9_run_103 : decode cX9_run 103 = .ok (.aload_n 0, 1) := by decide +kernel
theorem dX9_run_104 : decode cX9_run 104 = .ok (.getfield 43, 3) := by decide +kernel
theorem dX9_run_107 : decode cX9_run 107 = .ok (.getfield 167, 3) := by decide +kernel
theorem dX9_run_110 : decode cX9_run 110 = .ok (.getfield 176, 3) := by decide +kernel
theorem dX9_run_113 : decode cX9_run 113 = .ok (.ldc 179, 2) := by decide +kernel
theorem dX9_run_115 : decode cX9_run 115 = .ok (.iadd, 1) := by decide +kernel
theorem dX9_run_116 : decode cX9_run 116 = .ok (.ireturn, 1) := by decide +kernel
theorem dX9_run_117 : decode cX9_run 117 = .ok (.aload_n 0, 1) := by decide +kernel
theorem dX9_run_118 : decode cX9_run 118 = .ok (.getfield 43, 3) := by decide +kernel
theorem dX9_run_121 : decode cX9_run 121 = .ok (.getfield 180, 3) := by decide +kernel
theorem dX9_run_124 : decode cX9_run 124 = .ok (.ireturn, 1) := by decide +kernel
set_option maxRecDepth 20000 in
theorem ggX9_when_X9_isTurns : GoodIn wsX9_when wsX9_isTurns := goodIn_r _ [7, 8, 9, 6, 10] (by decide +kernel) (by decide +kernel)
set_option maxRecDepth 20000 in
theorem gX9_when_X9_isTurns : GoodIn wsX9_when (va_wsS RX9 156 yX9_isTurns wsX9_isTurns) := goodIn_app (goodIn_of _ (by decide +kernel)) ggX9_when_X9_isTurns
set_option maxRecDepth 20000 in
theorem ggX9_when_X9_within : GoodIn wsX9_when wsX9_within := goodIn_r _ [10] (by decide +kernel) (by decide +kernel)
set_option maxRecDepth 20000 in
theorem gX9_when_X9_within : GoodIn wsX9_when (va_wsS RX9 104 yX9_within wsX9_within) := goodIn_app (goodIn_of _ (by decide +kernel)) ggX9_when_X9_within
set_option maxRecDepth 20000 in
theorem ggX9_when_X8_make : GoodIn wsX9_when wsX8_make := goodIn_r _ [14, 15, 16, 17, 18, 19, 20, 21, 22, 23, 24, 25, 26, 27, 28, 29, 30, 31, 6, 32, 33, 34, 35, 36, 37, 38, 39, 40, 41, 42, 43, 44, 45, 46, 47, 48, 49, 50, 51, 52, 53, 54, 55, 56, 57, 58, 59, 60, 61, 62, 63, 64, 65, 66, 67, 68, 69, 70, 71, 72, 73, 74, 75, 76, 77, 78, 79, 80, 81, 12, 82, 83, 84, 106, 107, 108, 109, 110, 111, 112, 113, 114, 115, 116, 117, 118, 119, 120, 121, 122, 123, 124, 125, 126, 127, 128, 129, 130, 131, 132, 133, 134, 135, 136, 137, 138, 139, 140, 141, 142] (by decide +kernel) (by decide +kernel)
set_option maxRecDepth 20000 in
theorem gX9_when_X8_make_n160 : GoodIn wsX9_when (wsX8_make) := ggX9_when_X8_make
set_option maxRecDepth 20000 in
theorem ggX9_when_X8_firstAt : GoodIn wsX9_when wsX8_firstAt := goodIn_r _ [87, 17, 84, 106, 107, 108, 109, 110, 111] (by decide +kernel) (by decide +kernel)
set_option maxRecDepth 20000 in
theorem gX9_when_X8_firstAt_n184 : GoodIn wsX9_when (wsX8_firstAt) := ggX9_when_X8_firstAt
theorem dX9_when_0 : decode cX9_when 0 = .ok (.iload_n 1, 1) := by decide +kernel
theorem dX9_when_1 : decode cX9_when 1 = .ok (.invokestatic 156, 3) := by decide +kernel
theorem dX9_when_4 : decode cX9_when 4 = .ok (.ifCond .eq 24, 3) := by decide +kernel
theorem dX9_when_7 : decode cX9_when 7 = .ok (.iload_n 2, 1) := by decide +kernel
theorem dX9_when_8 : decode cX9_when 8 = .ok (.iconst (-1), 1) := by decide +kernel
theorem dX9_when_9 : decode cX9_when 9 = .ok (.sipush 9999, 3) := by decide +kernel
theorem dX9_when_12 : decode cX9_when 12 = .ok (.invokestatic 104, 3) := by decide +kernel
theorem dX9_when_15 : decode cX9_when 15 = .ok (.ifCond .eq 13, 3) := by decide +kernel
theorem dX9_when_18 : decode cX9_when 18 = .ok (.iload_n 3, 1) := by decide +kernel
theorem dX9_when_19 : decode cX9_when 19 = .ok (.iconst 1, 1) := by decide +kernel
theorem dX9_when_20 : decode cX9_when 20 = .ok (.ldc 183, 2) := by decide +kernel
theorem dX9_when_22 : decode cX9_when 22 = .ok (.invokestatic 104, 3) := by decide +kernel
theorem dX9_when_25 : decode cX9_when 25 = .ok (.ifCond .ne 5, 3) := by decide +kernel
theorem dX9_when_28 : decode cX9_when 28 = .ok (.iconst (-1), 1) := by decide +kernel
theorem dX9_when_29 : decode cX9_when 29 = .ok (.ireturn, 1) := by decide +kernel
theorem dX9_when_30 : decode cX9_when 30 = .ok (.aload_n 0, 1) := by decide +kernel
theorem dX9_when_31 : decode cX9_when 31 = .ok (.getfield 43, 3) := by decide +kernel
theorem dX9_when_34 : decode cX9_when 34 = .ok (.aload_n 0, 1) := by decide +kernel
theorem dX9_when_35 : decode cX9_when 35 = .ok (.getfield 26, 3) := by decide +kernel
theorem dX9_when_38 : decode cX9_when 38 = .ok (.iload_n 1, 1) := by decide +kernel
theorem dX9_when_39 : decode cX9_when 39 = .ok (.iload_n 2, 1) := by decide +kernel
theorem dX9_when_40 : decode cX9_when 40 = .ok (.sipush 600, 3) := by decide +kernel
theorem dX9_when_43 : decode cX9_when 43 = .ok (.iconst 0, 1) := by decide +kernel
theorem dX9_when_44 : decode cX9_when 44 = .ok (.invokevirtual 160, 3) := by decide +kernel
theorem dX9_when_47 : decode cX9_when 47 = .ok (.aload_n 0, 1) := by decide +kernel
theorem dX9_when_48 : decode cX9_when 48 = .ok (.getfield 43, 3) := by decide +kernel
theorem dX9_when_51 : decode cX9_when 51 = .ok (.iload_n 3, 1) := by decide +kernel
theorem dX9_when_52 : decode cX9_when 52 = .ok (.invokevirtual 184, 3) := by decide +kernel
theorem dX9_when_55 : decode cX9_when 55 = .ok (.ireturn, 1) := by decide +kernel
set_option maxRecDepth 20000 in
theorem ggX9_lost_X9_isTurns : GoodIn wsX9_lost wsX9_isTurns := goodIn_r _ [6, 7, 8, 5, 9] (by decide +kernel) (by decide +kernel)
set_option maxRecDepth 20000 in
theorem gX9_lost_X9_isTurns : GoodIn wsX9_lost (va_wsS RX9 156 yX9_isTurns wsX9_isTurns) := goodIn_app (goodIn_of _ (by decide +kernel)) ggX9_lost_X9_isTurns
set_option maxRecDepth 20000 in
theorem ggX9_lost_X9_within : GoodIn wsX9_lost wsX9_within := goodIn_r _ [9] (by decide +kernel) (by decide +kernel)
set_option maxRecDepth 20000 in
theorem gX9_lost_X9_within : GoodIn wsX9_lost (va_wsS RX9 104 yX9_within wsX9_within) := goodIn_app (goodIn_of _ (by decide +kernel)) ggX9_lost_X9_within
set_option maxRecDepth 20000 in
theorem ggX9_lost_X0_wound : GoodIn wsX9_lost wsX0_wound := goodIn_r _ [13, 14, 15, 16, 17, 42, 43, 44, 45, 46, 47, 48] (by decide +kernel) (by decide +kernel)
set_option maxRecDepth 20000 in
theorem gX9_lost_X0_wound_n153 : GoodIn wsX9_lost (wsX0_wound) := ggX9_lost_X0_wound
set_option maxRecDepth 20000 in
theorem ggX9_lost_X0_loosed : GoodIn wsX9_lost wsX0_loosed := goodIn_r _ [20, 21, 22, 23, 10, 12, 11, 13, 14, 15, 16, 17, 42, 43, 44, 45, 46, 47, 48] (by decide +kernel) (by decide +kernel)
set_option maxRecDepth 20000 in
theorem gX9_lost_X0_loosed_n149 : GoodIn wsX9_lost (wsX0_loosed) := ggX9_lost_X0_loosed
theorem dX9_lost_0 : decode cX9_lost 0 = .ok (.iload_n 1, 1) := by decide +kernel
theorem dX9_lost_1 : decode cX9_lost 1 = .ok (.invokestatic 156, 3) := by decide +kernel
theorem dX9_lost_4 : decode cX9_lost 4 = .ok (.ifCond .eq 12, 3) := by decide +kernel
theorem dX9_lost_7 : decode cX9_lost 7 = .ok (.iload_n 2, 1) := by decide +kernel
theorem dX9_lost_8 : decode cX9_lost 8 = .ok (.iconst 0, 1) := by decide +kernel
theorem dX9_lost_9 : decode cX9_lost 9 = .ok (.iconst 1, 1) := by decide +kernel
theorem dX9_lost_10 : decode cX9_lost 10 = .ok (.invokestatic 104, 3) := by decide +kernel
theorem dX9_lost_13 : decode cX9_lost 13 = .ok (.ifCond .ne 7, 3) := by decide +kernel
theorem dX9_lost_16 : decode cX9_lost 16 = .ok (.ldc2_w 187, 3) := by decide +kernel
theorem dX9_lost_19 : decode cX9_lost 19 = .ok (.lreturn, 1) := by decide +kernel
theorem dX9_lost_20 : decode cX9_lost 20 = .ok (.lconst 0, 1) := by decide +kernel
theorem dX9_lost_21 : decode cX9_lost 21 = .ok (.lstore_n 3, 1) := by decide +kernel
theorem dX9_lost_22 : decode cX9_lost 22 = .ok (.lconst 0, 1) := by decide +kernel
theorem dX9_lost_23 : decode cX9_lost 23 = .ok (.lstore 5, 2) := by decide +kernel
theorem dX9_lost_25 : decode cX9_lost 25 = .ok (.iconst 1, 1) := by decide +kernel
theorem dX9_lost_26 : decode cX9_lost 26 = .ok (.istore 7, 2) := by decide +kernel
theorem dX9_lost_28 : decode cX9_lost 28 = .ok (.iload 7, 2) := by decide +kernel
theorem dX9_lost_30 : decode cX9_lost 30 = .ok (.iload_n 1, 1) := by decide +kernel
theorem dX9_lost_31 : decode cX9_lost 31 = .ok (.if_icmp .gt 43, 3) := by decide +kernel
theorem dX9_lost_34 : decode cX9_lost 34 = .ok (.lload_n 3, 1) := by decide +kernel
theorem dX9_lost_35 : decode cX9_lost 35 = .ok (.aload_n 0, 1) := by decide +kernel
theorem dX9_lost_36 : decode cX9_lost 36 = .ok (.getfield 36, 3) := by decide +kernel
theorem dX9_lost_39 : decode cX9_lost 39 = .ok (.bipush 100, 2) := by decide +kernel
theorem dX9_lost_41 : decode cX9_lost 41 = .ok (.iload 7, 2) := by decide +kernel
theorem dX9_lost_43 : decode cX9_lost 43 = .ok (.imul, 1) := by decide +kernel
theorem dX9_lost_44 : decode cX9_lost 44 = .ok (.invokevirtual 153, 3) := by decide +kernel
theorem dX9_lost_47 : decode cX9_lost 47 = .ok (.i2l, 1) := by decide +kernel
theorem dX9_lost_48 : decode cX9_lost 48 = .ok (.ladd, 1) := by decide +kernel
theorem dX9_lost_49 : decode cX9_lost 49 = .ok (.lstore_n 3, 1) := by decide +kernel
theorem dX9_lost_50 : decode cX9_lost 50 = .ok (.lload 5, 2) := by decide +kernel
theorem dX9_lost_52 : decode cX9_lost 52 = .ok (.aload_n 0, 1) := by decide +kernel
theorem dX9_lost_53 : decode cX9_lost 53 = .ok (.getfield 36, 3) := by decide +kernel
theorem dX9_lost_56 : decode cX9_lost 56 = .ok (.bipush 100, 2) := by decide +kernel
theorem dX9_lost_58 : decode cX9_lost 58 = .ok (.iload 7, 2) := by decide +kernel
theorem dX9_lost_60 : decode cX9_lost 60 = .ok (.imul, 1) := by decide +kernel
theorem dX9_lost_61 : decode cX9_lost 61 = .ok (.invokevirtual 149, 3) := by decide +kernel
theorem dX9_lost_64 : decode cX9_lost 64 = .ok (.i2l, 1) := by decide +kernel
theorem dX9_lost_65 : decode cX9_lost 65 = .ok (.ladd, 1) := by decide +kernel
theorem dX9_lost_66 : decode cX9_lost 66 = .ok (.lstore 5, 2) := by decide +kernel
theorem dX9_lost_68 : decode cX9_lost 68 = .ok (.iinc 7 1, 3) := by decide +kernel
theorem dX9_lost_71 : decode cX9_lost 71 = .ok (.goto (-43), 3) := by decide +kernel
theorem dX9_lost_74 : decode cX9_lost 74 = .ok (.iload_n 2, 1) := by decide +kernel
theorem dX9_lost_75 : decode cX9_lost 75 = .ok (.ifCond .ne 10, 3) := by decide +kernel
theorem dX9_lost_78 : decode cX9_lost 78 = .ok (.lload_n 3, 1) := by decide +kernel
theorem dX9_lost_79 : decode cX9_lost 79 = .ok (.lload 5, 2) := by decide +kernel
theorem dX9_lost_81 : decode cX9_lost 81 = .ok (.lsub, 1) := by decide +kernel
theorem dX9_lost_82 : decode cX9_lost 82 = .ok (.goto 4, 3) := by decide +kernel
theorem dX9_lost_85 : decode cX9_lost 85 = .ok (.lload_n 3, 1) := by decide +kernel
theorem dX9_lost_86 : decode cX9_lost 86 = .ok (.lreturn, 1) := by decide +kernel
set_option maxRecDepth 20000 in
theorem ggX9_snap_X9_isTurns : GoodIn wsX9_snap wsX9_isTurns := goodIn_r _ [4, 5, 6, 3, 7] (by decide +kernel) (by decide +kernel)
set_option maxRecDepth 20000 in
theorem gX9_snap_X9_isTurns : GoodIn wsX9_snap (va_wsS RX9 156 yX9_isTurns wsX9_isTurns) := goodIn_app (goodIn_of _ (by decide +kernel)) ggX9_snap_X9_isTurns
set_option maxRecDepth 20000 in
theorem ggX9_snap_X9_snapOf : GoodIn wsX9_snap wsX9_snapOf := goodIn_r _ [11, 12, 13, 14, 15, 16, 17, 18, 3, 19, 20, 21, 22, 23, 24, 25, 26, 27, 28, 29, 30, 31, 32, 33, 34, 35, 36, 37, 38, 39, 40, 41, 42, 43, 44, 45, 46, 47, 48, 49, 50, 51, 52, 53, 54] (by decide +kernel) (by decide +kernel)
set_option maxRecDepth 20000 in
theorem gX9_snap_X9_snapOf : GoodIn wsX9_snap (wsV RX9 189 RX9 yX9_snapOf wsX9_snapOf) := goodIn_app (goodIn_of _ (by decide +kernel)) ggX9_snap_X9_snapOf
theorem dX9_snap_0 : decode cX9_snap 0 = .ok (.iload_n 1, 1) := by decide +kernel
theorem dX9_snap_1 : decode cX9_snap 1 = .ok (.invokestatic 156, 3) := by decide +kernel
theorem dX9_snap_4 : decode cX9_snap 4 = .ok (.ifCond .eq 11, 3) := by decide +kernel
theorem dX9_snap_7 : decode cX9_snap 7 = .ok (.aload_n 0, 1) := by decide +kernel
theorem dX9_snap_8 : decode cX9_snap 8 = .ok (.iload_n 1, 1) := by decide +kernel
theorem dX9_snap_9 : decode cX9_snap 9 = .ok (.invokevirtual 189, 3) := by decide +kernel
theorem dX9_snap_12 : decode cX9_snap 12 = .ok (.goto 4, 3) := by decide +kernel
theorem dX9_snap_15 : decode cX9_snap 15 = .ok (.iconst (-1), 1) := by decide +kernel
theorem dX9_snap_16 : decode cX9_snap 16 = .ok (.ireturn, 1) := by decide +kernel
set_option maxRecDepth 20000 in
theorem ggX9_wise_X9_learnCalmPlaces : GoodIn wsX9_wise wsX9_learnCalmPlaces := goodIn_r _ [7, 8, 2, 9, 10, 11, 12, 13, 14, 15, 16, 17, 18, 19, 20, 21, 22, 23, 24, 25, 26, 27, 28, 29, 30, 31, 6, 32, 33, 34, 35, 36, 37, 38, 39, 40, 41, 42, 43, 44, 45, 46, 47, 48, 49, 50, 51, 52, 53, 54, 55, 56, 57, 58, 59, 60, 61, 62, 63, 64, 65, 66, 67, 68, 69, 70, 71, 72, 73, 74, 75, 76, 77, 78, 79, 80, 81, 82, 83, 84, 91, 92, 93, 94, 95, 96, 97, 98, 99, 100, 101, 102, 103, 104, 105, 106, 107, 108, 109, 110, 111, 112, 113, 114, 115, 116, 117, 118, 119, 120, 121, 122, 123, 124, 125, 126, 127, 128, 129, 130, 131, 132, 133, 134, 135, 136, 137, 138, 139, 140, 141, 142, 143, 144, 145] (by decide +kernel) (by decide +kernel)
set_option maxRecDepth 20000 in
theorem gX9_wise_X9_learnCalmPlaces : GoodIn wsX9_wise (wsV RX9 192 RX9 yX9_learnCalmPlaces wsX9_learnCalmPlaces) := goodIn_app (goodIn_of _ (by decide +kernel)) ggX9_wise_X9_learnCalmPlaces
set_option maxRecDepth 20000 in
theorem ggX9_wise_X9_snapOf : GoodIn wsX9_wise wsX9_snapOf := goodIn_r _ [88, 10, 89, 58, 59, 60, 90, 31, 6, 32, 91, 92, 93, 94, 95, 96, 97, 98, 99, 100, 101, 102, 103, 104, 105, 106, 107, 108, 122, 123, 124, 125, 126, 127, 128, 129, 130, 131, 132, 133, 134, 135, 136, 137, 138] (by decide +kernel) (by decide +kernel)
set_option maxRecDepth 20000 in
theorem gX9_wise_X9_snapOf : GoodIn wsX9_wise (wsV RX9 189 RX9 yX9_snapOf wsX9_snapOf) := goodIn_app (goodIn_of _ (by decide +kernel)) ggX9_wise_X9_snapOf
theorem dX9_wise_0 : decode cX9_wise 0 = .ok (.aload_n 0, 1) := by decide +kernel
theorem dX9_wise_1 : decode cX9_wise 1 = .ok (.invokevirtual 192, 3) := by decide +kernel
theorem dX9_wise_4 : decode cX9_wise 4 = .ok (.iconst 0, 1) := by decide +kernel
theorem dX9_wise_5 : decode cX9_wise 5 = .ok (.istore_n 1, 1) := by decide +kernel
theorem dX9_wise_6 : decode cX9_wise 6 = .ok (.ldc2_w 187, 3) := by decide +kernel
theorem dX9_wise_9 : decode cX9_wise 9 = .ok (.lstore_n 2, 1) := by decide +kernel
theorem dX9_wise_10 : decode cX9_wise 10 = .ok (.iconst 0, 1) := by decide +kernel
theorem dX9_wise_11 : decode cX9_wise 11 = .ok (.istore 4, 2) := by decide +kernel
theorem dX9_wise_13 : decode cX9_wise 13 = .ok (.iload 4, 2) := by decide +kernel
theorem dX9_wise_15 : decode cX9_wise 15 = .ok (.aload_n 0, 1) := by decide +kernel
theorem dX9_wise_16 : decode cX9_wise 16 = .ok (.getfield 72, 3) := by decide +kernel
theorem dX9_wise_19 : decode cX9_wise 19 = .ok (.arraylength, 1) := by decide +kernel
theorem dX9_wise_20 : decode cX9_wise 20 = .ok (.if_icmp .ge 44, 3) := by decide +kernel
theorem dX9_wise_23 : decode cX9_wise 23 = .ok (.aload_n 0, 1) := by decide +kernel
theorem dX9_wise_24 : decode cX9_wise 24 = .ok (.getfield 72, 3) := by decide +kernel
theorem dX9_wise_27 : decode cX9_wise 27 = .ok (.iload 4, 2) := by decide +kernel
theorem dX9_wise_29 : decode cX9_wise 29 = .ok (.iaload, 1) := by decide +kernel
theorem dX9_wise_30 : decode cX9_wise 30 = .ok (.i2l, 1) := by decide +kernel
theorem dX9_wise_31 : decode cX9_wise 31 = .ok (.sipush 1000, 3) := by decide +kernel
theorem dX9_wise_34 : decode cX9_wise 34 = .ok (.aload_n 0, 1) := by decide +kernel
theorem dX9_wise_35 : decode cX9_wise 35 = .ok (.iload 4, 2) := by decide +kernel
theorem dX9_wise_37 : decode cX9_wise 37 = .ok (.invokevirtual 189, 3) := by decide +kernel
theorem dX9_wise_40 : decode cX9_wise 40 = .ok (.isub, 1) := by decide +kernel
theorem dX9_wise_41 : decode cX9_wise 41 = .ok (.i2l, 1) := by decide +kernel
theorem dX9_wise_42 : decode cX9_wise 42 = .ok (.lmul, 1) := by decide +kernel
theorem dX9_wise_43 : decode cX9_wise 43 = .ok (.lstore 5, 2) := by decide +kernel
theorem dX9_wise_45 : decode cX9_wise 45 = .ok (.lload 5, 2) := by decide +kernel
theorem dX9_wise_47 : decode cX9_wise 47 = .ok (.lload_n 2, 1) := by decide +kernel
theorem dX9_wise_48 : decode cX9_wise 48 = .ok (.lcmp, 1) := by decide +kernel
theorem dX9_wise_49 : decode cX9_wise 49 = .ok (.ifCond .le 9, 3) := by decide +kernel
theorem dX9_wise_52 : decode cX9_wise 52 = .ok (.lload 5, 2) := by decide +kernel
theorem dX9_wise_54 : decode cX9_wise 54 = .ok (.lstore_n 2, 1) := by decide +kernel
theorem dX9_wise_55 : decode cX9_wise 55 = .ok (.iload 4, 2) := by decide +kernel
theorem dX9_wise_57 : decode cX9_wise 57 = .ok (.istore_n 1, 1) := by decide +kernel
theorem dX9_wise_58 : decode cX9_wise 58 = .ok (.iinc 4 1, 3) := by decide +kernel
theorem dX9_wise_61 : decode cX9_wise 61 = .ok (.goto (-48), 3) := by decide +kernel
theorem dX9_wise_64 : decode cX9_wise 64 = .ok (.iload_n 1, 1) := by decide +kernel
theorem dX9_wise_65 : decode cX9_wise 65 = .ok (.ireturn, 1) := by decide +kernel
set_option maxRecDepth 20000 in
theorem ggX9_best_X9_within : GoodIn wsX9_best wsX9_within := goodIn_r _ [5] (by decide +kernel) (by decide +kernel)
set_option maxRecDepth 20000 in
theorem gX9_best_X9_within : GoodIn wsX9_best (va_wsS RX9 104 yX9_within wsX9_within) := goodIn_app (goodIn_of _ (by decide +kernel)) ggX9_best_X9_within
set_option maxRecDepth 20000 in
theorem ggX9_best_X9_isTurns : GoodIn wsX9_best wsX9_isTurns := goodIn_r _ [8, 2, 3, 4, 5] (by decide +kernel) (by decide +kernel)
set_option maxRecDepth 20000 in
theorem gX9_best_X9_isTurns : GoodIn wsX9_best (va_wsS RX9 156 yX9_isTurns wsX9_isTurns) := goodIn_app (goodIn_of _ (by decide +kernel)) ggX9_best_X9_isTurns
set_option maxRecDepth 20000 in
theorem ggX9_best_X3_holds : GoodIn wsX9_best wsX3_holds := goodIn_r _ [12, 13, 14, 15, 150, 151, 152, 153] (by decide +kernel) (by decide +kernel)
set_option maxRecDepth 20000 in
theorem gX9_best_X3_holds_n195 : GoodIn wsX9_best (wsX3_holds) := ggX9_best_X3_holds
set_option maxRecDepth 20000 in
theorem ggX9_best_X9_searchBest : GoodIn wsX9_best wsX9_searchBest := goodIn_r _ [19, 20, 21, 1, 22, 23, 24, 25, 26, 27, 28, 29, 30, 31, 32, 33, 34, 35, 36, 37, 38, 39, 40, 41, 42, 43, 10, 44, 45, 13, 14, 15, 46, 47, 48, 49, 50, 51, 52, 4, 53, 54, 55, 56, 57, 58, 59, 60, 61, 62, 63, 64, 65, 66, 67, 68, 69, 70, 71, 72, 73, 74, 75, 76, 77, 78, 79, 80, 81, 82, 83, 84, 85, 86, 87, 88, 89, 90, 91, 92, 93, 94, 95, 96, 97, 98, 99, 100, 101, 102, 103, 104, 105, 106, 107, 108, 109, 110, 111, 112, 113, 114, 115, 116, 117, 118, 119, 120, 121, 122, 123, 124, 125, 126, 127, 128, 129, 130, 131, 132, 133, 134, 135, 136, 137, 138, 139, 140, 141, 142, 143, 144, 145, 146, 147, 148, 149, 154, 155, 156, 157, 158, 159, 160, 161, 162, 163, 164, 165, 166, 167, 168, 169, 170, 150, 151, 152, 153, 171, 172, 173, 174, 175, 176, 177, 178, 179, 180, 181, 182, 183, 184, 185, 186, 187, 188, 189, 190] (by decide +kernel) (by decide +kernel)
set_option maxRecDepth 20000 in
theorem gX9_best_X9_searchBest : GoodIn wsX9_best (wsV RX9 199 RX9 yX9_searchBest wsX9_searchBest) := goodIn_app (goodIn_of _ (by decide +kernel)) ggX9_best_X9_searchBest
set_option maxRecDepth 20000 in
theorem ggX9_best_X3_answer : GoodIn wsX9_best wsX3_answer := goodIn_r _ [131, 46, 150, 151, 152, 153] (by decide +kernel) (by decide +kernel)
set_option maxRecDepth 20000 in
theorem gX9_best_X3_answer_n203 : GoodIn wsX9_best (wsX3_answer) := ggX9_best_X3_answer
theorem dX9_best_0 : decode cX9_best 0 = .ok (.iload_n 1, 1) := by decide +kernel
theorem dX9_best_1 : decode cX9_best 1 = .ok (.iconst 1, 1) := by decide +kernel
theorem dX9_best_2 : decode cX9_best 2 = .ok (.bipush 99, 2) := by decide +kernel
theorem dX9_best_4 : decode cX9_best 4 = .ok (.invokestatic 104, 3) := by decide +kernel
theorem dX9_best_7 : decode cX9_best 7 = .ok (.ifCond .eq 19, 3) := by decide +kernel
theorem dX9_best_10 : decode cX9_best 10 = .ok (.iload_n 2, 1) := by decide +kernel
theorem dX9_best_11 : decode cX9_best 11 = .ok (.invokestatic 156, 3) := by decide +kernel
theorem dX9_best_14 : decode cX9_best 14 = .ok (.ifCond .eq 12, 3) := by decide +kernel
theorem dX9_best_17 : decode cX9_best 17 = .ok (.iload_n 3, 1) := by decide +kernel
theorem dX9_best_18 : decode cX9_best 18 = .ok (.iconst 0, 1) := by decide +kernel
theorem dX9_best_19 : decode cX9_best 19 = .ok (.iconst 3, 1) := by decide +kernel
theorem dX9_best_20 : decode cX9_best 20 = .ok (.invokestatic 104, 3) := by decide +kernel
theorem dX9_best_23 : decode cX9_best 23 = .ok (.ifCond .ne 5, 3) := by decide +kernel
theorem dX9_best_26 : decode cX9_best 26 = .ok (.iconst (-1), 1) := by decide +kernel
theorem dX9_best_27 : decode cX9_best 27 = .ok (.ireturn, 1) := by decide +kernel
theorem dX9_best_28 : decode cX9_best 28 = .ok (.aload_n 0, 1) := by decide +kernel
theorem dX9_best_29 : decode cX9_best 29 = .ok (.getfield 81, 3) := by decide +kernel
theorem dX9_best_32 : decode cX9_best 32 = .ok (.iload_n 1, 1) := by decide +kernel
theorem dX9_best_33 : decode cX9_best 33 = .ok (.iload_n 2, 1) := by decide +kernel
theorem dX9_best_34 : decode cX9_best 34 = .ok (.invokevirtual 195, 3) := by decide +kernel
theorem dX9_best_37 : decode cX9_best 37 = .ok (.ifCond .ne 9, 3) := by decide +kernel
theorem dX9_best_40 : decode cX9_best 40 = .ok (.aload_n 0, 1) := by decide +kernel
theorem dX9_best_41 : decode cX9_best 41 = .ok (.iload_n 1, 1) := by decide +kernel
theorem dX9_best_42 : decode cX9_best 42 = .ok (.iload_n 2, 1) := by decide +kernel
theorem dX9_best_43 : decode cX9_best 43 = .ok (.invokevirtual 199, 3) := by decide +kernel
theorem dX9_best_46 : decode cX9_best 46 = .ok (.aload_n 0, 1) := by decide +kernel
theorem dX9_best_47 : decode cX9_best 47 = .ok (.getfield 81, 3) := by decide +kernel
theorem dX9_best_50 : decode cX9_best 50 = .ok (.iload_n 3, 1) := by decide +kernel
theorem dX9_best_51 : decode cX9_best 51 = .ok (.invokevirtual 203, 3) := by decide +kernel
theorem dX9_best_54 : decode cX9_best 54 = .ok (.ireturn, 1) := by decide +kernel
set_option maxRecDepth 20000 in
theorem ggX9_just_X9_within : GoodIn wsX9_just wsX9_within := goodIn_r _ [10] (by decide +kernel) (by decide +kernel)
set_option maxRecDepth 20000 in
theorem gX9_just_X9_within : GoodIn wsX9_just (va_wsS RX9 104 yX9_within wsX9_within) := goodIn_app (goodIn_of _ (by decide +kernel)) ggX9_just_X9_within
set_option maxRecDepth 20000 in
theorem ggX9_just_X9_learnCalmPlaces : GoodIn wsX9_just wsX9_learnCalmPlaces := goodIn_r _ [14, 15, 2, 16, 17, 18, 19, 20, 21, 22, 23, 24, 25, 26, 27, 28, 29, 30, 31, 32, 33, 34, 35, 36, 37, 38, 9, 39, 40, 41, 42, 43, 44, 45, 46, 47, 48, 49, 50, 51, 52, 53, 54, 55, 56, 57, 58, 59, 60, 61, 62, 63, 64, 65, 5, 66, 67, 68, 69, 70, 71, 72, 73, 74, 75, 76, 77, 78, 79, 80, 81, 82, 83, 84, 85, 86, 87, 88, 89, 90, 91, 92, 93, 94, 95, 96, 97, 98, 99, 100, 101, 102, 103, 104, 105, 106, 107, 108, 109, 110, 111, 112, 113, 114, 115, 116, 117, 118, 119, 120, 121, 122, 123, 124, 125, 126, 127, 128, 129, 130, 131, 132, 133, 134, 135, 136, 137, 138, 139, 140, 141, 142, 143, 144, 145] (by decide +kernel) (by decide +kernel)
set_option maxRecDepth 20000 in
theorem gX9_just_X9_learnCalmPlaces : GoodIn wsX9_just (wsV RX9 192 RX9 yX9_learnCalmPlaces wsX9_learnCalmPlaces) := goodIn_app (goodIn_of _ (by decide +kernel)) ggX9_just_X9_learnCalmPlaces
theorem dX9_just_0 : decode cX9_just 0 = .ok (.iload_n 1, 1) := by decide +kernel
theorem dX9_just_1 : decode cX9_just 1 = .ok (.iconst 0, 1) := by decide +kernel
theorem dX9_just_2 : decode cX9_just 2 = .ok (.ldc 183, 2) := by decide +kernel
theorem dX9_just_4 : decode cX9_just 4 = .ok (.invokestatic 104, 3) := by decide +kernel
theorem dX9_just_7 : decode cX9_just 7 = .ok (.ifCond .eq 12, 3) := by decide +kernel
theorem dX9_just_10 : decode cX9_just 10 = .ok (.iload_n 2, 1) := by decide +kernel
theorem dX9_just_11 : decode cX9_just 11 = .ok (.iconst 0, 1) := by decide +kernel
theorem dX9_just_12 : decode cX9_just 12 = .ok (.iconst 1, 1) := by decide +kernel
theorem dX9_just_13 : decode cX9_just 13 = .ok (.invokestatic 104, 3) := by decide +kernel
theorem dX9_just_16 : decode cX9_just 16 = .ok (.ifCond .ne 5, 3) := by decide +kernel
theorem dX9_just_19 : decode cX9_just 19 = .ok (.iconst (-1), 1) := by decide +kernel
theorem dX9_just_20 : decode cX9_just 20 = .ok (.ireturn, 1) := by decide +kernel
theorem dX9_just_21 : decode cX9_just 21 = .ok (.aload_n 0, 1) := by decide +kernel
theorem dX9_just_22 : decode cX9_just 22 = .ok (.invokevirtual 192, 3) := by decide +kernel
theorem dX9_just_25 : decode cX9_just 25 = .ok (.iconst 0, 1) := by decide +kernel
theorem dX9_just_26 : decode cX9_just 26 = .ok (.istore_n 3, 1) := by decide +kernel
theorem dX9_just_27 : decode cX9_just 27 = .ok (.iconst 1, 1) := by decide +kernel
theorem dX9_just_28 : decode cX9_just 28 = .ok (.istore 4, 2) := by decide +kernel
theorem dX9_just_30 : decode cX9_just 30 = .ok (.iload 4, 2) := by decide +kernel
theorem dX9_just_32 : decode cX9_just 32 = .ok (.aload_n 0, 1) := by decide +kernel
theorem dX9_just_33 : decode cX9_just 33 = .ok (.getfield 72, 3) := by decide +kernel
theorem dX9_just_36 : decode cX9_just 36 = .ok (.arraylength, 1) := by decide +kernel
theorem dX9_just_37 : decode cX9_just 37 = .ok (.if_icmp .ge 38, 3) := by decide +kernel
theorem dX9_just_40 : decode cX9_just 40 = .ok (.aload_n 0, 1) := by decide +kernel
theorem dX9_just_41 : decode cX9_just 41 = .ok (.getfield 72, 3) := by decide +kernel
theorem dX9_just_44 : decode cX9_just 44 = .ok (.iload 4, 2) := by decide +kernel
theorem dX9_just_46 : decode cX9_just 46 = .ok (.iaload, 1) := by decide +kernel
theorem dX9_just_47 : decode cX9_just 47 = .ok (.iload_n 1, 1) := by decide +kernel
theorem dX9_just_48 : decode cX9_just 48 = .ok (.isub, 1) := by decide +kernel
theorem dX9_just_49 : decode cX9_just 49 = .ok (.invokestatic 206, 3) := by decide +kernel
theorem dX9_just_52 : decode cX9_just 52 = .ok (.aload_n 0, 1) := by decide +kernel
theorem dX9_just_53 : decode cX9_just 53 = .ok (.getfield 72, 3) := by decide +kernel
theorem dX9_just_56 : decode cX9_just 56 = .ok (.iload_n 3, 1) := by decide +kernel
theorem dX9_just_57 : decode cX9_just 57 = .ok (.iaload, 1) := by decide +kernel
theorem dX9_just_58 : decode cX9_just 58 = .ok (.iload_n 1, 1) := by decide +kernel
theorem dX9_just_59 : decode cX9_just 59 = .ok (.isub, 1) := by decide +kernel
theorem dX9_just_60 : decode cX9_just 60 = .ok (.invokestatic 206, 3) := by decide +kernel
theorem dX9_just_63 : decode cX9_just 63 = .ok (.if_icmp .ge 6, 3) := by decide +kernel
theorem dX9_just_66 : decode cX9_just 66 = .ok (.iload 4, 2) := by decide +kernel
theorem dX9_just_68 : decode cX9_just 68 = .ok (.istore_n 3, 1) := by decide +kernel
theorem dX9_just_69 : decode cX9_just 69 = .ok (.iinc 4 1, 3) := by decide +kernel
theorem dX9_just_72 : decode cX9_just 72 = .ok (.goto (-42), 3) := by decide +kernel
theorem dX9_just_75 : decode cX9_just 75 = .ok (.iload_n 2, 1) := by decide +kernel
theorem dX9_just_76 : decode cX9_just 76 = .ok (.ifCond .ne 7, 3) := by decide +kernel
theorem dX9_just_79 : decode cX9_just 79 = .ok (.iload_n 3, 1) := by decide +kernel
theorem dX9_just_80 : decode cX9_just 80 = .ok (.goto 9, 3) := by decide +kernel
theorem dX9_just_83 : decode cX9_just 83 = .ok (.aload_n 0, 1) := by decide +kernel
theorem dX9_just_84 : decode cX9_just 84 = .ok (.getfield 72, 3) := by decide +kernel
theorem dX9_just_87 : decode cX9_just 87 = .ok (.iload_n 3, 1) := by decide +kernel
theorem dX9_just_88 : decode cX9_just 88 = .ok (.iaload, 1) := by decide +kernel
theorem dX9_just_89 : decode cX9_just 89 = .ok (.ireturn, 1) := by decide +kernel
set_option maxRecDepth 20000 in
theorem ggX9_span_X9_isTurns : GoodIn wsX9_span wsX9_isTurns := goodIn_r _ [5, 6, 7, 4, 8] (by decide +kernel) (by decide +kernel)
set_option maxRecDepth 20000 in
theorem gX9_span_X9_isTurns : GoodIn wsX9_span (va_wsS RX9 156 yX9_isTurns wsX9_isTurns) := goodIn_app (goodIn_of _ (by decide +kernel)) ggX9_span_X9_isTurns
set_option maxRecDepth 20000 in
theorem ggX9_span_X9_within : GoodIn wsX9_span wsX9_within := goodIn_r _ [8] (by decide +kernel) (by decide +kernel)
set_option maxRecDepth 20000 in
theorem gX9_span_X9_within : GoodIn wsX9_span (va_wsS RX9 104 yX9_within wsX9_within) := goodIn_app (goodIn_of _ (by decide +kernel)) ggX9_span_X9_within
set_option maxRecDepth 20000 in
theorem ggX9_span_X3_holds : GoodIn wsX9_span wsX3_holds := goodIn_r _ [12, 13, 14, 15, 124, 125, 126, 127] (by decide +kernel) (by decide +kernel)
set_option maxRecDepth 20000 in
theorem gX9_span_X3_holds_n195 : GoodIn wsX9_span (wsX3_holds) := ggX9_span_X3_holds
set_option maxRecDepth 20000 in
theorem ggX9_span_X9_searchSpan : GoodIn wsX9_span wsX9_searchSpan := goodIn_r _ [19, 1, 20, 21, 22, 10, 23, 24, 13, 14, 15, 25, 26, 27, 28, 29, 30, 31, 32, 33, 34, 35, 36, 37, 38, 39, 40, 41, 42, 43, 44, 45, 46, 4, 47, 48, 49, 50, 51, 52, 53, 54, 55, 56, 57, 58, 59, 60, 61, 62, 63, 64, 65, 66, 67, 68, 69, 70, 71, 72, 73, 74, 75, 76, 77, 78, 79, 80, 81, 82, 83, 84, 85, 86, 87, 88, 89, 90, 91, 92, 93, 94, 95, 96, 97, 98, 99, 100, 101, 102, 103, 104, 105, 106, 107, 108, 109, 110, 111, 112, 113, 114, 115, 116, 117, 118, 119, 120, 121, 122, 123, 128, 129, 130, 131, 132, 133, 134, 135, 136, 137, 138, 139, 140, 124, 125, 126, 127, 141, 142, 143, 144, 145, 146, 147, 148, 149, 150, 151, 152, 153, 154, 155, 156, 157, 158, 159, 160, 161, 162, 163, 164] (by decide +kernel) (by decide +kernel)
set_option maxRecDepth 20000 in
theorem gX9_span_X9_searchSpan : GoodIn wsX9_span (wsV RX9 211 RX9 yX9_searchSpan wsX9_searchSpan) := goodIn_app (goodIn_of _ (by decide +kernel)) ggX9_span_X9_searchSpan
set_option maxRecDepth 20000 in
theorem ggX9_span_X3_answer : GoodIn wsX9_span wsX3_answer := goodIn_r _ [102, 25, 124, 125, 126, 127] (by decide +kernel) (by decide +kernel)
set_option maxRecDepth 20000 in
theorem gX9_span_X3_answer_n203 : GoodIn wsX9_span (wsX3_answer) := ggX9_span_X3_answer
theorem dX9_span_0 : decode cX9_span 0 = .ok (.iload_n 1, 1) := by decide +kernel
theorem dX9_span_1 : decode cX9_span 1 = .ok (.invokestatic 156, 3) := by decide +kernel
theorem dX9_span_4 : decode cX9_span 4 = .ok (.ifCond .eq 23, 3) := by decide +kernel
theorem dX9_span_7 : decode cX9_span 7 = .ok (.iload_n 2, 1) := by decide +kernel
theorem dX9_span_8 : decode cX9_span 8 = .ok (.iconst 0, 1) := by decide +kernel
theorem dX9_span_9 : decode cX9_span 9 = .ok (.sipush 9999, 3) := by decide +kernel
theorem dX9_span_12 : decode cX9_span 12 = .ok (.invokestatic 104, 3) := by decide +kernel
theorem dX9_span_15 : decode cX9_span 15 = .ok (.ifCond .eq 12, 3) := by decide +kernel
theorem dX9_span_18 : decode cX9_span 18 = .ok (.iload_n 3, 1) := by decide +kernel
theorem dX9_span_19 : decode cX9_span 19 = .ok (.iconst 0, 1) := by decide +kernel
theorem dX9_span_20 : decode cX9_span 20 = .ok (.iconst 1, 1) := by decide +kernel
theorem dX9_span_21 : decode cX9_span 21 = .ok (.invokestatic 104, 3) := by decide +kernel
theorem dX9_span_24 : decode cX9_span 24 = .ok (.ifCond .ne 5, 3) := by decide +kernel
theorem dX9_span_27 : decode cX9_span 27 = .ok (.iconst (-1), 1) := by decide +kernel
theorem dX9_span_28 : decode cX9_span 28 = .ok (.ireturn, 1) := by decide +kernel
theorem dX9_span_29 : decode cX9_span 29 = .ok (.aload_n 0, 1) := by decide +kernel
theorem dX9_span_30 : decode cX9_span 30 = .ok (.getfield 85, 3) := by decide +kernel
theorem dX9_span_33 : decode cX9_span 33 = .ok (.iload_n 1, 1) := by decide +kernel
theorem dX9_span_34 : decode cX9_span 34 = .ok (.iload_n 2, 1) := by decide +kernel
theorem dX9_span_35 : decode cX9_span 35 = .ok (.invokevirtual 195, 3) := by decide +kernel
theorem dX9_span_38 : decode cX9_span 38 = .ok (.ifCond .ne 9, 3) := by decide +kernel
theorem dX9_span_41 : decode cX9_span 41 = .ok (.aload_n 0, 1) := by decide +kernel
theorem dX9_span_42 : decode cX9_span 42 = .ok (.iload_n 1, 1) := by decide +kernel
theorem dX9_span_43 : decode cX9_span 43 = .ok (.iload_n 2, 1) := by decide +kernel
theorem dX9_span_44 : decode cX9_span 44 = .ok (.invokevirtual 211, 3) := by decide +kernel
theorem dX9_span_47 : decode cX9_span 47 = .ok (.aload_n 0, 1) := by decide +kernel
theorem dX9_span_48 : decode cX9_span 48 = .ok (.getfield 85, 3) := by decide +kernel
theorem dX9_span_51 : decode cX9_span 51 = .ok (.iload_n 3, 1) := by decide +kernel
theorem dX9_span_52 : decode cX9_span 52 = .ok (.invokevirtual 203, 3) := by decide +kernel
theorem dX9_span_55 : decode cX9_span 55 = .ok (.ireturn, 1) := by decide +kernel
set_option maxRecDepth 20000 in
theorem ggX9_straight_X9_isTurns : GoodIn wsX9_straight wsX9_isTurns := goodIn_r _ [5, 6, 7, 4, 8] (by decide +kernel) (by decide +kernel)
set_option maxRecDepth 20000 in
theorem gX9_straight_X9_isTurns : GoodIn wsX9_straight (va_wsS RX9 156 yX9_isTurns wsX9_isTurns) := goodIn_app (goodIn_of _ (by decide +kernel)) ggX9_straight_X9_isTurns
set_option maxRecDepth 20000 in
theorem ggX9_straight_X9_within : GoodIn wsX9_straight wsX9_within := goodIn_r _ [8] (by decide +kernel) (by decide +kernel)
set_option maxRecDepth 20000 in
theorem gX9_straight_X9_within : GoodIn wsX9_straight (va_wsS RX9 104 yX9_within wsX9_within) := goodIn_app (goodIn_of _ (by decide +kernel)) ggX9_straight_X9_within
set_option maxRecDepth 20000 in
theorem ggX9_straight_X3_holds : GoodIn wsX9_straight wsX3_holds := goodIn_r _ [12, 13, 14, 15, 150, 151, 152, 153] (by decide +kernel) (by decide +kernel)
set_option maxRecDepth 20000 in
theorem gX9_straight_X3_holds_n195 : GoodIn wsX9_straight (wsX3_holds) := ggX9_straight_X3_holds
set_option maxRecDepth 20000 in
theorem ggX9_straight_X9_searchStraight : GoodIn wsX9_straight wsX9_searchStraight := goodIn_r _ [19, 20, 21, 1, 22, 23, 24, 25, 26, 27, 28, 29, 30, 31, 32, 33, 34, 35, 36, 37, 38, 39, 40, 41, 42, 43, 44, 45, 46, 47, 48, 49, 10, 50, 51, 13, 14, 15, 52, 53, 54, 55, 56, 57, 58, 59, 60, 61, 62, 63, 64, 65, 66, 67, 68, 69, 70, 71, 72, 73, 4, 74, 75, 76, 77, 78, 79, 80, 81, 82, 83, 84, 85, 86, 87, 88, 89, 90, 91, 92, 93, 94, 95, 96, 97, 98, 99, 100, 101, 102, 103, 104, 105, 106, 107, 108, 109, 110, 111, 112, 113, 114, 115, 116, 117, 118, 119, 120, 121, 122, 123, 124, 125, 126, 127, 128, 132, 133, 134, 135, 136, 137, 138, 139, 140, 141, 142, 143, 144, 145, 146, 147, 148, 149, 154, 155, 156, 157, 158, 159, 160, 161, 162, 163, 164, 165, 166, 167, 168, 169, 170, 171, 172, 173, 174, 175, 176, 177, 178, 179, 180, 181, 182, 183, 150, 151, 152, 153, 184, 185, 186, 187, 188, 189, 190] (by decide +kernel) (by decide +kernel)
set_option maxRecDepth 20000 in
theorem gX9_straight_X9_searchStraight : GoodIn wsX9_straight (wsV RX9 214 RX9 yX9_searchStraight wsX9_searchStraight) := goodIn_app (goodIn_of _ (by decide +kernel)) ggX9_straight_X9_searchStraight
set_option maxRecDepth 20000 in
theorem ggX9_straight_X3_answer : GoodIn wsX9_straight wsX3_answer := goodIn_r _ [131, 52, 150, 151, 152, 153] (by decide +kernel) (by decide +kernel)
set_option maxRecDepth 20000 in
theorem gX9_straight_X3_answer_n203 : GoodIn wsX9_straight (wsX3_answer) := ggX9_straight_X3_answer
theorem dX9_straight_0 : decode cX9_straight 0 = .ok (.iload_n 1, 1) := by decide +kernel
theorem dX9_straight_1 : decode cX9_straight 1 = .ok (.invokestatic 156, 3) := by decide +kernel
theorem dX9_straight_4 : decode cX9_straight 4 = .ok (.ifCond .eq 12, 3) := by decide +kernel
theorem dX9_straight_7 : decode cX9_straight 7 = .ok (.iload_n 2, 1) := by decide +kernel
theorem dX9_straight_8 : decode cX9_straight 8 = .ok (.iconst 0, 1) := by decide +kernel
theorem dX9_straight_9 : decode cX9_straight 9 = .ok (.iconst 1, 1) := by decide +kernel
theorem dX9_straight_10 : decode cX9_straight 10 = .ok (.invokestatic 104, 3) := by decide +kernel
theorem dX9_straight_13 : decode cX9_straight 13 = .ok (.ifCond .ne 5, 3) := by decide +kernel
theorem dX9_straight_16 : decode cX9_straight 16 = .ok (.iconst (-1), 1) := by decide +kernel
theorem dX9_straight_17 : decode cX9_straight 17 = .ok (.ireturn, 1) := by decide +kernel
theorem dX9_straight_18 : decode cX9_straight 18 = .ok (.aload_n 0, 1) := by decide +kernel
theorem dX9_straight_19 : decode cX9_straight 19 = .ok (.getfield 88, 3) := by decide +kernel
theorem dX9_straight_22 : decode cX9_straight 22 = .ok (.iload_n 1, 1) := by decide +kernel
theorem dX9_straight_23 : decode cX9_straight 23 = .ok (.iconst 0, 1) := by decide +kernel
theorem dX9_straight_24 : decode cX9_straight 24 = .ok (.invokevirtual 195, 3) := by decide +kernel
theorem dX9_straight_27 : decode cX9_straight 27 = .ok (.ifCond .ne 8, 3) := by decide +kernel
theorem dX9_straight_30 : decode cX9_straight 30 = .ok (.aload_n 0, 1) := by decide +kernel
theorem dX9_straight_31 : decode cX9_straight 31 = .ok (.iload_n 1, 1) := by decide +kernel
theorem dX9_straight_32 : decode cX9_straight 32 = .ok (.invokevirtual 214, 3) := by decide +kernel
theorem dX9_straight_35 : decode cX9_straight 35 = .ok (.aload_n 0, 1) := by decide +kernel
theorem dX9_straight_36 : decode cX9_straight 36 = .ok (.getfield 88, 3) := by decide +kernel
theorem dX9_straight_39 : decode cX9_straight 39 = .ok (.iload_n 2, 1) := by decide +kernel
theorem dX9_straight_40 : decode cX9_straight 40 = .ok (.invokevirtual 203, 3) := by decide +kernel
theorem dX9_straight_43 : decode cX9_straight 43 = .ok (.ireturn, 1) := by decide +kernel
set_option maxRecDepth 20000 in
theorem ggX9_two_X9_within : GoodIn wsX9_two wsX9_within := goodIn_r _ [6] (by decide +kernel) (by decide +kernel)
set_option maxRecDepth 20000 in
theorem gX9_two_X9_within : GoodIn wsX9_two (va_wsS RX9 104 yX9_within wsX9_within) := goodIn_app (goodIn_of _ (by decide +kernel)) ggX9_two_X9_within
set_option maxRecDepth 20000 in
theorem ggX9_two_X8_make : GoodIn wsX9_two wsX8_make := goodIn_r _ [10, 11, 12, 13, 14, 15, 16, 17, 18, 19, 20, 21, 22, 23, 24, 25, 26, 27, 5, 28, 29, 30, 31, 32, 33, 34, 35, 36, 37, 38, 39, 40, 41, 42, 43, 44, 45, 46, 47, 48, 49, 50, 51, 52, 53, 54, 55, 56, 57, 58, 59, 60, 61, 62, 63, 64, 65, 66, 67, 68, 69, 70, 71, 72, 73, 74, 75, 76, 77, 8, 78, 79, 80, 99, 100, 101, 102, 103, 104, 105, 106, 107, 108, 109, 110, 111, 112, 113, 114, 115, 116, 117, 118, 119, 120, 121, 122, 123, 124, 125, 126, 127, 128, 129, 130, 131, 132, 133, 134, 135] (by decide +kernel) (by decide +kernel)
set_option maxRecDepth 20000 in
theorem gX9_two_X8_make_n160 : GoodIn wsX9_two (wsX8_make) := ggX9_two_X8_make
theorem dX9_two_0 : decode cX9_two 0 = .ok (.iload_n 1, 1) := by decide +kernel
theorem dX9_two_1 : decode cX9_two 1 = .ok (.iconst 1, 1) := by decide +kernel
theorem dX9_two_2 : decode cX9_two 2 = .ok (.sipush 400, 3) := by decide +kernel
theorem dX9_two_5 : decode cX9_two 5 = .ok (.invokestatic 104, 3) := by decide +kernel
theorem dX9_two_8 : decode cX9_two 8 = .ok (.ifCond .ne 5, 3) := by decide +kernel
theorem dX9_two_11 : decode cX9_two 11 = .ok (.iconst (-1), 1) := by decide +kernel
theorem dX9_two_12 : decode cX9_two 12 = .ok (.ireturn, 1) := by decide +kernel
theorem dX9_two_13 : decode cX9_two 13 = .ok (.aload_n 0, 1) := by decide +kernel
theorem dX9_two_14 : decode cX9_two 14 = .ok (.getfield 43, 3) := by decide +kernel
theorem dX9_two_17 : decode cX9_two 17 = .ok (.aload_n 0, 1) := by decide +kernel
theorem dX9_two_18 : decode cX9_two 18 = .ok (.getfield 26, 3) := by decide +kernel
theorem dX9_two_21 : decode cX9_two 21 = .ok (.iload_n 1, 1) := by decide +kernel
theorem dX9_two_22 : decode cX9_two 22 = .ok (.iconst (-1), 1) := by decide +kernel
theorem dX9_two_23 : decode cX9_two 23 = .ok (.sipush 1200, 3) := by decide +kernel
theorem dX9_two_26 : decode cX9_two 26 = .ok (.iconst 1, 1) := by decide +kernel
theorem dX9_two_27 : decode cX9_two 27 = .ok (.invokevirtual 160, 3) := by decide +kernel
theorem dX9_two_30 : decode cX9_two 30 = .ok (.aload_n 0, 1) := by decide +kernel
theorem dX9_two_31 : decode cX9_two 31 = .ok (.getfield 43, 3) := by decide +kernel
theorem dX9_two_34 : decode cX9_two 34 = .ok (.getfield 167, 3) := by decide +kernel
theorem dX9_two_37 : decode cX9_two 37 = .ok (.getfield 170, 3) := by decide +kernel
theorem dX9_two_40 : decode cX9_two 40 = .ok (.ireturn, 1) := by decide +kernel
set_option maxRecDepth 20000 in
theorem ggX9_reading_X9_isTurns : GoodIn wsX9_reading wsX9_isTurns := goodIn_r _ [6, 7, 8, 5, 9] (by decide +kernel) (by decide +kernel)
set_option maxRecDepth 20000 in
theorem gX9_reading_X9_isTurns : GoodIn wsX9_reading (va_wsS RX9 156 yX9_isTurns wsX9_isTurns) := goodIn_app (goodIn_of _ (by decide +kernel)) ggX9_reading_X9_isTurns
set_option maxRecDepth 20000 in
theorem ggX9_reading_X9_within : GoodIn wsX9_reading wsX9_within := goodIn_r _ [9] (by decide +kernel) (by decide +kernel)
set_option maxRecDepth 20000 in
theorem gX9_reading_X9_within : GoodIn wsX9_reading (va_wsS RX9 104 yX9_within wsX9_within) := goodIn_app (goodIn_of _ (by decide +kernel)) ggX9_reading_X9_within
set_option maxRecDepth 20000 in
theorem ggX9_reading_X1_add : GoodIn wsX9_reading wsX1_add := goodIn_r _ [13, 14, 15, 16, 17, 8, 5, 9, 41, 42, 43, 44] (by decide +kernel) (by decide +kernel)
set_option maxRecDepth 20000 in
theorem gX9_reading_X1_add_n217 : GoodIn wsX9_reading (wsX1_add) := ggX9_reading_X1_add
set_option maxRecDepth 20000 in
theorem ggX9_reading_X3_drop : GoodIn wsX9_reading wsX3_drop := goodIn_r _ [21, 22, 45, 46, 47, 48] (by decide +kernel) (by decide +kernel)
set_option maxRecDepth 20000 in
theorem gX9_reading_X3_drop_n220 : GoodIn wsX9_reading (wsX3_drop) := ggX9_reading_X3_drop
theorem dX9_reading_0 : decode cX9_reading 0 = .ok (.iload_n 1, 1) := by decide +kernel
theorem dX9_reading_1 : decode cX9_reading 1 = .ok (.invokestatic 156, 3) := by decide +kernel
theorem dX9_reading_4 : decode cX9_reading 4 = .ok (.ifCond .eq 25, 3) := by decide +kernel
theorem dX9_reading_7 : decode cX9_reading 7 = .ok (.iload_n 2, 1) := by decide +kernel
theorem dX9_reading_8 : decode cX9_reading 8 = .ok (.iconst 0, 1) := by decide +kernel
theorem dX9_reading_9 : decode cX9_reading 9 = .ok (.sipush 9999, 3) := by decide +kernel
theorem dX9_reading_12 : decode cX9_reading 12 = .ok (.invokestatic 104, 3) := by decide +kernel
theorem dX9_reading_15 : decode cX9_reading 15 = .ok (.ifCond .eq 14, 3) := by decide +kernel
theorem dX9_reading_18 : decode cX9_reading 18 = .ok (.iload_n 3, 1) := by decide +kernel
theorem dX9_reading_19 : decode cX9_reading 19 = .ok (.iconst 0, 1) := by decide +kernel
theorem dX9_reading_20 : decode cX9_reading 20 = .ok (.sipush 9999, 3) := by decide +kernel
theorem dX9_reading_23 : decode cX9_reading 23 = .ok (.invokestatic 104, 3) := by decide +kernel
theorem dX9_reading_26 : decode cX9_reading 26 = .ok (.ifCond .ne 5, 3) := by decide +kernel
theorem dX9_reading_29 : decode cX9_reading 29 = .ok (.iconst (-1), 1) := by decide +kernel
theorem dX9_reading_30 : decode cX9_reading 30 = .ok (.ireturn, 1) := by decide +kernel
theorem dX9_reading_31 : decode cX9_reading 31 = .ok (.aload_n 0, 1) := by decide +kernel
theorem dX9_reading_32 : decode cX9_reading 32 = .ok (.getfield 50, 3) := by decide +kernel
theorem dX9_reading_35 : decode cX9_reading 35 = .ok (.iload_n 1, 1) := by decide +kernel
theorem dX9_reading_36 : decode cX9_reading 36 = .ok (.iload_n 2, 1) := by decide +kernel
theorem dX9_reading_37 : decode cX9_reading 37 = .ok (.iload_n 3, 1) := by decide +kernel
theorem dX9_reading_38 : decode cX9_reading 38 = .ok (.invokevirtual 217, 3) := by decide +kernel
theorem dX9_reading_41 : decode cX9_reading 41 = .ok (.ifCond .ne 6, 3) := by decide +kernel
theorem dX9_reading_44 : decode cX9_reading 44 = .ok (.bipush (-3), 2) := by decide +kernel
theorem dX9_reading_46 : decode cX9_reading 46 = .ok (.ireturn, 1) := by decide +kernel
theorem dX9_reading_47 : decode cX9_reading 47 = .ok (.aload_n 0, 1) := by decide +kernel
theorem dX9_reading_48 : decode cX9_reading 48 = .ok (.getfield 91, 3) := by decide +kernel
theorem dX9_reading_51 : decode cX9_reading 51 = .ok (.invokevirtual 220, 3) := by decide +kernel
theorem dX9_reading_54 : decode cX9_reading 54 = .ok (.aload_n 0, 1) := by decide +kernel
theorem dX9_reading_55 : decode cX9_reading 55 = .ok (.getfield 50, 3) := by decide +kernel
theorem dX9_reading_58 : decode cX9_reading 58 = .ok (.getfield 133, 3) := by decide +kernel
theorem dX9_reading_61 : decode cX9_reading 61 = .ok (.ireturn, 1) := by decide +kernel
set_option maxRecDepth 20000 in
theorem ggX9_fits_X9_within : GoodIn wsX9_fits wsX9_within := goodIn_r _ [5] (by decide +kernel) (by decide +kernel)
set_option maxRecDepth 20000 in
theorem gX9_fits_X9_within : GoodIn wsX9_fits (va_wsS RX9 104 yX9_within wsX9_within) := goodIn_app (goodIn_of _ (by decide +kernel)) ggX9_fits_X9_within
set_option maxRecDepth 20000 in
theorem ggX9_fits_X3_holds : GoodIn wsX9_fits wsX3_holds := goodIn_r _ [9, 10, 11, 12, 111, 112, 113, 114] (by decide +kernel) (by decide +kernel)
set_option maxRecDepth 20000 in
theorem gX9_fits_X3_holds_n195 : GoodIn wsX9_fits (wsX3_holds) := ggX9_fits_X3_holds
set_option maxRecDepth 20000 in
theorem ggX9_fits_X9_searchFits : GoodIn wsX9_fits wsX9_searchFits := goodIn_r _ [16, 17, 18, 1, 19, 20, 21, 22, 23, 24, 25, 26, 27, 28, 29, 30, 31, 32, 33, 34, 35, 36, 37, 38, 39, 40, 41, 42, 7, 43, 44, 10, 11, 12, 45, 46, 47, 48, 49, 50, 51, 52, 53, 54, 55, 56, 57, 4, 58, 59, 60, 61, 62, 63, 64, 65, 66, 67, 68, 69, 70, 71, 72, 73, 74, 75, 76, 77, 78, 79, 80, 81, 82, 83, 84, 85, 86, 87, 88, 89, 90, 91, 92, 93, 94, 95, 96, 97, 98, 99, 100, 101, 102, 103, 104, 105, 106, 107, 108, 109, 110, 115, 116, 117, 118, 119, 120, 121, 122, 123, 124, 125, 126, 127, 128, 129, 130, 131, 132, 133, 134, 135, 136, 137, 111, 112, 113, 114, 138, 139, 140, 141, 142, 143, 144, 145, 146, 147, 148] (by decide +kernel) (by decide +kernel)
set_option maxRecDepth 20000 in
theorem gX9_fits_X9_searchFits : GoodIn wsX9_fits (wsV RX9 223 RX9 yX9_searchFits wsX9_searchFits) := goodIn_app (goodIn_of _ (by decide +kernel)) ggX9_fits_X9_searchFits
set_option maxRecDepth 20000 in
theorem ggX9_fits_X3_answer : GoodIn wsX9_fits wsX3_answer := goodIn_r _ [84, 45, 111, 112, 113, 114] (by decide +kernel) (by decide +kernel)
set_option maxRecDepth 20000 in
theorem gX9_fits_X3_answer_n203 : GoodIn wsX9_fits (wsX3_answer) := ggX9_fits_X3_answer
theorem dX9_fits_0 : decode cX9_fits 0 = .ok (.iload_n 1, 1) := by decide +kernel
theorem dX9_fits_1 : decode cX9_fits 1 = .ok (.iconst 0, 1) := by decide +kernel
theorem dX9_fits_2 : decode cX9_fits 2 = .ok (.sipush 999, 3) := by decide +kernel
theorem dX9_fits_5 : decode cX9_fits 5 = .ok (.invokestatic 104, 3) := by decide +kernel
theorem dX9_fits_8 : decode cX9_fits 8 = .ok (.ifCond .eq 12, 3) := by decide +kernel
theorem dX9_fits_11 : decode cX9_fits 11 = .ok (.iload_n 2, 1) := by decide +kernel
theorem dX9_fits_12 : decode cX9_fits 12 = .ok (.iconst 0, 1) := by decide +kernel
theorem dX9_fits_13 : decode cX9_fits 13 = .ok (.iconst 4, 1) := by decide +kernel
theorem dX9_fits_14 : decode cX9_fits 14 = .ok (.invokestatic 104, 3) := by decide +kernel
theorem dX9_fits_17 : decode cX9_fits 17 = .ok (.ifCond .ne 5, 3) := by decide +kernel
theorem dX9_fits_20 : decode cX9_fits 20 = .ok (.iconst (-1), 1) := by decide +kernel
theorem dX9_fits_21 : decode cX9_fits 21 = .ok (.ireturn, 1) := by decide +kernel
theorem dX9_fits_22 : decode cX9_fits 22 = .ok (.aload_n 0, 1) := by decide +kernel
theorem dX9_fits_23 : decode cX9_fits 23 = .ok (.getfield 91, 3) := by decide +kernel
theorem dX9_fits_26 : decode cX9_fits 26 = .ok (.iload_n 1, 1) := by decide +kernel
theorem dX9_fits_27 : decode cX9_fits 27 = .ok (.iconst 0, 1) := by decide +kernel
theorem dX9_fits_28 : decode cX9_fits 28 = .ok (.invokevirtual 195, 3) := by decide +kernel
theorem dX9_fits_31 : decode cX9_fits 31 = .ok (.ifCond .ne 8, 3) := by decide +kernel
theorem dX9_fits_34 : decode cX9_fits 34 = .ok (.aload_n 0, 1) := by decide +kernel
theorem dX9_fits_35 : decode cX9_fits 35 = .ok (.iload_n 1, 1) := by decide +kernel
theorem dX9_fits_36 : decode cX9_fits 36 = .ok (.invokevirtual 223, 3) := by decide +kernel
theorem dX9_fits_39 : decode cX9_fits 39 = .ok (.iload_n 2, 1) := by decide +kernel
theorem dX9_fits_40 : decode cX9_fits 40 = .ok (.ifCond .le 19, 3) := by decide +kernel
theorem dX9_fits_43 : decode cX9_fits 43 = .ok (.aload_n 0, 1) := by decide +kernel
theorem dX9_fits_44 : decode cX9_fits 44 = .ok (.getfield 91, 3) := by decide +kernel
theorem dX9_fits_47 : decode cX9_fits 47 = .ok (.iconst 0, 1) := by decide +kernel
theorem dX9_fits_48 : decode cX9_fits 48 = .ok (.invokevirtual 203, 3) := by decide +kernel
theorem dX9_fits_51 : decode cX9_fits 51 = .ok (.ifCond .ne 8, 3) := by decide +kernel
theorem dX9_fits_54 : decode cX9_fits 54 = .ok (.bipush (-4), 2) := by decide +kernel
theorem dX9_fits_56 : decode cX9_fits 56 = .ok (.goto 11, 3) := by decide +kernel
theorem dX9_fits_59 : decode cX9_fits 59 = .ok (.aload_n 0, 1) := by decide +kernel
theorem dX9_fits_60 : decode cX9_fits 60 = .ok (.getfield 91, 3) := by decide +kernel
theorem dX9_fits_63 : decode cX9_fits 63 = .ok (.iload_n 2, 1) := by decide +kernel
theorem dX9_fits_64 : decode cX9_fits 64 = .ok (.invokevirtual 203, 3) := by decide +kernel
theorem dX9_fits_67 : decode cX9_fits 67 = .ok (.ireturn, 1) := by decide +kernel
set_option maxRecDepth 20000 in
theorem ggX9_mark_X9_within : GoodIn wsX9_mark wsX9_within := goodIn_r _ [7] (by decide +kernel) (by decide +kernel)
set_option maxRecDepth 20000 in
theorem gX9_mark_X9_within : GoodIn wsX9_mark (va_wsS RX9 104 yX9_within wsX9_within) := goodIn_app (goodIn_of _ (by decide +kernel)) ggX9_mark_X9_within
set_option maxRecDepth 20000 in
theorem ggX9_mark_X2_add : GoodIn wsX9_mark wsX2_add := goodIn_r _ [11, 12, 13, 14, 5, 6, 7, 38, 39, 40] (by decide +kernel) (by decide +kernel)
set_option maxRecDepth 20000 in
theorem gX9_mark_X2_add_n226 : GoodIn wsX9_mark (wsX2_add) := ggX9_mark_X2_add
set_option maxRecDepth 20000 in
theorem ggX9_mark_X3_drop : GoodIn wsX9_mark wsX3_drop := goodIn_r _ [18, 19, 41, 42, 43, 44] (by decide +kernel) (by decide +kernel)
set_option maxRecDepth 20000 in
theorem gX9_mark_X3_drop_n220 : GoodIn wsX9_mark (wsX3_drop) := ggX9_mark_X3_drop
theorem dX9_mark_0 : decode cX9_mark 0 = .ok (.iload_n 1, 1) := by decide +kernel
theorem dX9_mark_1 : decode cX9_mark 1 = .ok (.iconst 1, 1) := by decide +kernel
theorem dX9_mark_2 : decode cX9_mark 2 = .ok (.ldc 183, 2) := by decide +kernel
theorem dX9_mark_4 : decode cX9_mark 4 = .ok (.invokestatic 104, 3) := by decide +kernel
theorem dX9_mark_7 : decode cX9_mark 7 = .ok (.ifCond .eq 14, 3) := by decide +kernel
theorem dX9_mark_10 : decode cX9_mark 10 = .ok (.iload_n 2, 1) := by decide +kernel
theorem dX9_mark_11 : decode cX9_mark 11 = .ok (.iconst 0, 1) := by decide +kernel
theorem dX9_mark_12 : decode cX9_mark 12 = .ok (.sipush 600, 3) := by decide +kernel
theorem dX9_mark_15 : decode cX9_mark 15 = .ok (.invokestatic 104, 3) := by decide +kernel
theorem dX9_mark_18 : decode cX9_mark 18 = .ok (.ifCond .ne 5, 3) := by decide +kernel
theorem dX9_mark_21 : decode cX9_mark 21 = .ok (.iconst (-1), 1) := by decide +kernel
theorem dX9_mark_22 : decode cX9_mark 22 = .ok (.ireturn, 1) := by decide +kernel
theorem dX9_mark_23 : decode cX9_mark 23 = .ok (.aload_n 0, 1) := by decide +kernel
theorem dX9_mark_24 : decode cX9_mark 24 = .ok (.getfield 57, 3) := by decide +kernel
theorem dX9_mark_27 : decode cX9_mark 27 = .ok (.iload_n 1, 1) := by decide +kernel
theorem dX9_mark_28 : decode cX9_mark 28 = .ok (.iload_n 2, 1) := by decide +kernel
theorem dX9_mark_29 : decode cX9_mark 29 = .ok (.invokevirtual 226, 3) := by decide +kernel
theorem dX9_mark_32 : decode cX9_mark 32 = .ok (.ifCond .ne 6, 3) := by decide +kernel
theorem dX9_mark_35 : decode cX9_mark 35 = .ok (.bipush (-3), 2) := by decide +kernel
theorem dX9_mark_37 : decode cX9_mark 37 = .ok (.ireturn, 1) := by decide +kernel
theorem dX9_mark_38 : decode cX9_mark 38 = .ok (.aload_n 0, 1) := by decide +kernel
theorem dX9_mark_39 : decode cX9_mark 39 = .ok (.getfield 94, 3) := by decide +kernel
theorem dX9_mark_42 : decode cX9_mark 42 = .ok (.invokevirtual 220, 3) := by decide +kernel
theorem dX9_mark_45 : decode cX9_mark 45 = .ok (.aload_n 0, 1) := by decide +kernel
theorem dX9_mark_46 : decode cX9_mark 46 = .ok (.getfield 57, 3) := by decide +kernel
theorem dX9_mark_49 : decode cX9_mark 49 = .ok (.getfield 136, 3) := by decide +kernel
theorem dX9_mark_52 : decode cX9_mark 52 = .ok (.ireturn, 1) := by decide +kernel
set_option maxRecDepth 20000 in
theorem ggX9_told_X9_within : GoodIn wsX9_told wsX9_within := goodIn_r _ [5] (by decide +kernel) (by decide +kernel)
set_option maxRecDepth 20000 in
theorem gX9_told_X9_within : GoodIn wsX9_told (va_wsS RX9 104 yX9_within wsX9_within) := goodIn_app (goodIn_of _ (by decide +kernel)) ggX9_told_X9_within
set_option maxRecDepth 20000 in
theorem ggX9_told_X3_holds : GoodIn wsX9_told wsX3_holds := goodIn_r _ [9, 10, 11, 12, 168, 169, 170, 171] (by decide +kernel) (by decide +kernel)
set_option maxRecDepth 20000 in
theorem gX9_told_X3_holds_n195 : GoodIn wsX9_told (wsX3_holds) := ggX9_told_X3_holds
set_option maxRecDepth 20000 in
theorem ggX9_told_X9_searchTold : GoodIn wsX9_told wsX9_searchTold := goodIn_r _ [16, 17, 18, 1, 19, 20, 21, 22, 23, 24, 25, 26, 27, 28, 29, 30, 31, 32, 33, 34, 35, 36, 37, 38, 39, 40, 41, 42, 7, 43, 44, 10, 11, 12, 45, 46, 47, 48, 49, 50, 51, 52, 53, 54, 55, 56, 57, 58, 59, 60, 61, 62, 63, 64, 65, 66, 67, 68, 69, 70, 71, 72, 73, 74, 75, 76, 4, 77, 78, 79, 80, 81, 82, 83, 84, 85, 86, 87, 88, 89, 90, 91, 92, 93, 94, 95, 96, 97, 98, 99, 100, 101, 102, 103, 104, 105, 106, 107, 108, 109, 110, 111, 112, 113, 114, 115, 116, 117, 118, 119, 120, 121, 122, 123, 124, 125, 126, 127, 128, 129, 130, 131, 132, 133, 134, 135, 136, 137, 138, 139, 140, 141, 142, 143, 144, 145, 146, 147, 148, 149, 150, 151, 152, 153, 154, 155, 156, 157, 158, 159, 160, 161, 162, 163, 164, 165, 166, 167, 172, 173, 174, 175, 176, 177, 178, 179, 180, 181, 182, 183, 184, 185, 186, 187, 188, 168, 169, 170, 171, 189, 190, 191, 192, 193, 194, 195, 196, 197, 198, 199, 200, 201, 202, 203, 204, 205, 206, 207, 208, 209, 210, 211] (by decide +kernel) (by decide +kernel)
set_option maxRecDepth 20000 in
theorem gX9_told_X9_searchTold : GoodIn wsX9_told (wsV RX9 228 RX9 yX9_searchTold wsX9_searchTold) := goodIn_app (goodIn_of _ (by decide +kernel)) ggX9_told_X9_searchTold
set_option maxRecDepth 20000 in
theorem ggX9_told_X3_answer : GoodIn wsX9_told wsX3_answer := goodIn_r _ [141, 45, 168, 169, 170, 171] (by decide +kernel) (by decide +kernel)
set_option maxRecDepth 20000 in
theorem gX9_told_X3_answer_n203 : GoodIn wsX9_told (wsX3_answer) := ggX9_told_X3_answer
theorem dX9_told_0 : decode cX9_told 0 = .ok (.iload_n 1, 1) := by decide +kernel
theorem dX9_told_1 : decode cX9_told 1 = .ok (.iconst 0, 1) := by decide +kernel
theorem dX9_told_2 : decode cX9_told 2 = .ok (.bipush 50, 2) := by decide +kernel
theorem dX9_told_4 : decode cX9_told 4 = .ok (.invokestatic 104, 3) := by decide +kernel
theorem dX9_told_7 : decode cX9_told 7 = .ok (.ifCond .eq 13, 3) := by decide +kernel
theorem dX9_told_10 : decode cX9_told 10 = .ok (.iload_n 2, 1) := by decide +kernel
theorem dX9_told_11 : decode cX9_told 11 = .ok (.iconst 0, 1) := by decide +kernel
theorem dX9_told_12 : decode cX9_told 12 = .ok (.bipush 9, 2) := by decide +kernel
theorem dX9_told_14 : decode cX9_told 14 = .ok (.invokestatic 104, 3) := by decide +kernel
theorem dX9_told_17 : decode cX9_told 17 = .ok (.ifCond .ne 5, 3) := by decide +kernel
theorem dX9_told_20 : decode cX9_told 20 = .ok (.iconst (-1), 1) := by decide +kernel
theorem dX9_told_21 : decode cX9_told 21 = .ok (.ireturn, 1) := by decide +kernel
theorem dX9_told_22 : decode cX9_told 22 = .ok (.aload_n 0, 1) := by decide +kernel
theorem dX9_told_23 : decode cX9_told 23 = .ok (.getfield 94, 3) := by decide +kernel
theorem dX9_told_26 : decode cX9_told 26 = .ok (.iload_n 1, 1) := by decide +kernel
theorem dX9_told_27 : decode cX9_told 27 = .ok (.iconst 0, 1) := by decide +kernel
theorem dX9_told_28 : decode cX9_told 28 = .ok (.invokevirtual 195, 3) := by decide +kernel
theorem dX9_told_31 : decode cX9_told 31 = .ok (.ifCond .ne 8, 3) := by decide +kernel
theorem dX9_told_34 : decode cX9_told 34 = .ok (.aload_n 0, 1) := by decide +kernel
theorem dX9_told_35 : decode cX9_told 35 = .ok (.iload_n 1, 1) := by decide +kernel
theorem dX9_told_36 : decode cX9_told 36 = .ok (.invokevirtual 228, 3) := by decide +kernel
theorem dX9_told_39 : decode cX9_told 39 = .ok (.iload_n 2, 1) := by decide +kernel
theorem dX9_told_40 : decode cX9_told 40 = .ok (.ifCond .le 19, 3) := by decide +kernel
theorem dX9_told_43 : decode cX9_told 43 = .ok (.aload_n 0, 1) := by decide +kernel
theorem dX9_told_44 : decode cX9_told 44 = .ok (.getfield 94, 3) := by decide +kernel
theorem dX9_told_47 : decode cX9_told 47 = .ok (.iconst 0, 1) := by decide +kernel
theorem dX9_told_48 : decode cX9_told 48 = .ok (.invokevirtual 203, 3) := by decide +kernel
theorem dX9_told_51 : decode cX9_told 51 = .ok (.ifCond .ne 8, 3) := by decide +kernel
theorem dX9_told_54 : decode cX9_told 54 = .ok (.bipush (-4), 2) := by decide +kernel
theorem dX9_told_56 : decode cX9_told 56 = .ok (.goto 11, 3) := by decide +kernel
theorem dX9_told_59 : decode cX9_told 59 = .ok (.aload_n 0, 1) := by decide +kernel
theorem dX9_told_60 : decode cX9_told 60 = .ok (.getfield 94, 3) := by decide +kernel
theorem dX9_told_63 : decode cX9_told 63 = .ok (.iload_n 2, 1) := by decide +kernel
theorem dX9_told_64 : decode cX9_told 64 = .ok (.invokevirtual 203, 3) := by decide +kernel
theorem dX9_told_67 : decode cX9_told 67 = .ok (.ireturn, 1) := by decide +kernel
set_option maxRecDepth 20000 in
theorem ggX9_forget_X3_drop : GoodIn wsX9_forget wsX3_drop := goodIn_r _ [8, 9, 35, 36, 37, 38] (by decide +kernel) (by decide +kernel)
set_option maxRecDepth 20000 in
theorem gX9_forget_X3_drop_n220 : GoodIn wsX9_forget (wsX3_drop) := ggX9_forget_X3_drop
theorem dX9_forget_0 : decode cX9_forget 0 = .ok (.aload_n 0, 1) := by decide +kernel
theorem dX9_forget_1 : decode cX9_forget 1 = .ok (.getfield 50, 3) := by decide +kernel
theorem dX9_forget_4 : decode cX9_forget 4 = .ok (.getfield 133, 3) := by decide +kernel
theorem dX9_forget_7 : decode cX9_forget 7 = .ok (.aload_n 0, 1) := by decide +kernel
theorem dX9_forget_8 : decode cX9_forget 8 = .ok (.getfield 57, 3) := by decide +kernel
theorem dX9_forget_11 : decode cX9_forget 11 = .ok (.getfield 136, 3) := by decide +kernel
theorem dX9_forget_14 : decode cX9_forget 14 = .ok (.iadd, 1) := by decide +kernel
theorem dX9_forget_15 : decode cX9_forget 15 = .ok (.istore_n 1, 1) := by decide +kernel
theorem dX9_forget_16 : decode cX9_forget 16 = .ok (.aload_n 0, 1) := by decide +kernel
theorem dX9_forget_17 : decode cX9_forget 17 = .ok (.getfield 50, 3) := by decide +kernel
theorem dX9_forget_20 : decode cX9_forget 20 = .ok (.iconst 0, 1) := by decide +kernel
theorem dX9_forget_21 : decode cX9_forget 21 = .ok (.putfield 133, 3) := by decide +kernel
theorem dX9_forget_24 : decode cX9_forget 24 = .ok (.aload_n 0, 1) := by decide +kernel
theorem dX9_forget_25 : decode cX9_forget 25 = .ok (.getfield 57, 3) := by decide +kernel
theorem dX9_forget_28 : decode cX9_forget 28 = .ok (.iconst 0, 1) := by decide +kernel
theorem dX9_forget_29 : decode cX9_forget 29 = .ok (.putfield 136, 3) := by decide +kernel
theorem dX9_forget_32 : decode cX9_forget 32 = .ok (.aload_n 0, 1) := by decide +kernel
theorem dX9_forget_33 : decode cX9_forget 33 = .ok (.getfield 91, 3) := by decide +kernel
theorem dX9_forget_36 : decode cX9_forget 36 = .ok (.invokevirtual 220, 3) := by decide +kernel
theorem dX9_forget_39 : decode cX9_forget 39 = .ok (.aload_n 0, 1) := by decide +kernel
theorem dX9_forget_40 : decode cX9_forget 40 = .ok (.getfield 94, 3) := by decide +kernel
theorem dX9_forget_43 : decode cX9_forget 43 = .ok (.invokevirtual 220, 3) := by decide +kernel
theorem dX9_forget_46 : decode cX9_forget 46 = .ok (.iload_n 1, 1) := by decide +kernel
theorem dX9_forget_47 : decode cX9_forget 47 = .ok (.ireturn, 1) := by decide +kernel
set_option maxRecDepth 20000 in
theorem ggX9_wind_X9_within : GoodIn wsX9_wind wsX9_within := goodIn_r _ [6] (by decide +kernel) (by decide +kernel)
set_option maxRecDepth 20000 in
theorem gX9_wind_X9_within : GoodIn wsX9_wind (va_wsS RX9 104 yX9_within wsX9_within) := goodIn_app (goodIn_of _ (by decide +kernel)) ggX9_wind_X9_within
theorem dX9_wind_0 : decode cX9_wind 0 = .ok (.iload_n 1, 1) := by decide +kernel
theorem dX9_wind_1 : decode cX9_wind 1 = .ok (.iconst 1, 1) := by decide +kernel
theorem dX9_wind_2 : decode cX9_wind 2 = .ok (.sipush 400, 3) := by decide +kernel
theorem dX9_wind_5 : decode cX9_wind 5 = .ok (.invokestatic 104, 3) := by decide +kernel
theorem dX9_wind_8 : decode cX9_wind 8 = .ok (.ifCond .ne 5, 3) := by decide +kernel
theorem dX9_wind_11 : decode cX9_wind 11 = .ok (.iconst (-1), 1) := by decide +kernel
theorem dX9_wind_12 : decode cX9_wind 12 = .ok (.ireturn, 1) := by decide +kernel
theorem dX9_wind_13 : decode cX9_wind 13 = .ok (.aload_n 0, 1) := by decide +kernel
theorem dX9_wind_14 : decode cX9_wind 14 = .ok (.getfield 64, 3) := by decide +kernel
theorem dX9_wind_17 : decode cX9_wind 17 = .ok (.getfield 231, 3) := by decide +kernel
theorem dX9_wind_20 : decode cX9_wind 20 = .ok (.bipush 100, 2) := by decide +kernel
theorem dX9_wind_22 : decode cX9_wind 22 = .ok (.iload_n 1, 1) := by decide +kernel
theorem dX9_wind_23 : decode cX9_wind 23 = .ok (.imul, 1) := by decide +kernel
theorem dX9_wind_24 : decode cX9_wind 24 = .ok (.iadd, 1) := by decide +kernel
theorem dX9_wind_25 : decode cX9_wind 25 = .ok (.ldc 148, 2) := by decide +kernel
theorem dX9_wind_27 : decode cX9_wind 27 = .ok (.if_icmp .le 6, 3) := by decide +kernel
theorem dX9_wind_30 : decode cX9_wind 30 = .ok (.bipush (-2), 2) := by decide +kernel
theorem dX9_wind_32 : decode cX9_wind 32 = .ok (.ireturn, 1) := by decide +kernel
theorem dX9_wind_33 : decode cX9_wind 33 = .ok (.aload_n 0, 1) := by decide +kernel
theorem dX9_wind_34 : decode cX9_wind 34 = .ok (.getfield 64, 3) := by decide +kernel
theorem dX9_wind_37 : decode cX9_wind 37 = .ok (.dup, 1) := by decide +kernel
theorem dX9_wind_38 : decode cX9_wind 38 = .ok (.getfield 231, 3) := by decide +kernel
theorem dX9_wind_41 : decode cX9_wind 41 = .ok (.bipush 100, 2) := by decide +kernel
theorem dX9_wind_43 : decode cX9_wind 43 = .ok (.iload_n 1, 1) := by decide +kernel
theorem dX9_wind_44 : decode cX9_wind 44 = .ok (.imul, 1) := by decide +kernel
theorem dX9_wind_45 : decode cX9_wind 45 = .ok (.iadd, 1) := by decide +kernel
theorem dX9_wind_46 : decode cX9_wind 46 = .ok (.putfield 231, 3) := by decide +kernel
theorem dX9_wind_49 : decode cX9_wind 49 = .ok (.aload_n 0, 1) := by decide +kernel
theorem dX9_wind_50 : decode cX9_wind 50 = .ok (.getfield 64, 3) := by decide +kernel
theorem dX9_wind_53 : decode cX9_wind 53 = .ok (.getfield 231, 3) := by decide +kernel
theorem dX9_wind_56 : decode cX9_wind 56 = .ok (.ireturn, 1) := by decide +kernel
set_option maxRecDepth 20000 in
theorem ggX9_go_X9_within : GoodIn wsX9_go wsX9_within := goodIn_r _ [7] (by decide +kernel) (by decide +kernel)
set_option maxRecDepth 20000 in
theorem gX9_go_X9_within : GoodIn wsX9_go (va_wsS RX9 104 yX9_within wsX9_within) := goodIn_app (goodIn_of _ (by decide +kernel)) ggX9_go_X9_within
set_option maxRecDepth 20000 in
theorem ggX9_go_X4_step : GoodIn wsX9_go wsX4_step := goodIn_r _ [11, 12, 13, 14, 15, 16, 17, 18, 19, 20, 21, 22, 23, 24, 25, 26, 27, 28, 29, 30, 31, 32, 33, 34, 35, 36, 6, 37, 38, 39, 40, 9, 41, 42, 43, 44, 45, 46, 47, 48, 49, 50, 51, 52, 53, 54, 55, 56, 75, 76, 77, 78, 79, 80, 81, 82, 83, 84, 85, 86, 87, 88, 89, 90, 91, 92, 93, 94, 95, 96, 97, 98, 99, 100, 101, 102, 103, 104, 105] (by decide +kernel) (by decide +kernel)
set_option maxRecDepth 20000 in
theorem gX9_go_X4_step_n234 : GoodIn wsX9_go (wsX4_step) := ggX9_go_X4_step
theorem dX9_go_0 : decode cX9_go 0 = .ok (.iload_n 1, 1) := by decide +kernel
theorem dX9_go_1 : decode cX9_go 1 = .ok (.iconst 1, 1) := by decide +kernel
theorem dX9_go_2 : decode cX9_go 2 = .ok (.bipush 99, 2) := by decide +kernel
theorem dX9_go_4 : decode cX9_go 4 = .ok (.invokestatic 104, 3) := by decide +kernel
theorem dX9_go_7 : decode cX9_go 7 = .ok (.ifCond .eq 14, 3) := by decide +kernel
theorem dX9_go_10 : decode cX9_go 10 = .ok (.iload_n 2, 1) := by decide +kernel
theorem dX9_go_11 : decode cX9_go 11 = .ok (.iconst (-1), 1) := by decide +kernel
theorem dX9_go_12 : decode cX9_go 12 = .ok (.sipush 9999, 3) := by decide +kernel
theorem dX9_go_15 : decode cX9_go 15 = .ok (.invokestatic 104, 3) := by decide +kernel
theorem dX9_go_18 : decode cX9_go 18 = .ok (.ifCond .ne 5, 3) := by decide +kernel
theorem dX9_go_21 : decode cX9_go 21 = .ok (.iconst (-1), 1) := by decide +kernel
theorem dX9_go_22 : decode cX9_go 22 = .ok (.ireturn, 1) := by decide +kernel
theorem dX9_go_23 : decode cX9_go 23 = .ok (.iconst 0, 1) := by decide +kernel
theorem dX9_go_24 : decode cX9_go 24 = .ok (.istore_n 3, 1) := by decide +kernel
theorem dX9_go_25 : decode cX9_go 25 = .ok (.iload_n 3, 1) := by decide +kernel
theorem dX9_go_26 : decode cX9_go 26 = .ok (.iload_n 1, 1) := by decide +kernel
theorem dX9_go_27 : decode cX9_go 27 = .ok (.if_icmp .ge 25, 3) := by decide +kernel
theorem dX9_go_30 : decode cX9_go 30 = .ok (.aload_n 0, 1) := by decide +kernel
theorem dX9_go_31 : decode cX9_go 31 = .ok (.getfield 64, 3) := by decide +kernel
theorem dX9_go_34 : decode cX9_go 34 = .ok (.aload_n 0, 1) := by decide +kernel
theorem dX9_go_35 : decode cX9_go 35 = .ok (.getfield 26, 3) := by decide +kernel
theorem dX9_go_38 : decode cX9_go 38 = .ok (.aload_n 0, 1) := by decide +kernel
theorem dX9_go_39 : decode cX9_go 39 = .ok (.getfield 36, 3) := by decide +kernel
theorem dX9_go_42 : decode cX9_go 42 = .ok (.iload_n 2, 1) := by decide +kernel
theorem dX9_go_43 : decode cX9_go 43 = .ok (.invokevirtual 234, 3) := by decide +kernel
theorem dX9_go_46 : decode cX9_go 46 = .ok (.iinc 3 1, 3) := by decide +kernel
theorem dX9_go_49 : decode cX9_go 49 = .ok (.goto (-24), 3) := by decide +kernel
theorem dX9_go_52 : decode cX9_go 52 = .ok (.aload_n 0, 1) := by decide +kernel
theorem dX9_go_53 : decode cX9_go 53 = .ok (.getfield 64, 3) := by decide +kernel
theorem dX9_go_56 : decode cX9_go 56 = .ok (.getfield 170, 3) := by decide +kernel
theorem dX9_go_59 : decode cX9_go 59 = .ok (.ireturn, 1) := by decide +kernel
theorem dX9_weed_0 : decode cX9_weed 0 = .ok (.aload_n 0, 1) := by decide +kernel
theorem dX9_weed_1 : decode cX9_weed 1 = .ok (.getfield 64, 3) := by decide +kernel
theorem dX9_weed_4 : decode cX9_weed 4 = .ok (.getfield 238, 3) := by decide +kernel
theorem dX9_weed_7 : decode cX9_weed 7 = .ok (.istore_n 1, 1) := by decide +kernel
theorem dX9_weed_8 : decode cX9_weed 8 = .ok (.aload_n 0, 1) := by decide +kernel
theorem dX9_weed_9 : decode cX9_weed 9 = .ok (.getfield 64, 3) := by decide +kernel
theorem dX9_weed_12 : decode cX9_weed 12 = .ok (.iconst 0, 1) := by decide +kernel
theorem dX9_weed_13 : decode cX9_weed 13 = .ok (.putfield 238, 3) := by decide +kernel
theorem dX9_weed_16 : decode cX9_weed 16 = .ok (.iload_n 1, 1) := by decide +kernel
theorem dX9_weed_17 : decode cX9_weed 17 = .ok (.ireturn, 1) := by decide +kernel
theorem dX9_now_0 : decode cX9_now 0 = .ok (.iload_n 1, 1) := by decide +kernel
theorem dX9_now_1 : decode cX9_now 1 = .ok (.tableswitch 94 0 5 #[39, 47, 55, 63, 75, 86], 39) := by decide +kernel
theorem dX9_now_40 : decode cX9_now 40 = .ok (.aload_n 0, 1) := by decide +kernel
theorem dX9_now_41 : decode cX9_now 41 = .ok (.getfield 64, 3) := by decide +kernel
theorem dX9_now_44 : decode cX9_now 44 = .ok (.getfield 231, 3) := by decide +kernel
theorem dX9_now_47 : decode cX9_now 47 = .ok (.ireturn, 1) := by decide +kernel
theorem dX9_now_48 : decode cX9_now 48 = .ok (.aload_n 0, 1) := by decide +kernel
theorem dX9_now_49 : decode cX9_now 49 = .ok (.getfield 64, 3) := by decide +kernel
theorem dX9_now_52 : decode cX9_now 52 = .ok (.getfield 238, 3) := by decide +kernel
theorem dX9_now_55 : decode cX9_now 55 = .ok (.ireturn, 1) := by decide +kernel
theorem dX9_now_56 : decode cX9_now 56 = .ok (.aload_n 0, 1) := by decide +kernel
theorem dX9_now_57 : decode cX9_now 57 = .ok (.getfield 64, 3) := by decide +kernel
theorem dX9_now_60 : decode cX9_now 60 = .ok (.getfield 170, 3) := by decide +kernel
theorem dX9_now_63 : decode cX9_now 63 = .ok (.ireturn, 1) := by decide +kernel
theorem dX9_now_64 : decode cX9_now 64 = .ok (.aload_n 0, 1) := by decide +kernel
theorem dX9_now_65 : decode cX9_now 65 = .ok (.getfield 64, 3) := by decide +kernel
theorem dX9_now_68 : decode cX9_now 68 = .ok (.getfield 241, 3) := by decide +kernel
theorem dX9_now_71 : decode cX9_now 71 = .ok (.sipush 10000, 3) := by decide +kernel
theorem dX9_now_74 : decode cX9_now 74 = .ok (.iadd, 1) := by decide +kernel
theorem dX9_now_75 : decode cX9_now 75 = .ok (.ireturn, 1) := by decide +kernel
theorem dX9_now_76 : decode cX9_now 76 = .ok (.aload_n 0, 1) := by decide +kernel
theorem dX9_now_77 : decode cX9_now 77 = .ok (.getfield 64, 3) := by decide +kernel
theorem dX9_now_80 : decode cX9_now 80 = .ok (.getfield 176, 3) := by decide +kernel
theorem dX9_now_83 : decode cX9_now 83 = .ok (.ldc 179, 2) := by decide +kernel
theorem dX9_now_85 : decode cX9_now 85 = .ok (.iadd, 1) := by decide +kernel
theorem dX9_now_86 : decode cX9_now 86 = .ok (.ireturn, 1) := by decide +kernel
theorem dX9_now_87 : decode cX9_now 87 = .ok (.aload_n 0, 1) := by decide +kernel
theorem dX9_now_88 : decode cX9_now 88 = .ok (.getfield 64, 3) := by decide +kernel
theorem dX9_now_91 : decode cX9_now 91 = .ok (.getfield 244, 3) := by decide +kernel
theorem dX9_now_94 : decode cX9_now 94 = .ok (.ireturn, 1) := by decide +kernel
theorem dX9_now_95 : decode cX9_now 95 = .ok (.iconst (-1), 1) := by decide +kernel
theorem dX9_now_96 : decode cX9_now 96 = .ok (.ireturn, 1) := by decide +kernel
set_option maxRecDepth 20000 in
theorem ggX9_keep_X9_keptAt : GoodIn wsX9_keep wsX9_keptAt := goodIn_r _ [7, 8, 20, 21, 22, 23, 24, 25, 26, 27, 28, 29, 30, 31, 32, 33, 34, 35, 36, 37] (by decide +kernel) (by decide +kernel)
set_option maxRecDepth 20000 in
theorem gX9_keep_X9_keptAt : GoodIn wsX9_keep (wsV RX9 247 RX9 yX9_keptAt wsX9_keptAt) := goodIn_app (goodIn_of _ (by decide +kernel)) ggX9_keep_X9_keptAt
set_option maxRecDepth 20000 in
theorem ggX9_keep_X4_copy : GoodIn wsX9_keep wsX4_copy := goodIn_r _ [12, 13, 14, 15, 16, 17, 18, 19, 38, 39, 40, 41, 42, 43, 44] (by decide +kernel) (by decide +kernel)
set_option maxRecDepth 20000 in
theorem gX9_keep_X4_copy_n251 : GoodIn wsX9_keep (wsX4_copy) := ggX9_keep_X4_copy
theorem dX9_keep_0 : decode cX9_keep 0 = .ok (.aload_n 0, 1) := by decide +kernel
theorem dX9_keep_1 : decode cX9_keep 1 = .ok (.aload_n 0, 1) := by decide +kernel
theorem dX9_keep_2 : decode cX9_keep 2 = .ok (.getfield 139, 3) := by decide +kernel
theorem dX9_keep_5 : decode cX9_keep 5 = .ok (.invokevirtual 247, 3) := by decide +kernel
theorem dX9_keep_8 : decode cX9_keep 8 = .ok (.astore_n 1, 1) := by decide +kernel
theorem dX9_keep_9 : decode cX9_keep 9 = .ok (.aload_n 1, 1) := by decide +kernel
theorem dX9_keep_10 : decode cX9_keep 10 = .ok (.ifnonnull 6, 3) := by decide +kernel
theorem dX9_keep_13 : decode cX9_keep 13 = .ok (.bipush (-3), 2) := by decide +kernel
theorem dX9_keep_15 : decode cX9_keep 15 = .ok (.ireturn, 1) := by decide +kernel
theorem dX9_keep_16 : decode cX9_keep 16 = .ok (.aload_n 1, 1) := by decide +kernel
theorem dX9_keep_17 : decode cX9_keep 17 = .ok (.aload_n 0, 1) := by decide +kernel
theorem dX9_keep_18 : decode cX9_keep 18 = .ok (.getfield 64, 3) := by decide +kernel
theorem dX9_keep_21 : decode cX9_keep 21 = .ok (.invokevirtual 251, 3) := by decide +kernel
theorem dX9_keep_24 : decode cX9_keep 24 = .ok (.aload_n 0, 1) := by decide +kernel
theorem dX9_keep_25 : decode cX9_keep 25 = .ok (.dup, 1) := by decide +kernel
theorem dX9_keep_26 : decode cX9_keep 26 = .ok (.getfield 139, 3) := by decide +kernel
theorem dX9_keep_29 : decode cX9_keep 29 = .ok (.iconst 1, 1) := by decide +kernel
theorem dX9_keep_30 : decode cX9_keep 30 = .ok (.iadd, 1) := by decide +kernel
theorem dX9_keep_31 : decode cX9_keep 31 = .ok (.putfield 139, 3) := by decide +kernel
theorem dX9_keep_34 : decode cX9_keep 34 = .ok (.aload_n 0, 1) := by decide +kernel
theorem dX9_keep_35 : decode cX9_keep 35 = .ok (.getfield 139, 3) := by decide +kernel
theorem dX9_keep_38 : decode cX9_keep 38 = .ok (.ireturn, 1) := by decide +kernel
set_option maxRecDepth 20000 in
theorem ggX9_back_X9_keptAt : GoodIn wsX9_back wsX9_keptAt := goodIn_r _ [7, 8, 20, 21, 22, 23, 24, 25, 26, 27, 28, 29, 30, 31, 32, 33, 34, 35, 36, 37] (by decide +kernel) (by decide +kernel)
set_option maxRecDepth 20000 in
theorem gX9_back_X9_keptAt : GoodIn wsX9_back (wsV RX9 247 RX9 yX9_keptAt wsX9_keptAt) := goodIn_app (goodIn_of _ (by decide +kernel)) ggX9_back_X9_keptAt
set_option maxRecDepth 20000 in
theorem ggX9_back_X4_copy : GoodIn wsX9_back wsX4_copy := goodIn_r _ [12, 13, 14, 15, 16, 17, 18, 19, 38, 39, 40, 41, 42, 43, 44] (by decide +kernel) (by decide +kernel)
set_option maxRecDepth 20000 in
theorem gX9_back_X4_copy_n251 : GoodIn wsX9_back (wsX4_copy) := ggX9_back_X4_copy
theorem dX9_back_0 : decode cX9_back 0 = .ok (.aload_n 0, 1) := by decide +kernel
theorem dX9_back_1 : decode cX9_back 1 = .ok (.aload_n 0, 1) := by decide +kernel
theorem dX9_back_2 : decode cX9_back 2 = .ok (.getfield 139, 3) := by decide +kernel
theorem dX9_back_5 : decode cX9_back 5 = .ok (.iconst 1, 1) := by decide +kernel
theorem dX9_back_6 : decode cX9_back 6 = .ok (.isub, 1) := by decide +kernel
theorem dX9_back_7 : decode cX9_back 7 = .ok (.invokevirtual 247, 3) := by decide +kernel
theorem dX9_back_10 : decode cX9_back 10 = .ok (.astore_n 1, 1) := by decide +kernel
theorem dX9_back_11 : decode cX9_back 11 = .ok (.aload_n 1, 1) := by decide +kernel
theorem dX9_back_12 : decode cX9_back 12 = .ok (.ifnonnull 6, 3) := by decide +kernel
theorem dX9_back_15 : decode cX9_back 15 = .ok (.bipush (-2), 2) := by decide +kernel
theorem dX9_back_17 : decode cX9_back 17 = .ok (.ireturn, 1) := by decide +kernel
theorem dX9_back_18 : decode cX9_back 18 = .ok (.aload_n 0, 1) := by decide +kernel
theorem dX9_back_19 : decode cX9_back 19 = .ok (.getfield 64, 3) := by decide +kernel
theorem dX9_back_22 : decode cX9_back 22 = .ok (.aload_n 1, 1) := by decide +kernel
theorem dX9_back_23 : decode cX9_back 23 = .ok (.invokevirtual 251, 3) := by decide +kernel
theorem dX9_back_26 : decode cX9_back 26 = .ok (.aload_n 0, 1) := by decide +kernel
theorem dX9_back_27 : decode cX9_back 27 = .ok (.dup, 1) := by decide +kernel
theorem dX9_back_28 : decode cX9_back 28 = .ok (.getfield 139, 3) := by decide +kernel
theorem dX9_back_31 : decode cX9_back 31 = .ok (.iconst 1, 1) := by decide +kernel
theorem dX9_back_32 : decode cX9_back 32 = .ok (.isub, 1) := by decide +kernel
theorem dX9_back_33 : decode cX9_back 33 = .ok (.putfield 139, 3) := by decide +kernel
theorem dX9_back_36 : decode cX9_back 36 = .ok (.aload_n 0, 1) := by decide +kernel
theorem dX9_back_37 : decode cX9_back 37 = .ok (.getfield 139, 3) := by decide +kernel
theorem dX9_back_40 : decode cX9_back 40 = .ok (.ireturn, 1) := by decide +kernel
theorem dX9_count_0 : decode cX9_count 0 = .ok (.iload_n 1, 1) := by decide +kernel
theorem dX9_count_1 : decode cX9_count 1 = .ok (.tableswitch 72 0 4 #[35, 43, 51, 59, 67], 35) := by decide +kernel
theorem dX9_count_36 : decode cX9_count 36 = .ok (.aload_n 0, 1) := by decide +kernel
theorem dX9_count_37 : decode cX9_count 37 = .ok (.getfield 26, 3) := by decide +kernel
theorem dX9_count_40 : decode cX9_count 40 = .ok (.getfield 145, 3) := by decide +kernel
theorem dX9_count_43 : decode cX9_count 43 = .ok (.ireturn, 1) := by decide +kernel
theorem dX9_count_44 : decode cX9_count 44 = .ok (.aload_n 0, 1) := by decide +kernel
theorem dX9_count_45 : decode cX9_count 45 = .ok (.getfield 10, 3) := by decide +kernel
theorem dX9_count_48 : decode cX9_count 48 = .ok (.getfield 112, 3) := by decide +kernel
theorem dX9_count_51 : decode cX9_count 51 = .ok (.ireturn, 1) := by decide +kernel
theorem dX9_count_52 : decode cX9_count 52 = .ok (.aload_n 0, 1) := by decide +kernel
theorem dX9_count_53 : decode cX9_count 53 = .ok (.getfield 50, 3) := by decide +kernel
theorem dX9_count_56 : decode cX9_count 56 = .ok (.getfield 133, 3) := by decide +kernel
theorem dX9_count_59 : decode cX9_count 59 = .ok (.ireturn, 1) := by decide +kernel
theorem dX9_count_60 : decode cX9_count 60 = .ok (.aload_n 0, 1) := by decide +kernel
theorem dX9_count_61 : decode cX9_count 61 = .ok (.getfield 57, 3) := by decide +kernel
theorem dX9_count_64 : decode cX9_count 64 = .ok (.getfield 136, 3) := by decide +kernel
theorem dX9_count_67 : decode cX9_count 67 = .ok (.ireturn, 1) := by decide +kernel
theorem dX9_count_68 : decode cX9_count 68 = .ok (.aload_n 0, 1) := by decide +kernel
theorem dX9_count_69 : decode cX9_count 69 = .ok (.getfield 139, 3) := by decide +kernel
theorem dX9_count_72 : decode cX9_count 72 = .ok (.ireturn, 1) := by decide +kernel
theorem dX9_count_73 : decode cX9_count 73 = .ok (.iconst (-1), 1) := by decide +kernel
theorem dX9_count_74 : decode cX9_count 74 = .ok (.ireturn, 1) := by decide +kernel
theorem dX9_within_0 : decode cX9_within 0 = .ok (.iload_n 0, 1) := by decide +kernel
theorem dX9_within_1 : decode cX9_within 1 = .ok (.iload_n 1, 1) := by decide +kernel
theorem dX9_within_2 : decode cX9_within 2 = .ok (.if_icmp .lt 12, 3) := by decide +kernel
theorem dX9_within_5 : decode cX9_within 5 = .ok (.iload_n 0, 1) := by decide +kernel
theorem dX9_within_6 : decode cX9_within 6 = .ok (.iload_n 2, 1) := by decide +kernel
theorem dX9_within_7 : decode cX9_within 7 = .ok (.if_icmp .gt 7, 3) := by decide +kernel
theorem dX9_within_10 : decode cX9_within 10 = .ok (.iconst 1, 1) := by decide +kernel
theorem dX9_within_11 : decode cX9_within 11 = .ok (.goto 4, 3) := by decide +kernel
theorem dX9_within_14 : decode cX9_within 14 = .ok (.iconst 0, 1) := by decide +kernel
theorem dX9_within_15 : decode cX9_within 15 = .ok (.ireturn, 1) := by decide +kernel
set_option maxRecDepth 20000 in
theorem ggX9_isTurns_X9_within : GoodIn wsX9_isTurns wsX9_within := goodIn_r _ [4] (by decide +kernel) (by decide +kernel)
set_option maxRecDepth 20000 in
theorem gX9_isTurns_X9_within : GoodIn wsX9_isTurns (va_wsS RX9 104 yX9_within wsX9_within) := goodIn_app (goodIn_of _ (by decide +kernel)) ggX9_isTurns_X9_within
theorem dX9_isTurns_0 : decode cX9_isTurns 0 = .ok (.iload_n 0, 1) := by decide +kernel
theorem dX9_isTurns_1 : decode cX9_isTurns 1 = .ok (.iconst 0, 1) := by decide +kernel
theorem dX9_isTurns_2 : decode cX9_isTurns 2 = .ok (.sipush 400, 3) := by decide +kernel
theorem dX9_isTurns_5 : decode cX9_isTurns 5 = .ok (.invokestatic 104, 3) := by decide +kernel
theorem dX9_isTurns_8 : decode cX9_isTurns 8 = .ok (.ireturn, 1) := by decide +kernel
theorem dX9_limit_0 : decode cX9_limit 0 = .ok (.iload_n 0, 1) := by decide +kernel
theorem dX9_limit_1 : decode cX9_limit 1 = .ok (.iload_n 1, 1) := by decide +kernel
theorem dX9_limit_2 : decode cX9_limit 2 = .ok (.if_icmp .ge 7, 3) := by decide +kernel
theorem dX9_limit_5 : decode cX9_limit 5 = .ok (.iload_n 1, 1) := by decide +kernel
theorem dX9_limit_6 : decode cX9_limit 6 = .ok (.goto 13, 3) := by decide +kernel
theorem dX9_limit_9 : decode cX9_limit 9 = .ok (.iload_n 0, 1) := by decide +kernel
theorem dX9_limit_10 : decode cX9_limit 10 = .ok (.iload_n 2, 1) := by decide +kernel
theorem dX9_limit_11 : decode cX9_limit 11 = .ok (.if_icmp .le 7, 3) := by decide +kernel
theorem dX9_limit_14 : decode cX9_limit 14 = .ok (.iload_n 2, 1) := by decide +kernel
theorem dX9_limit_15 : decode cX9_limit 15 = .ok (.goto 4, 3) := by decide +kernel
theorem dX9_limit_18 : decode cX9_limit 18 = .ok (.iload_n 0, 1) := by decide +kernel
theorem dX9_limit_19 : decode cX9_limit 19 = .ok (.ireturn, 1) := by decide +kernel
theorem dX9_cut_0 : decode cX9_cut 0 = .ok (.iload_n 1, 1) := by decide +kernel
theorem dX9_cut_1 : decode cX9_cut 1 = .ok (.ifCond .ne 7, 3) := by decide +kernel
theorem dX9_cut_4 : decode cX9_cut 4 = .ok (.iconst 0, 1) := by decide +kernel
theorem dX9_cut_5 : decode cX9_cut 5 = .ok (.goto 6, 3) := by decide +kernel
theorem dX9_cut_8 : decode cX9_cut 8 = .ok (.iload_n 0, 1) := by decide +kernel
theorem dX9_cut_9 : decode cX9_cut 9 = .ok (.iload_n 1, 1) := by decide +kernel
theorem dX9_cut_10 : decode cX9_cut 10 = .ok (.idiv, 1) := by decide +kernel
theorem dX9_cut_11 : decode cX9_cut 11 = .ok (.ireturn, 1) := by decide +kernel
theorem dX9_keptAt_0 : decode cX9_keptAt 0 = .ok (.iload_n 1, 1) := by decide +kernel
theorem dX9_keptAt_1 : decode cX9_keptAt 1 = .ok (.ifCond .lt 21, 3) := by decide +kernel
theorem dX9_keptAt_4 : decode cX9_keptAt 4 = .ok (.iload_n 1, 1) := by decide +kernel
theorem dX9_keptAt_5 : decode cX9_keptAt 5 = .ok (.aload_n 0, 1) := by decide +kernel
theorem dX9_keptAt_6 : decode cX9_keptAt 6 = .ok (.getfield 68, 3) := by decide +kernel
theorem dX9_keptAt_9 : decode cX9_keptAt 9 = .ok (.arraylength, 1) := by decide +kernel
theorem dX9_keptAt_10 : decode cX9_keptAt 10 = .ok (.if_icmp .ge 12, 3) := by decide +kernel
theorem dX9_keptAt_13 : decode cX9_keptAt 13 = .ok (.aload_n 0, 1) := by decide +kernel
theorem dX9_keptAt_14 : decode cX9_keptAt 14 = .ok (.getfield 68, 3) := by decide +kernel
theorem dX9_keptAt_17 : decode cX9_keptAt 17 = .ok (.iload_n 1, 1) := by decide +kernel
theorem dX9_keptAt_18 : decode cX9_keptAt 18 = .ok (.aaload, 1) := by decide +kernel
theorem dX9_keptAt_19 : decode cX9_keptAt 19 = .ok (.goto 4, 3) := by decide +kernel
theorem dX9_keptAt_22 : decode cX9_keptAt 22 = .ok (.aconst_null, 1) := by decide +kernel
theorem dX9_keptAt_23 : decode cX9_keptAt 23 = .ok (.areturn, 1) := by decide +kernel
set_option maxRecDepth 20000 in
theorem ggX9_dropMemos_X3_drop : GoodIn wsX9_dropMemos wsX3_drop := goodIn_r _ [10, 11, 30, 31, 32, 33] (by decide +kernel) (by decide +kernel)
set_option maxRecDepth 20000 in
theorem gX9_dropMemos_X3_drop_n220 : GoodIn wsX9_dropMemos (wsX3_drop) := ggX9_dropMemos_X3_drop
theorem dX9_dropMemos_0 : decode cX9_dropMemos 0 = .ok (.aload_n 0, 1) := by decide +kernel
theorem dX9_dropMemos_1 : decode cX9_dropMemos 1 = .ok (.iconst 0, 1) := by decide +kernel
theorem dX9_dropMemos_2 : decode cX9_dropMemos 2 = .ok (.putfield 254, 3) := by decide +kernel
theorem dX9_dropMemos_5 : decode cX9_dropMemos 5 = .ok (.aload_n 0, 1) := by decide +kernel
theorem dX9_dropMemos_6 : decode cX9_dropMemos 6 = .ok (.getfield 81, 3) := by decide +kernel
theorem dX9_dropMemos_9 : decode cX9_dropMemos 9 = .ok (.invokevirtual 220, 3) := by decide +kernel
theorem dX9_dropMemos_12 : decode cX9_dropMemos 12 = .ok (.aload_n 0, 1) := by decide +kernel
theorem dX9_dropMemos_13 : decode cX9_dropMemos 13 = .ok (.getfield 85, 3) := by decide +kernel
theorem dX9_dropMemos_16 : decode cX9_dropMemos 16 = .ok (.invokevirtual 220, 3) := by decide +kernel
theorem dX9_dropMemos_19 : decode cX9_dropMemos 19 = .ok (.aload_n 0, 1) := by decide +kernel
theorem dX9_dropMemos_20 : decode cX9_dropMemos 20 = .ok (.getfield 88, 3) := by decide +kernel
theorem dX9_dropMemos_23 : decode cX9_dropMemos 23 = .ok (.invokevirtual 220, 3) := by decide +kernel
theorem dX9_dropMemos_26 : decode cX9_dropMemos 26 = .ok (.aload_n 0, 1) := by decide +kernel
theorem dX9_dropMemos_27 : decode cX9_dropMemos 27 = .ok (.getfield 91, 3) := by decide +kernel
theorem dX9_dropMemos_30 : decode cX9_dropMemos 30 = .ok (.invokevirtual 220, 3) := by decide +kernel
theorem dX9_dropMemos_33 : decode cX9_dropMemos 33 = .ok (.aload_n 0, 1) := by decide +kernel
theorem dX9_dropMemos_34 : decode cX9_dropMemos 34 = .ok (.getfield 94, 3) := by decide +kernel
theorem dX9_dropMemos_37 : decode cX9_dropMemos 37 = .ok (.invokevirtual 220, 3) := by decide +kernel
theorem dX9_dropMemos_40 : decode cX9_dropMemos 40 = .ok (.return_, 1) := by decide +kernel
set_option maxRecDepth 20000 in
theorem ggX9_learnCalmPlaces_X8_make : GoodIn wsX9_learnCalmPlaces wsX8_make := goodIn_r _ [8, 9, 10, 11, 12, 13, 14, 15, 16, 17, 18, 19, 20, 21, 22, 23, 24, 25, 26, 27, 28, 29, 30, 31, 32, 33, 34, 35, 36, 37, 38, 39, 40, 41, 42, 43, 44, 45, 46, 47, 48, 49, 50, 51, 52, 53, 54, 55, 56, 57, 58, 59, 60, 61, 62, 63, 64, 65, 66, 67, 68, 69, 70, 71, 72, 73, 74, 75, 76, 6, 77, 78, 79, 98, 99, 100, 101, 102, 103, 104, 105, 106, 107, 108, 109, 110, 111, 112, 113, 114, 115, 116, 117, 118, 119, 120, 121, 122, 123, 124, 125, 126, 127, 128, 129, 130, 131, 132, 133, 134] (by decide +kernel) (by decide +kernel)
set_option maxRecDepth 20000 in
theorem gX9_learnCalmPlaces_X8_make_n160 : GoodIn wsX9_learnCalmPlaces (wsX8_make) := ggX9_learnCalmPlaces_X8_make
theorem dX9_learnCalmPlaces_0 : decode cX9_learnCalmPlaces 0 = .ok (.aload_n 0, 1) := by decide +kernel
theorem dX9_learnCalmPlaces_1 : decode cX9_learnCalmPlaces 1 = .ok (.getfield 254, 3) := by decide +kernel
theorem dX9_learnCalmPlaces_4 : decode cX9_learnCalmPlaces 4 = .ok (.ifCond .eq 4, 3) := by decide +kernel
theorem dX9_learnCalmPlaces_7 : decode cX9_learnCalmPlaces 7 = .ok (.return_, 1) := by decide +kernel
theorem dX9_learnCalmPlaces_8 : decode cX9_learnCalmPlaces 8 = .ok (.iconst 0, 1) := by decide +kernel
theorem dX9_learnCalmPlaces_9 : decode cX9_learnCalmPlaces 9 = .ok (.istore_n 1, 1) := by decide +kernel
theorem dX9_learnCalmPlaces_10 : decode cX9_learnCalmPlaces 10 = .ok (.iload_n 1, 1) := by decide +kernel
theorem dX9_learnCalmPlaces_11 : decode cX9_learnCalmPlaces 11 = .ok (.aload_n 0, 1) := by decide +kernel
theorem dX9_learnCalmPlaces_12 : decode cX9_learnCalmPlaces 12 = .ok (.getfield 72, 3) := by decide +kernel
theorem dX9_learnCalmPlaces_15 : decode cX9_learnCalmPlaces 15 = .ok (.arraylength, 1) := by decide +kernel
theorem dX9_learnCalmPlaces_16 : decode cX9_learnCalmPlaces 16 = .ok (.if_icmp .ge 42, 3) := by decide +kernel
theorem dX9_learnCalmPlaces_19 : decode cX9_learnCalmPlaces 19 = .ok (.aload_n 0, 1) := by decide +kernel
theorem dX9_learnCalmPlaces_20 : decode cX9_learnCalmPlaces 20 = .ok (.getfield 43, 3) := by decide +kernel
theorem dX9_learnCalmPlaces_23 : decode cX9_learnCalmPlaces 23 = .ok (.aload_n 0, 1) := by decide +kernel
theorem dX9_learnCalmPlaces_24 : decode cX9_learnCalmPlaces 24 = .ok (.getfield 26, 3) := by decide +kernel
theorem dX9_learnCalmPlaces_27 : decode cX9_learnCalmPlaces 27 = .ok (.iload_n 1, 1) := by decide +kernel
theorem dX9_learnCalmPlaces_28 : decode cX9_learnCalmPlaces 28 = .ok (.iconst (-1), 1) := by decide +kernel
theorem dX9_learnCalmPlaces_29 : decode cX9_learnCalmPlaces 29 = .ok (.sipush 600, 3) := by decide +kernel
theorem dX9_learnCalmPlaces_32 : decode cX9_learnCalmPlaces 32 = .ok (.iconst 0, 1) := by decide +kernel
theorem dX9_learnCalmPlaces_33 : decode cX9_learnCalmPlaces 33 = .ok (.invokevirtual 160, 3) := by decide +kernel
theorem dX9_learnCalmPlaces_36 : decode cX9_learnCalmPlaces 36 = .ok (.aload_n 0, 1) := by decide +kernel
theorem dX9_learnCalmPlaces_37 : decode cX9_learnCalmPlaces 37 = .ok (.getfield 72, 3) := by decide +kernel
theorem dX9_learnCalmPlaces_40 : decode cX9_learnCalmPlaces 40 = .ok (.iload_n 1, 1) := by decide +kernel
theorem dX9_learnCalmPlaces_41 : decode cX9_learnCalmPlaces 41 = .ok (.aload_n 0, 1) := by decide +kernel
theorem dX9_learnCalmPlaces_42 : decode cX9_learnCalmPlaces 42 = .ok (.getfield 43, 3) := by decide +kernel
theorem dX9_learnCalmPlaces_45 : decode cX9_learnCalmPlaces 45 = .ok (.getfield 167, 3) := by decide +kernel
theorem dX9_learnCalmPlaces_48 : decode cX9_learnCalmPlaces 48 = .ok (.getfield 170, 3) := by decide +kernel
theorem dX9_learnCalmPlaces_51 : decode cX9_learnCalmPlaces 51 = .ok (.iastore, 1) := by decide +kernel
theorem dX9_learnCalmPlaces_52 : decode cX9_learnCalmPlaces 52 = .ok (.iinc 1 1, 3) := by decide +kernel
theorem dX9_learnCalmPlaces_55 : decode cX9_learnCalmPlaces 55 = .ok (.goto (-45), 3) := by decide +kernel
theorem dX9_learnCalmPlaces_58 : decode cX9_learnCalmPlaces 58 = .ok (.aload_n 0, 1) := by decide +kernel
theorem dX9_learnCalmPlaces_59 : decode cX9_learnCalmPlaces 59 = .ok (.iconst 1, 1) := by decide +kernel
theorem dX9_learnCalmPlaces_60 : decode cX9_learnCalmPlaces 60 = .ok (.putfield 254, 3) := by decide +kernel
theorem dX9_learnCalmPlaces_63 : decode cX9_learnCalmPlaces 63 = .ok (.return_, 1) := by decide +kernel
set_option maxRecDepth 20000 in
theorem ggX9_snapOf_X9_cut : GoodIn wsX9_snapOf wsX9_cut := goodIn_r _ [9] (by decide +kernel) (by decide +kernel)
set_option maxRecDepth 20000 in
theorem gX9_snapOf_X9_cut : GoodIn wsX9_snapOf (va_wsS RX9 264 yX9_cut wsX9_cut) := goodIn_app (goodIn_of _ (by decide +kernel)) ggX9_snapOf_X9_cut
theorem dX9_snapOf_0 : decode cX9_snapOf 0 = .ok (.bipush 10, 2) := by decide +kernel
theorem dX9_snapOf_2 : decode cX9_snapOf 2 = .ok (.aload_n 0, 1) := by decide +kernel
theorem dX9_snapOf_3 : decode cX9_snapOf 3 = .ok (.getfield 26, 3) := by decide +kernel
theorem dX9_snapOf_6 : decode cX9_snapOf 6 = .ok (.getfield 257, 3) := by decide +kernel
theorem dX9_snapOf_9 : decode cX9_snapOf 9 = .ok (.imul, 1) := by decide +kernel
theorem dX9_snapOf_10 : decode cX9_snapOf 10 = .ok (.aload_n 0, 1) := by decide +kernel
theorem dX9_snapOf_11 : decode cX9_snapOf 11 = .ok (.getfield 26, 3) := by decide +kernel
theorem dX9_snapOf_14 : decode cX9_snapOf 14 = .ok (.getfield 260, 3) := by decide +kernel
theorem dX9_snapOf_17 : decode cX9_snapOf 17 = .ok (.imul, 1) := by decide +kernel
theorem dX9_snapOf_18 : decode cX9_snapOf 18 = .ok (.aload_n 0, 1) := by decide +kernel
theorem dX9_snapOf_19 : decode cX9_snapOf 19 = .ok (.getfield 26, 3) := by decide +kernel
theorem dX9_snapOf_22 : decode cX9_snapOf 22 = .ok (.getfield 261, 3) := by decide +kernel
theorem dX9_snapOf_25 : decode cX9_snapOf 25 = .ok (.invokestatic 264, 3) := by decide +kernel
theorem dX9_snapOf_28 : decode cX9_snapOf 28 = .ok (.istore_n 2, 1) := by decide +kernel
theorem dX9_snapOf_29 : decode cX9_snapOf 29 = .ok (.bipush 100, 2) := by decide +kernel
theorem dX9_snapOf_31 : decode cX9_snapOf 31 = .ok (.iload_n 1, 1) := by decide +kernel
theorem dX9_snapOf_32 : decode cX9_snapOf 32 = .ok (.imul, 1) := by decide +kernel
theorem dX9_snapOf_33 : decode cX9_snapOf 33 = .ok (.istore_n 3, 1) := by decide +kernel
theorem dX9_snapOf_34 : decode cX9_snapOf 34 = .ok (.iload_n 3, 1) := by decide +kernel
theorem dX9_snapOf_35 : decode cX9_snapOf 35 = .ok (.iload_n 2, 1) := by decide +kernel
theorem dX9_snapOf_36 : decode cX9_snapOf 36 = .ok (.if_icmp .gt 5, 3) := by decide +kernel
theorem dX9_snapOf_39 : decode cX9_snapOf 39 = .ok (.iconst 0, 1) := by decide +kernel
theorem dX9_snapOf_40 : decode cX9_snapOf 40 = .ok (.ireturn, 1) := by decide +kernel
theorem dX9_snapOf_41 : decode cX9_snapOf 41 = .ok (.iload_n 3, 1) := by decide +kernel
theorem dX9_snapOf_42 : decode cX9_snapOf 42 = .ok (.iload_n 2, 1) := by decide +kernel
theorem dX9_snapOf_43 : decode cX9_snapOf 43 = .ok (.isub, 1) := by decide +kernel
theorem dX9_snapOf_44 : decode cX9_snapOf 44 = .ok (.bipush 10, 2) := by decide +kernel
theorem dX9_snapOf_46 : decode cX9_snapOf 46 = .ok (.idiv, 1) := by decide +kernel
theorem dX9_snapOf_47 : decode cX9_snapOf 47 = .ok (.iconst 5, 1) := by decide +kernel
theorem dX9_snapOf_48 : decode cX9_snapOf 48 = .ok (.aload_n 0, 1) := by decide +kernel
theorem dX9_snapOf_49 : decode cX9_snapOf 49 = .ok (.getfield 26, 3) := by decide +kernel
theorem dX9_snapOf_52 : decode cX9_snapOf 52 = .ok (.getfield 268, 3) := by decide +kernel
theorem dX9_snapOf_55 : decode cX9_snapOf 55 = .ok (.imul, 1) := by decide +kernel
theorem dX9_snapOf_56 : decode cX9_snapOf 56 = .ok (.iadd, 1) := by decide +kernel
theorem dX9_snapOf_57 : decode cX9_snapOf 57 = .ok (.sipush 1000, 3) := by decide +kernel
theorem dX9_snapOf_60 : decode cX9_snapOf 60 = .ok (.invokestatic 271, 3) := by decide +kernel
theorem dX9_snapOf_63 : decode cX9_snapOf 63 = .ok (.ireturn, 1) := by decide +kernel
set_option maxRecDepth 20000 in
theorem ggX9_searchBest_X6_copy : GoodIn wsX9_searchBest wsX6_copy := goodIn_r _ [7, 8, 9, 10, 11, 12, 13, 14, 15, 16, 17, 18, 19, 20, 21, 22, 23, 24, 137, 138, 139, 140, 141, 142, 143, 144, 145, 146, 147, 148, 149, 150, 151, 152, 153] (by decide +kernel) (by decide +kernel)
set_option maxRecDepth 20000 in
theorem gX9_searchBest_X6_copy_n127 : GoodIn wsX9_searchBest (wsX6_copy) := ggX9_searchBest_X6_copy
set_option maxRecDepth 20000 in
theorem ggX9_searchBest_X3_learn : GoodIn wsX9_searchBest wsX3_learn := goodIn_r _ [28, 29, 30, 31, 32, 154, 155, 156, 157] (by decide +kernel) (by decide +kernel)
set_option maxRecDepth 20000 in
theorem gX9_searchBest_X3_learn_n274 : GoodIn wsX9_searchBest (wsX3_learn) := ggX9_searchBest_X3_learn
set_option maxRecDepth 20000 in
theorem ggX9_searchBest_X3_put : GoodIn wsX9_searchBest wsX3_put := goodIn_r _ [35, 32, 154, 155, 156, 157] (by decide +kernel) (by decide +kernel)
set_option maxRecDepth 20000 in
theorem gX9_searchBest_X3_put_n277 : GoodIn wsX9_searchBest (wsX3_put) := ggX9_searchBest_X3_put
set_option maxRecDepth 20000 in
theorem ggX9_searchBest_X9_searchPitch : GoodIn wsX9_searchBest wsX9_searchPitch := goodIn_r _ [40, 1, 41, 3, 42, 43, 44, 45, 46, 47, 48, 49, 50, 51, 52, 53, 54, 55, 56, 57, 58, 59, 60, 61, 62, 39, 63, 64, 65, 66, 67, 68, 69, 70, 71, 72, 73, 74, 75, 76, 77, 78, 79, 80, 81, 82, 83, 84, 85, 86, 87, 88, 89, 90, 91, 92, 93, 94, 95, 96, 97, 98, 99, 100, 101, 102, 103, 104, 105, 106, 107, 108, 109, 110, 111, 112, 113, 114, 115, 116, 26, 117, 118, 32, 33, 34, 35, 119, 120, 121, 122, 123, 124, 125, 126, 127, 128, 129, 130, 131, 132, 133, 134, 135, 136, 137, 138, 139, 140, 141, 142, 143, 144, 145, 146, 147, 148, 149, 150, 151, 152, 153, 158, 159, 160, 161, 162, 163, 164, 165, 166, 167, 168, 169, 170, 171, 172, 173, 174, 175, 176, 177, 154, 155, 156, 157] (by decide +kernel) (by decide +kernel)
set_option maxRecDepth 20000 in
theorem gX9_searchBest_X9_searchPitch : GoodIn wsX9_searchBest (wsV RX9 280 RX9 yX9_searchPitch wsX9_searchPitch) := goodIn_app (goodIn_of _ (by decide +kernel)) ggX9_searchBest_X9_searchPitch
theorem dX9_searchBest_0 : decode cX9_searchBest 0 = .ok (.aload_n 0, 1) := by decide +kernel
