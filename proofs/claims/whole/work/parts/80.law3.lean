set_option maxRecDepth 20000 in
theorem lg_X9_wind : GoodIn lw_tbl (wsV RL 102 RX9 yX9_wind wsX9_wind) := goodIn_r _ [762, 763, 764, 67, 765, 406, 540, 457, 458, 67, 459, 416, 418, 420, 422, 424, 426, 428, 430, 432, 434, 436, 438, 440, 442, 444, 446, 448, 450, 283, 285, 287, 289, 291, 293, 295] (by decide +kernel) (by decide +kernel)
set_option maxRecDepth 20000 in
theorem lg_X10_wind : GoodIn lw_tbl (wsV RL 105 RX10 yX10_wind wsX10_wind) := goodIn_r _ [1060, 1061, 1062, 77, 1063, 805, 818, 931, 891, 892, 77, 893, 832, 834, 836, 838, 840, 842, 844, 846, 848, 850, 852, 854, 856, 858, 860, 862, 864, 866, 868, 870, 872, 874, 876, 878, 880, 882, 884] (by decide +kernel) (by decide +kernel)
set_option maxRecDepth 20000 in
theorem lg_X9_go : GoodIn lw_tbl (wsV RL 106 RX9 yX9_go wsX9_go) := goodIn_r _ [766, 767, 768, 67, 769, 406, 400, 402, 457, 458, 67, 459, 578, 73, 22, 579, 266, 582, 583, 79, 584, 269, 585, 586, 587, 281, 543, 71, 17, 544, 235, 236, 545, 547, 18, 548, 232, 231, 233, 234, 396, 397, 588, 590, 23, 591, 592, 593, 279, 594, 572, 573, 595, 569, 21, 570, 272, 275, 277, 574, 575, 416, 418, 420, 422, 424, 426, 428, 430, 432, 434, 436, 438, 440, 442, 444, 446, 448, 450, 283, 285, 287, 289, 291, 293, 295, 239, 241, 243, 245, 247, 249, 251, 176, 178, 180, 182, 184, 186, 188, 190, 192, 194, 196, 198, 200, 202, 204, 206, 208] (by decide +kernel) (by decide +kernel)
set_option maxRecDepth 20000 in
theorem lg_X10_go : GoodIn lw_tbl (wsV RL 109 RX10 yX10_go wsX10_go) := goodIn_r _ [1064, 1065, 1066, 77, 1067, 805, 818, 891, 892, 77, 893, 951, 952, 953, 932, 934, 54, 935, 810, 811, 812, 813, 814, 815, 816, 817, 958, 960, 58, 961, 972, 973, 936, 938, 55, 939, 940, 942, 56, 943, 962, 964, 59, 965, 966, 967, 968, 969, 970, 971, 832, 834, 836, 838, 840, 842, 844, 846, 848, 850, 852, 854, 856, 858, 860, 862, 864, 866, 868, 870, 872, 874, 876, 878, 880, 882, 884] (by decide +kernel) (by decide +kernel)
set_option maxRecDepth 20000 in
theorem lg_X9_weed : GoodIn lw_tbl (wsV RL 110 RX9 yX9_weed wsX9_weed) := goodIn_r _ [771, 772, 773, 67, 774, 406, 416, 418, 420, 422, 424, 426, 428, 430, 432, 434, 436, 438, 440, 442, 444, 446, 448, 450, 283, 285, 287, 289, 291, 293, 295] (by decide +kernel) (by decide +kernel)
set_option maxRecDepth 20000 in
theorem lg_X10_weed : GoodIn lw_tbl (wsV RL 113 RX10 yX10_weed wsX10_weed) := goodIn_r _ [1068, 1069, 1070, 77, 1071, 805, 818, 832, 834, 836, 838, 840, 842, 844, 846, 848, 850, 852, 854, 856, 858, 860, 862, 864, 866, 868, 870, 872, 874, 876, 878, 880, 882, 884] (by decide +kernel) (by decide +kernel)
set_option maxRecDepth 20000 in
theorem lg_X9_now : GoodIn lw_tbl (wsV RL 114 RX9 yX9_now wsX9_now) := goodIn_r _ [775, 776, 777, 67, 778, 406, 601, 416, 418, 420, 422, 424, 426, 428, 430, 432, 434, 436, 438, 440, 442, 444, 446, 448, 450, 283, 285, 287, 289, 291, 293, 295] (by decide +kernel) (by decide +kernel)
set_option maxRecDepth 20000 in
theorem lg_X10_now : GoodIn lw_tbl (wsV RL 117 RX10 yX10_now wsX10_now) := goodIn_r _ [1072, 1073, 1074, 77, 1075, 805, 818, 974, 891, 892, 77, 893, 832, 834, 836, 838, 840, 842, 844, 846, 848, 850, 852, 854, 856, 858, 860, 862, 864, 866, 868, 870, 872, 874, 876, 878, 880, 882, 884] (by decide +kernel) (by decide +kernel)
set_option maxRecDepth 20000 in
theorem lg_X9_keep : GoodIn lw_tbl (wsV RL 118 RX9 yX9_keep wsX9_keep) := goodIn_r _ [779, 780, 781, 67, 782, 408, 407, 406, 785, 73, 47, 786, 266, 269, 272, 275, 277, 279, 281, 416, 418, 420, 422, 424, 426, 428, 430, 432, 434, 436, 438, 440, 442, 444, 446, 448, 450, 283, 285, 287, 289, 291, 293, 295] (by decide +kernel) (by decide +kernel)
set_option maxRecDepth 20000 in
theorem lg_X10_keep : GoodIn lw_tbl (wsV RL 121 RX10 yX10_keep wsX10_keep) := goodIn_r _ [1076, 1077, 1078, 77, 1079, 805, 821, 820, 818, 832, 834, 836, 838, 840, 842, 844, 846, 848, 850, 852, 854, 856, 858, 860, 862, 864, 866, 868, 870, 872, 874, 876, 878, 880, 882, 884] (by decide +kernel) (by decide +kernel)
set_option maxRecDepth 20000 in
theorem lg_X9_back : GoodIn lw_tbl (wsV RL 122 RX9 yX9_back wsX9_back) := goodIn_r _ [787, 788, 789, 67, 790, 408, 407, 406, 785, 73, 47, 786, 266, 269, 272, 275, 277, 279, 281, 416, 418, 420, 422, 424, 426, 428, 430, 432, 434, 436, 438, 440, 442, 444, 446, 448, 450, 283, 285, 287, 289, 291, 293, 295] (by decide +kernel) (by decide +kernel)
set_option maxRecDepth 20000 in
theorem lg_X10_back : GoodIn lw_tbl (wsV RL 125 RX10 yX10_back wsX10_back) := goodIn_r _ [1080, 1081, 1082, 77, 1083, 805, 821, 818, 820, 832, 834, 836, 838, 840, 842, 844, 846, 848, 850, 852, 854, 856, 858, 860, 862, 864, 866, 868, 870, 872, 874, 876, 878, 880, 882, 884] (by decide +kernel) (by decide +kernel)
set_option maxRecDepth 20000 in
theorem lg_X9_count : GoodIn lw_tbl (wsV RL 126 RX9 yX9_count wsX9_count) := goodIn_r _ [791, 792, 793, 67, 794, 400, 398, 404, 405, 408, 416, 418, 420, 422, 424, 426, 428, 430, 432, 434, 436, 438, 440, 442, 444, 446, 448, 450, 176, 178, 180, 182, 184, 186, 188, 190, 192, 194, 196, 198, 200, 202, 204, 206, 208, 98, 100, 335, 337, 339, 341, 354, 356, 358] (by decide +kernel) (by decide +kernel)
set_option maxRecDepth 20000 in
theorem lg_X10_count : GoodIn lw_tbl (wsV RL 129 RX10 yX10_count wsX10_count) := goodIn_r _ [1084, 1085, 1086, 77, 1087, 805, 810, 807, 827, 830, 821, 832, 834, 836, 838, 840, 842, 844, 846, 848, 850, 852, 854, 856, 858, 860, 862, 864, 866, 868, 870, 872, 874, 876, 878, 880, 882, 884] (by decide +kernel) (by decide +kernel)
