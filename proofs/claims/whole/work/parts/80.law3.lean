set_option maxRecDepth 20000 in
theorem lg_X9_wind : GoodIn lw_tbl (wsV RL 102 RX9 yX9_wind wsX9_wind) := goodIn_r _ [763, 764, 765, 68, 766, 407, 541, 458, 459, 68, 460, 417, 419, 421, 423, 425, 427, 429, 431, 433, 435, 437, 439, 441, 443, 445, 447, 449, 451, 284, 286, 288, 290, 292, 294, 296] (by decide +kernel) (by decide +kernel)
set_option maxRecDepth 20000 in
theorem lg_X10_wind : GoodIn lw_tbl (wsV RL 105 RX10 yX10_wind wsX10_wind) := goodIn_r _ [1065, 1066, 1067, 78, 1068, 810, 823, 936, 896, 897, 78, 898, 837, 839, 841, 843, 845, 847, 849, 851, 853, 855, 857, 859, 861, 863, 865, 867, 869, 871, 873, 875, 877, 879, 881, 883, 885, 887, 889] (by decide +kernel) (by decide +kernel)
set_option maxRecDepth 20000 in
theorem lg_X9_go : GoodIn lw_tbl (wsV RL 106 RX9 yX9_go wsX9_go) := goodIn_r _ [767, 768, 769, 68, 770, 407, 401, 403, 458, 459, 68, 460, 579, 74, 22, 580, 267, 583, 584, 80, 585, 270, 586, 587, 588, 282, 544, 72, 17, 545, 236, 237, 546, 548, 18, 549, 233, 232, 234, 235, 397, 398, 589, 591, 23, 592, 593, 594, 280, 595, 573, 574, 596, 570, 21, 571, 273, 276, 278, 575, 576, 417, 419, 421, 423, 425, 427, 429, 431, 433, 435, 437, 439, 441, 443, 445, 447, 449, 451, 284, 286, 288, 290, 292, 294, 296, 240, 242, 244, 246, 248, 250, 252, 177, 179, 181, 183, 185, 187, 189, 191, 193, 195, 197, 199, 201, 203, 205, 207, 209] (by decide +kernel) (by decide +kernel)
set_option maxRecDepth 20000 in
theorem lg_X10_go : GoodIn lw_tbl (wsV RL 109 RX10 yX10_go wsX10_go) := goodIn_r _ [1069, 1070, 1071, 78, 1072, 810, 823, 896, 897, 78, 898, 956, 957, 958, 937, 939, 55, 940, 815, 816, 817, 818, 819, 820, 821, 822, 963, 965, 59, 966, 977, 978, 941, 943, 56, 944, 945, 947, 57, 948, 967, 969, 60, 970, 971, 972, 973, 974, 975, 976, 837, 839, 841, 843, 845, 847, 849, 851, 853, 855, 857, 859, 861, 863, 865, 867, 869, 871, 873, 875, 877, 879, 881, 883, 885, 887, 889] (by decide +kernel) (by decide +kernel)
set_option maxRecDepth 20000 in
theorem lg_X9_weed : GoodIn lw_tbl (wsV RL 110 RX9 yX9_weed wsX9_weed) := goodIn_r _ [772, 773, 774, 68, 775, 407, 417, 419, 421, 423, 425, 427, 429, 431, 433, 435, 437, 439, 441, 443, 445, 447, 449, 451, 284, 286, 288, 290, 292, 294, 296] (by decide +kernel) (by decide +kernel)
set_option maxRecDepth 20000 in
theorem lg_X10_weed : GoodIn lw_tbl (wsV RL 113 RX10 yX10_weed wsX10_weed) := goodIn_r _ [1073, 1074, 1075, 78, 1076, 810, 823, 837, 839, 841, 843, 845, 847, 849, 851, 853, 855, 857, 859, 861, 863, 865, 867, 869, 871, 873, 875, 877, 879, 881, 883, 885, 887, 889] (by decide +kernel) (by decide +kernel)
set_option maxRecDepth 20000 in
theorem lg_X9_now : GoodIn lw_tbl (wsV RL 114 RX9 yX9_now wsX9_now) := goodIn_r _ [776, 777, 778, 68, 779, 407, 602, 417, 419, 421, 423, 425, 427, 429, 431, 433, 435, 437, 439, 441, 443, 445, 447, 449, 451, 284, 286, 288, 290, 292, 294, 296] (by decide +kernel) (by decide +kernel)
set_option maxRecDepth 20000 in
theorem lg_X10_now : GoodIn lw_tbl (wsV RL 117 RX10 yX10_now wsX10_now) := goodIn_r _ [1077, 1078, 1079, 78, 1080, 810, 823, 979, 896, 897, 78, 898, 837, 839, 841, 843, 845, 847, 849, 851, 853, 855, 857, 859, 861, 863, 865, 867, 869, 871, 873, 875, 877, 879, 881, 883, 885, 887, 889] (by decide +kernel) (by decide +kernel)
set_option maxRecDepth 20000 in
theorem lg_X9_keep : GoodIn lw_tbl (wsV RL 118 RX9 yX9_keep wsX9_keep) := goodIn_r _ [780, 781, 782, 68, 783, 409, 407, 784, 786, 47, 68, 787, 408, 790, 74, 48, 791, 267, 270, 273, 276, 278, 280, 282, 417, 419, 421, 423, 425, 427, 429, 431, 433, 435, 437, 439, 441, 443, 445, 447, 449, 451, 284, 286, 288, 290, 292, 294, 296] (by decide +kernel) (by decide +kernel)
set_option maxRecDepth 20000 in
theorem lg_X10_keep : GoodIn lw_tbl (wsV RL 121 RX10 yX10_keep wsX10_keep) := goodIn_r _ [1081, 1082, 1083, 78, 1084, 810, 826, 825, 823, 837, 839, 841, 843, 845, 847, 849, 851, 853, 855, 857, 859, 861, 863, 865, 867, 869, 871, 873, 875, 877, 879, 881, 883, 885, 887, 889] (by decide +kernel) (by decide +kernel)
set_option maxRecDepth 20000 in
theorem lg_X9_back : GoodIn lw_tbl (wsV RL 122 RX9 yX9_back wsX9_back) := goodIn_r _ [792, 793, 794, 68, 795, 409, 407, 784, 786, 47, 68, 787, 408, 790, 74, 48, 791, 267, 270, 273, 276, 278, 280, 282, 417, 419, 421, 423, 425, 427, 429, 431, 433, 435, 437, 439, 441, 443, 445, 447, 449, 451, 284, 286, 288, 290, 292, 294, 296] (by decide +kernel) (by decide +kernel)
set_option maxRecDepth 20000 in
theorem lg_X10_back : GoodIn lw_tbl (wsV RL 125 RX10 yX10_back wsX10_back) := goodIn_r _ [1085, 1086, 1087, 78, 1088, 810, 826, 823, 825, 837, 839, 841, 843, 845, 847, 849, 851, 853, 855, 857, 859, 861, 863, 865, 867, 869, 871, 873, 875, 877, 879, 881, 883, 885, 887, 889] (by decide +kernel) (by decide +kernel)
set_option maxRecDepth 20000 in
theorem lg_X9_count : GoodIn lw_tbl (wsV RL 126 RX9 yX9_count wsX9_count) := goodIn_r _ [796, 797, 798, 68, 799, 401, 399, 405, 406, 409, 417, 419, 421, 423, 425, 427, 429, 431, 433, 435, 437, 439, 441, 443, 445, 447, 449, 451, 177, 179, 181, 183, 185, 187, 189, 191, 193, 195, 197, 199, 201, 203, 205, 207, 209, 99, 101, 336, 338, 340, 342, 355, 357, 359] (by decide +kernel) (by decide +kernel)
set_option maxRecDepth 20000 in
theorem lg_X10_count : GoodIn lw_tbl (wsV RL 129 RX10 yX10_count wsX10_count) := goodIn_r _ [1089, 1090, 1091, 78, 1092, 810, 815, 812, 832, 835, 826, 837, 839, 841, 843, 845, 847, 849, 851, 853, 855, 857, 859, 861, 863, 865, 867, 869, 871, 873, 875, 877, 879, 881, 883, 885, 887, 889] (by decide +kernel) (by decide +kernel)
