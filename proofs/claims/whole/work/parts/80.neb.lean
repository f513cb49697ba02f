set_option maxRecDepth 20000 in
theorem ggL_law_X12_seeded : GoodIn wsL_law wsX12_seeded := goodIn_r _ [896, 897, 47, 898, 340, 341, 5, 342, 827, 828, 829, 830, 50, 357, 358, 359, 899, 900, 901, 902, 903, 904, 905, 872, 873, 874, 875, 403, 404, 405, 406, 407, 408, 409, 410, 380, 381, 382, 411, 412, 413, 414, 399, 400, 401, 402, 376, 377, 378, 379, 415, 416, 417, 418, 419, 420, 421, 422, 372, 373, 374, 375, 423, 424, 425, 426, 427, 428, 429, 430, 364, 365, 366, 367, 391, 392, 393, 394, 575, 576, 577, 831, 832, 833, 834, 1087, 1088, 1089, 1090, 1091, 1092, 1093, 1094, 1095, 1096, 1097, 1098, 1099, 1100, 1101, 1102, 1103, 1104, 1105, 1106] (by decide +kernel) (by decide +kernel)
set_option maxRecDepth 20000 in
theorem gL_law_X12_seeded : GoodIn wsL_law (wsV RL 111 RX12 yX12_seeded wsX12_seeded) := goodIn_app (goodIn_of _ (by decide +kernel)) ggL_law_X12_seeded
set_option maxRecDepth 20000 in
theorem ggL_law_X11_judge : GoodIn wsL_law wsX11_judge := goodIn_r _ [909, 17, 16, 65, 66, 67, 2, 68, 26, 69, 70, 71, 72, 73, 74, 75, 76, 77, 78, 79, 80, 81, 82, 83, 24, 108, 109, 110, 15, 111, 112, 113, 114, 115, 116, 31, 117, 118, 119, 120, 32, 33, 34, 36, 104, 105, 106, 87, 107, 97, 93, 94, 95, 96, 216, 217, 218, 219, 220, 133, 134, 135, 225, 226, 227, 228, 229, 230, 231, 232, 233, 234, 235, 236, 146, 147, 132, 237, 238, 239, 240, 241, 242, 243, 244, 245, 246, 247, 248, 249, 177, 250, 251, 252, 253, 254, 168, 255, 256, 257, 258, 259, 260, 156, 261, 262, 263, 165, 264, 265, 266, 267, 268, 159, 269, 270, 271, 272, 171, 273, 274, 275, 276, 277, 278, 279, 280, 174, 281, 282, 283, 284, 285, 286, 287, 162, 288, 289, 290, 291, 292, 293, 294, 295, 296, 297, 298, 299, 300, 301, 302, 303, 304, 305, 306, 307, 308, 309, 310, 311, 312, 313, 314, 315, 316, 317, 318, 319, 320, 321, 322, 323, 148, 149, 150, 151, 136, 137, 324, 222, 223, 224, 1080, 1081, 1082, 1083, 1084, 1085, 1086, 1107, 1108, 1109, 1110, 1111, 1112, 1113, 1114, 1115, 1116, 1121, 1122, 1137, 1138, 1129, 1130, 1123, 1124, 1125, 1126, 1131, 1132, 1133, 1134, 1135, 1136, 1127, 1128] (by decide +kernel) (by decide +kernel)
set_option maxRecDepth 20000 in
theorem gL_law_X11_judge : GoodIn wsL_law (wsV RL 112 RX11 yX11_judge wsX11_judge) := goodIn_app (goodIn_of _ (by decide +kernel)) ggL_law_X11_judge
set_option maxRecDepth 20000 in
theorem ggL_law_X12_judge : GoodIn wsL_law wsX12_judge := goodIn_r _ [913, 53, 332, 333, 334, 5, 335, 51, 52, 336, 337, 338, 339, 340, 341, 342, 827, 828, 829, 830, 47, 50, 357, 358, 359, 914, 915, 916, 917, 868, 869, 870, 871, 54, 395, 396, 397, 398, 368, 369, 370, 371, 403, 404, 405, 406, 407, 408, 409, 410, 380, 381, 382, 411, 412, 413, 414, 399, 400, 401, 402, 376, 377, 378, 379, 415, 416, 417, 418, 419, 420, 421, 422, 372, 373, 374, 375, 423, 424, 425, 426, 427, 428, 429, 430, 364, 365, 366, 367, 391, 392, 393, 394, 831, 832, 833, 834, 1087, 1088, 1089, 1090, 1091, 1092, 1093, 1094, 1095, 1096, 1097, 1098, 1099, 1100, 1101, 1102, 1103, 1104, 1105, 1106] (by decide +kernel) (by decide +kernel)
set_option maxRecDepth 20000 in
theorem gL_law_X12_judge : GoodIn wsL_law (wsV RL 115 RX12 yX12_judge wsX12_judge) := goodIn_app (goodIn_of _ (by decide +kernel)) ggL_law_X12_judge
set_option maxRecDepth 20000 in
theorem ggL_law_X11_image : GoodIn wsL_law wsX11_image := goodIn_r _ [921, 18, 16, 922, 108, 109, 110, 15, 111, 112, 113, 114, 115, 116, 31, 117, 118, 119, 120, 32, 33, 34, 36, 859, 860, 861, 862, 863, 557, 558, 559, 560, 561, 562, 1080, 1081, 1082, 1083, 1084, 1085, 1086, 1107, 1108, 1109, 1110, 1111, 1112, 1113, 1114, 1115, 1116] (by decide +kernel) (by decide +kernel)
set_option maxRecDepth 20000 in
theorem gL_law_X11_image : GoodIn wsL_law (wsV RL 116 RX11 yX11_image wsX11_image) := goodIn_app (goodIn_of _ (by decide +kernel)) ggL_law_X11_image
set_option maxRecDepth 20000 in
theorem ggL_law_X12_image : GoodIn wsL_law wsX12_image := goodIn_r _ [926, 47, 48, 927, 357, 358, 5, 359, 575, 576, 577, 1087, 1088, 1089, 1090, 1091, 1092, 1093, 1094, 1095, 1096, 1097, 1098, 1099, 1100, 1101, 1102, 1103, 1104, 1105, 1106] (by decide +kernel) (by decide +kernel)
set_option maxRecDepth 20000 in
theorem gL_law_X12_image : GoodIn wsL_law (wsV RL 119 RX12 yX12_image wsX12_image) := goodIn_app (goodIn_of _ (by decide +kernel)) ggL_law_X12_image
set_option maxRecDepth 20000 in
theorem ggL_law_X11_restore : GoodIn wsL_law wsX11_restore := goodIn_r _ [931, 922, 16, 18, 108, 109, 110, 15, 111, 112, 113, 114, 115, 116, 31, 117, 118, 119, 120, 32, 33, 34, 36, 859, 860, 861, 862, 863, 557, 558, 559, 560, 561, 562, 1080, 1081, 1082, 1083, 1084, 1085, 1086, 1107, 1108, 1109, 1110, 1111, 1112, 1113, 1114, 1115, 1116] (by decide +kernel) (by decide +kernel)
set_option maxRecDepth 20000 in
theorem gL_law_X11_restore : GoodIn wsL_law (wsV RL 120 RX11 yX11_restore wsX11_restore) := goodIn_app (goodIn_of _ (by decide +kernel)) ggL_law_X11_restore
set_option maxRecDepth 20000 in
theorem ggL_law_X12_restore : GoodIn wsL_law wsX12_restore := goodIn_r _ [935, 927, 48, 47, 357, 358, 5, 359, 575, 576, 577, 1087, 1088, 1089, 1090, 1091, 1092, 1093, 1094, 1095, 1096, 1097, 1098, 1099, 1100, 1101, 1102, 1103, 1104, 1105, 1106] (by decide +kernel) (by decide +kernel)
set_option maxRecDepth 20000 in
theorem gL_law_X12_restore : GoodIn wsL_law (wsV RL 123 RX12 yX12_restore wsX12_restore) := goodIn_app (goodIn_of _ (by decide +kernel)) ggL_law_X12_restore
set_option maxRecDepth 20000 in
theorem ggL_law_X11_count : GoodIn wsL_law wsX11_count := goodIn_r _ [939, 16, 884, 699, 700, 15, 701, 112, 880, 881, 882, 883, 113, 940, 941, 942, 943, 116, 859, 860, 861, 862, 114, 863, 557, 558, 559, 560, 561, 562, 944, 945, 946, 947, 115, 1080, 1081, 1082, 1083, 1084, 1085, 1086, 1107, 1108, 1109, 1110, 1111, 1112, 1113, 1114, 1115, 1116] (by decide +kernel) (by decide +kernel)
set_option maxRecDepth 20000 in
theorem gL_law_X11_count : GoodIn wsL_law (wsV RL 124 RX11 yX11_count wsX11_count) := goodIn_app (goodIn_of _ (by decide +kernel)) ggL_law_X11_count
set_option maxRecDepth 20000 in
theorem ggL_law_X12_count : GoodIn wsL_law wsX12_count := goodIn_r _ [951, 47, 575, 576, 5, 577, 1087, 1088, 1089, 1090, 1091, 1092, 1093, 1094, 1095, 1096, 1097, 1098, 1099, 1100, 1101, 1102, 1103, 1104, 1105, 1106] (by decide +kernel) (by decide +kernel)
set_option maxRecDepth 20000 in
theorem gL_law_X12_count : GoodIn wsL_law (wsV RL 127 RX12 yX12_count wsX12_count) := goodIn_app (goodIn_of _ (by decide +kernel)) ggL_law_X12_count
set_option maxRecDepth 20000 in
theorem ggL_law_X11_keep : GoodIn wsL_law wsX11_keep := goodIn_r _ [955, 73, 74, 2, 75, 956, 957, 958, 959, 24, 26, 819, 820, 821, 152, 153, 154, 23, 155, 156, 157, 158, 159, 160, 161, 162, 163, 164, 165, 166, 167, 168, 169, 170, 171, 172, 173, 174, 175, 176, 177, 178, 179, 180, 181, 11, 12, 182, 183, 184, 185, 186, 187, 188, 189, 190, 191, 192, 193, 194, 195, 196, 197, 198, 199, 200, 201, 202, 203, 204, 205, 206, 207, 208, 209, 210, 211, 1080, 1081, 1082, 1083, 1084, 1085, 1086, 1123, 1124, 1125, 1126, 1127, 1128, 1129, 1130, 1131, 1132, 1133, 1134, 1135, 1136, 1137, 1138] (by decide +kernel) (by decide +kernel)
set_option maxRecDepth 20000 in
theorem gL_law_X11_keep : GoodIn wsL_law (wsV RL 128 RX11 yX11_keep wsX11_keep) := goodIn_app (goodIn_of _ (by decide +kernel)) ggL_law_X11_keep
set_option maxRecDepth 20000 in
theorem ggL_law_X12_keep : GoodIn wsL_law wsX12_keep := goodIn_r _ [963, 339, 826, 51, 55, 56, 336, 337, 5, 338, 340, 341, 342, 1087, 1088, 1089, 1090, 1091, 1092, 1093, 1094, 1095, 1096, 1097, 1098, 1099, 1100, 1101, 1102, 1103, 1104, 1105, 1106] (by decide +kernel) (by decide +kernel)
set_option maxRecDepth 20000 in
theorem gL_law_X12_keep : GoodIn wsL_law (wsV RL 132 RX12 yX12_keep wsX12_keep) := goodIn_app (goodIn_of _ (by decide +kernel)) ggL_law_X12_keep
set_option maxRecDepth 20000 in
theorem ggL_law_X11_row : GoodIn wsL_law wsX11_row := goodIn_r _ [967, 25, 968, 87, 30, 73, 74, 2, 75, 969, 970, 971, 972, 11, 12, 89, 97, 956, 957, 958, 959, 24, 26, 1121, 1122, 1080, 1081, 1082, 1083, 1084, 1085, 1086] (by decide +kernel) (by decide +kernel)
set_option maxRecDepth 20000 in
theorem gL_law_X11_row : GoodIn wsL_law (wsV RL 133 RX11 yX11_row wsX11_row) := goodIn_app (goodIn_of _ (by decide +kernel)) ggL_law_X11_row
set_option maxRecDepth 20000 in
theorem ggL_law_X12_row : GoodIn wsL_law wsX12_row := goodIn_r _ [976, 977, 51, 52, 53, 54, 336, 337, 5, 338, 339, 340, 341, 342, 1087, 1088, 1089, 1090, 1091, 1092, 1093, 1094, 1095, 1096, 1097, 1098, 1099, 1100, 1101, 1102, 1103, 1104, 1105, 1106] (by decide +kernel) (by decide +kernel)
set_option maxRecDepth 20000 in
theorem gL_law_X12_row : GoodIn wsL_law (wsV RL 137 RX12 yX12_row wsX12_row) := goodIn_app (goodIn_of _ (by decide +kernel)) ggL_law_X12_row
set_option maxRecDepth 20000 in
theorem ggL_law_X11_put : GoodIn wsL_law wsX11_put := goodIn_r _ [981, 65, 66, 67, 2, 68, 26, 69, 70, 71, 72, 73, 74, 75, 76, 77, 78, 79, 80, 81, 82, 83, 24, 982, 983, 984, 87, 985, 97, 986, 987, 988, 989, 990, 991, 992, 993, 89, 1080, 1081, 1082, 1083, 1084, 1085, 1086, 1121, 1122] (by decide +kernel) (by decide +kernel)
set_option maxRecDepth 20000 in
theorem gL_law_X11_put : GoodIn wsL_law (wsV RL 138 RX11 yX11_put wsX11_put) := goodIn_app (goodIn_of _ (by decide +kernel)) ggL_law_X11_put
set_option maxRecDepth 20000 in
theorem ggL_law_X12_put : GoodIn wsL_law wsX12_put := goodIn_r _ [997, 53, 54, 52, 332, 333, 334, 5, 335, 51, 336, 337, 338, 339, 340, 341, 342, 1087, 1088, 1089, 1090, 1091, 1092, 1093, 1094, 1095, 1096, 1097, 1098, 1099, 1100, 1101, 1102, 1103, 1104, 1105, 1106] (by decide +kernel) (by decide +kernel)
set_option maxRecDepth 20000 in
theorem gL_law_X12_put : GoodIn wsL_law (wsV RL 141 RX12 yX12_put wsX12_put) := goodIn_app (goodIn_of _ (by decide +kernel)) ggL_law_X12_put
set_option maxRecDepth 20000 in
theorem ggL_law_L_element : GoodIn wsL_law wsL_element := goodIn_ca (goodIn_ca (goodIn_r _ [1001, 1002, 1003, 1004, 1005, 1006, 2, 1007, 1008, 1009, 1010, 1011, 73, 74, 75, 65, 66, 67, 68, 26, 982, 983, 984, 87, 985, 97, 93, 94, 95, 96, 1080, 1081, 1082, 1083, 1084, 1085, 1086, 1121, 1122] (by decide +kernel) (by decide +kernel)) (goodIn_sub (fun _ h => List.mem_append_left _ (List.mem_append_left _ (List.mem_append_left _ (List.mem_append_left _ (List.mem_append_left _ (List.mem_append_right _ h)))))) (by decide +kernel))) (goodIn_sub (fun _ h => List.mem_append_left _ (List.mem_append_left _ (List.mem_append_left _ (List.mem_append_left _ (List.mem_append_right _ h))))) (by decide +kernel))
set_option maxRecDepth 20000 in
theorem gL_law_L_element : GoodIn wsL_law (va_wsS RL 142 yL_element wsL_element) := goodIn_app (goodIn_of _ (by decide +kernel)) ggL_law_L_element
set_option maxRecDepth 20000 in
theorem ggL_law_X12_element : GoodIn wsL_law wsX12_element := goodIn_r _ [1015, 51, 53, 1016, 54, 336, 337, 5, 338, 339, 340, 341, 342, 1087, 1088, 1089, 1090, 1091, 1092, 1093, 1094, 1095, 1096, 1097, 1098, 1099, 1100, 1101, 1102, 1103, 1104, 1105, 1106] (by decide +kernel) (by decide +kernel)
set_option maxRecDepth 20000 in
theorem gL_law_X12_element : GoodIn wsL_law (wsV RL 147 RX12 yX12_element wsX12_element) := goodIn_app (goodIn_of _ (by decide +kernel)) ggL_law_X12_element
set_option maxRecDepth 20000 in
theorem ggL_law_X12_thrown : GoodIn wsL_law wsX12_thrown := goodIn_r _ [1020, 1016, 1087, 1088, 1089, 1090, 1091, 1092, 1093, 1094, 1095, 1096, 1097, 1098, 1099, 1100, 1101, 1102, 1103, 1104, 1105, 1106] (by decide +kernel) (by decide +kernel)
set_option maxRecDepth 20000 in
theorem gL_law_X12_thrown : GoodIn wsL_law (wsV RL 148 RX12 yX12_thrown wsX12_thrown) := goodIn_app (goodIn_of _ (by decide +kernel)) ggL_law_X12_thrown
set_option maxRecDepth 20000 in
theorem ggL_law_X11_copy : GoodIn wsL_law wsX11_copy := goodIn_r _ [1024, 1025, 118, 119, 120, 73, 74, 2, 75, 76, 77, 78, 79, 65, 66, 67, 68, 26, 80, 81, 82, 83, 24, 84, 85, 86, 87, 88, 89, 1026, 1027, 1028, 1029, 97, 1121, 1122, 1080, 1081, 1082, 1083, 1084, 1085, 1086] (by decide +kernel) (by decide +kernel)
set_option maxRecDepth 20000 in
theorem gL_law_X11_copy : GoodIn wsL_law (wsV RL 151 RX11 yX11_copy wsX11_copy) := goodIn_app (goodIn_of _ (by decide +kernel)) ggL_law_X11_copy
set_option maxRecDepth 20000 in
theorem ggL_law_X12_copy : GoodIn wsL_law wsX12_copy := goodIn_r _ [1033, 51, 52, 53, 54, 336, 337, 5, 338, 339, 340, 341, 342, 1087, 1088, 1089, 1090, 1091, 1092, 1093, 1094, 1095, 1096, 1097, 1098, 1099, 1100, 1101, 1102, 1103, 1104, 1105, 1106] (by decide +kernel) (by decide +kernel)
set_option maxRecDepth 20000 in
theorem gL_law_X12_copy : GoodIn wsL_law (wsV RL 155 RX12 yX12_copy wsX12_copy) := goodIn_app (goodIn_of _ (by decide +kernel)) ggL_law_X12_copy
set_option maxRecDepth 20000 in
theorem ggL_law_X11_price : GoodIn wsL_law wsX11_price := goodIn_r _ [1037, 80, 81, 82, 2, 83, 24, 69, 70, 71, 72, 73, 74, 75, 76, 77, 78, 79, 65, 66, 67, 68, 26, 458, 459, 460, 461, 462, 177, 463, 464, 465, 253, 466, 168, 467, 256, 257, 468, 259, 469, 156, 470, 471, 472, 165, 473, 474, 475, 476, 477, 159, 478, 479, 480, 481, 482, 483, 484, 485, 486, 171, 487, 488, 278, 489, 490, 174, 491, 492, 493, 286, 494, 162, 495, 496, 497, 498, 290, 499, 1080, 1081, 1082, 1083, 1084, 1085, 1086, 1137, 1138, 1129, 1130, 1123, 1124, 1125, 1126, 1131, 1132, 1133, 1134, 1135, 1136, 1127, 1128] (by decide +kernel) (by decide +kernel)
set_option maxRecDepth 20000 in
theorem gL_law_X11_price : GoodIn wsL_law (wsV RL 156 RX11 yX11_price wsX11_price) := goodIn_app (goodIn_of _ (by decide +kernel)) ggL_law_X11_price
set_option maxRecDepth 20000 in
theorem ggL_law_X12_price : GoodIn wsL_law wsX12_price := goodIn_r _ [1041, 55, 56, 519, 520, 521, 5, 522, 51, 336, 337, 338, 339, 340, 341, 342, 508, 509, 510, 1087, 1088, 1089, 1090, 1091, 1092, 1093, 1094, 1095, 1096, 1097, 1098, 1099, 1100, 1101, 1102, 1103, 1104, 1105, 1106] (by decide +kernel) (by decide +kernel)
set_option maxRecDepth 20000 in
theorem gL_law_X12_price : GoodIn wsL_law (wsV RL 159 RX12 yX12_price wsX12_price) := goodIn_app (goodIn_of _ (by decide +kernel)) ggL_law_X12_price
set_option maxRecDepth 20000 in
theorem ggL_law_X11_toss : GoodIn wsL_law wsX11_toss := goodIn_ca (goodIn_ca (goodIn_ca (goodIn_ca (goodIn_r _ [1045, 1010, 1008, 1046, 454, 80, 81, 82, 2, 83, 24, 69, 70, 71, 72, 73, 74, 75, 76, 77, 78, 79, 65, 66, 67, 68, 26, 1047, 1048, 1049, 1050, 156, 1051, 1052, 1011, 183, 1053, 1054, 1055, 165, 1056, 1057, 1058, 1059, 1060, 159, 1061, 1062, 1009, 1063, 1064, 1065, 1066, 1067, 171, 1068, 1069, 274, 275, 1070, 1071, 174, 1072, 1073, 1074, 282, 283, 1075, 458, 459, 460, 461, 462, 177, 463, 464, 465, 253, 466, 168, 467, 256, 257, 468, 259, 469, 470, 471, 472, 473, 474, 475, 476, 477, 478, 479, 480, 481, 482, 483, 484, 485, 486, 487, 488, 278, 489, 490, 491, 492, 493, 286, 494, 162, 495, 496, 497, 498, 290, 499, 1137, 1138, 1129, 1130, 1123, 1124, 1125, 1126, 1131, 1132, 1133, 1134, 1135, 1136, 1127, 1128, 1080, 1081, 1082, 1083, 1084, 1085, 1086] (by decide +kernel) (by decide +kernel)) (goodIn_sub (fun _ h => List.mem_append_left _ (List.mem_append_left _ (List.mem_append_left _ (List.mem_append_right _ h)))) (by decide +kernel))) (goodIn_sub (fun _ h => List.mem_append_left _ (List.mem_append_left _ (List.mem_append_right _ h))) (by decide +kernel))) (goodIn_sub (fun _ h => List.mem_append_left _ (List.mem_append_right _ h)) (by decide +kernel))) (goodIn_sub (fun _ h => List.mem_append_right _ h) (by decide +kernel))
set_option maxRecDepth 20000 in
theorem gL_law_X11_toss : GoodIn wsL_law (wsV RL 160 RX11 yX11_toss wsX11_toss) := goodIn_app (goodIn_of _ (by decide +kernel)) ggL_law_X11_toss
set_option maxRecDepth 20000 in
theorem ggL_law_X12_toss : GoodIn wsL_law wsX12_toss := goodIn_r _ [1079, 55, 56, 519, 520, 521, 5, 522, 51, 336, 337, 338, 339, 340, 341, 342, 508, 509, 510, 1087, 1088, 1089, 1090, 1091, 1092, 1093, 1094, 1095, 1096, 1097, 1098, 1099, 1100, 1101, 1102, 1103, 1104, 1105, 1106] (by decide +kernel) (by decide +kernel)
set_option maxRecDepth 20000 in
theorem gL_law_X12_toss : GoodIn wsL_law (wsV RL 163 RX12 yX12_toss wsX12_toss) := goodIn_app (goodIn_of _ (by decide +kernel)) ggL_law_X12_toss
theorem dL_law_0 : decode cL_law 0 = .ok (.new 8, 3) := by decide +kernel
theorem dL_law_3 : decode cL_law 3 = .ok (.dup, 1) := by decide +kernel
theorem dL_law_4 : decode cL_law 4 = .ok (.invokespecial 17, 3) := by decide +kernel
theorem dL_law_7 : decode cL_law 7 = .ok (.astore_n 1, 1) := by decide +kernel
theorem dL_law_8 : decode cL_law 8 = .ok (.new 18, 3) := by decide +kernel
theorem dL_law_11 : decode cL_law 11 = .ok (.dup, 1) := by decide +kernel
theorem dL_law_12 : decode cL_law 12 = .ok (.invokespecial 20, 3) := by decide +kernel
theorem dL_law_15 : decode cL_law 15 = .ok (.astore_n 2, 1) := by decide +kernel
theorem dL_law_16 : decode cL_law 16 = .ok (.iconst 1, 1) := by decide +kernel
theorem dL_law_17 : decode cL_law 17 = .ok (.newarray .long, 2) := by decide +kernel
theorem dL_law_19 : decode cL_law 19 = .ok (.astore_n 3, 1) := by decide +kernel
theorem dL_law_20 : decode cL_law 20 = .ok (.iconst 0, 1) := by decide +kernel
theorem dL_law_21 : decode cL_law 21 = .ok (.istore 4, 2) := by decide +kernel
theorem dL_law_23 : decode cL_law 23 = .ok (.iload 4, 2) := by decide +kernel
theorem dL_law_25 : decode cL_law 25 = .ok (.aload_n 0, 1) := by decide +kernel
theorem dL_law_26 : decode cL_law 26 = .ok (.arraylength, 1) := by decide +kernel
theorem dL_law_27 : decode cL_law 27 = .ok (.bipush 6, 2) := by decide +kernel
theorem dL_law_29 : decode cL_law 29 = .ok (.isub, 1) := by decide +kernel
