set_option maxRecDepth 20000 in
theorem ggL_law_X9_init : GoodIn wsL_law wsX9_init := goodIn_r _ [8, 9, 10, 11, 12, 13, 14, 15, 16, 17, 18, 19, 20, 21, 22, 23, 24, 25, 26, 27, 28, 29, 30, 31, 32, 33, 34, 35, 36, 37, 38, 39, 40, 41, 42, 43, 44, 45, 46, 47, 48, 49, 50, 51, 52, 53, 54, 55, 56, 57, 58, 59, 60, 61, 62, 63, 64, 65, 66, 67, 68, 69, 70, 71, 72, 73, 74, 75, 76, 77, 78, 79, 80, 81, 82, 83, 84, 85, 86, 87, 88, 89, 90, 91, 92, 93, 94, 95, 96, 97, 98, 99, 100, 101, 102, 103, 104, 105, 106, 107, 108, 109, 110, 111, 112, 113, 114, 115, 116, 117, 118, 119, 120, 121, 122, 123, 124, 125, 1017, 1018, 1019, 1020, 1021, 1022, 1023, 1024, 1025, 1026, 1027, 1058, 1059, 1060, 1061, 1062, 1063, 1064, 1065, 1066, 1067, 1068, 1069, 1070, 1071, 1072, 1073, 1074, 1075, 1076, 1077, 1078, 1079, 1080, 1081, 1082, 1083, 1084, 1085, 1086, 1087, 1088, 1089, 1090, 1091, 1092, 1093, 1094, 1095, 1096, 1097, 1098] (by decide +kernel) (by decide +kernel)
set_option maxRecDepth 20000 in
theorem gL_law_X9_init : GoodIn wsL_law (wsX9_init) := ggL_law_X9_init
set_option maxRecDepth 20000 in
theorem ggL_law_X10_init : GoodIn wsL_law wsX10_init := goodIn_r _ [128, 129, 10, 11, 12, 130, 131, 132, 133, 134, 135, 136, 137, 138, 139, 140, 141, 142, 143, 144, 145, 146, 90, 147, 148, 149, 150, 151, 152, 1028, 1029, 1030, 1031, 1032, 1033, 1034, 1035, 1036, 1037, 1038, 1039, 1040, 1041, 1042, 1043, 1044, 1045, 1046, 1047, 1048, 1049, 1050, 1051, 1052, 1053, 1054, 1055, 1056, 1057] (by decide +kernel) (by decide +kernel)
set_option maxRecDepth 20000 in
theorem gL_law_X10_init : GoodIn wsL_law (wsX10_init) := ggL_law_X10_init
set_option maxRecDepth 20000 in
theorem ggL_law_X9_feed : GoodIn wsL_law wsX9_feed := goodIn_r _ [156, 157, 14, 158, 13, 159, 160, 2, 161, 1017, 1018, 1019, 1020, 1021, 1022, 1023, 1024, 1025, 1026, 1027] (by decide +kernel) (by decide +kernel)
set_option maxRecDepth 20000 in
theorem gL_law_X9_feed : GoodIn wsL_law (wsV RL 13 RX9 yX9_feed wsX9_feed) := goodIn_app (goodIn_of _ (by decide +kernel)) ggL_law_X9_feed
set_option maxRecDepth 20000 in
theorem ggL_law_X10_feed : GoodIn wsL_law wsX10_feed := goodIn_r _ [165, 166, 167, 168, 130, 169, 170, 5, 171, 1028, 1029, 1030, 1031, 1032, 1033, 1034, 1035, 1036, 1037, 1038, 1039, 1040, 1041, 1042, 1043, 1044, 1045, 1046, 1047, 1048, 1049, 1050, 1051, 1052, 1053, 1054, 1055, 1056, 1057] (by decide +kernel) (by decide +kernel)
set_option maxRecDepth 20000 in
theorem gL_law_X10_feed : GoodIn wsL_law (wsV RL 17 RX10 yX10_feed wsX10_feed) := goodIn_app (goodIn_of _ (by decide +kernel)) ggL_law_X10_feed
set_option maxRecDepth 20000 in
theorem ggL_law_X9_valley : GoodIn wsL_law wsX9_valley := goodIn_r _ [175, 14, 18, 22, 176, 26, 30, 34, 46, 50, 177, 178, 179, 180, 17, 181, 61, 182, 183, 184, 185, 186, 187, 188, 59, 60, 58, 57, 56, 189, 190, 191, 21, 192, 73, 74, 75, 76, 193, 194, 195, 196, 197, 198, 199, 200, 201, 202, 203, 204, 205, 206, 207, 208, 209, 210, 211, 212, 213, 214, 215, 216, 217, 218, 160, 2, 161, 219, 220, 221, 222, 223, 224, 225, 226, 227, 228, 229, 230, 231, 232, 233, 234, 235, 236, 237, 238, 66, 67, 68, 239, 240, 241, 242, 243, 244, 245, 246, 247, 69, 70, 248, 249, 250, 251, 252, 253, 254, 255, 256, 71, 72, 257, 258, 259, 260, 65, 261, 262, 263, 264, 265, 266, 267, 25, 268, 80, 269, 270, 271, 272, 273, 274, 275, 276, 277, 278, 279, 280, 29, 281, 84, 86, 282, 283, 284, 33, 285, 91, 286, 287, 288, 45, 289, 111, 290, 291, 292, 49, 293, 122, 1017, 1018, 1019, 1020, 1021, 1022, 1023, 1024, 1025, 1026, 1027, 1058, 1059, 1060, 1061, 1062, 1063, 1064, 1065, 1066, 1067, 1068, 1069, 1070, 1071, 1072, 1073, 1074, 1075, 1076, 1077, 1078, 1079, 1080, 1081, 1082, 1088, 1089, 1090, 1091, 1092, 1093, 1094, 1095, 1096, 1097, 1098] (by decide +kernel) (by decide +kernel)
set_option maxRecDepth 20000 in
theorem gL_law_X9_valley : GoodIn wsL_law (wsV RL 18 RX9 yX9_valley wsX9_valley) := goodIn_app (goodIn_of _ (by decide +kernel)) ggL_law_X9_valley
set_option maxRecDepth 20000 in
theorem ggL_law_X10_valley : GoodIn wsL_law wsX10_valley := goodIn_r _ [297, 298, 299, 137, 138, 139, 140, 141, 167, 131, 132, 133, 134, 135, 136, 142, 300, 301, 302, 147, 303, 304, 305, 5, 306, 307, 308, 309, 310, 130, 311, 312, 313, 314, 315, 316, 317, 318, 319, 320, 321, 322, 323, 324, 325, 326, 327, 328, 329, 330, 169, 170, 171, 331, 332, 333, 334, 335, 336, 337, 338, 339, 340, 341, 342, 343, 344, 345, 346, 347, 348, 349, 350, 351, 352, 353, 1028, 1029, 1030, 1031, 1032, 1033, 1034, 1035, 1036, 1037, 1038, 1039, 1040, 1041, 1042, 1043, 1044, 1045, 1046, 1047, 1048, 1049, 1050, 1051, 1052, 1053, 1054, 1055, 1056, 1057] (by decide +kernel) (by decide +kernel)
set_option maxRecDepth 20000 in
theorem gL_law_X10_valley : GoodIn wsL_law (wsV RL 22 RX10 yX10_valley wsX10_valley) := goodIn_app (goodIn_of _ (by decide +kernel)) ggL_law_X10_valley
set_option maxRecDepth 20000 in
theorem ggL_law_X9_fault : GoodIn wsL_law wsX9_fault := goodIn_r _ [357, 18, 358, 1017, 1018, 1019, 1020, 1021, 1022, 1023, 1024, 1025, 1026, 1027, 1058, 1059, 1060, 1061, 1062, 1063] (by decide +kernel) (by decide +kernel)
set_option maxRecDepth 20000 in
theorem gL_law_X9_fault : GoodIn wsL_law (wsV RL 23 RX9 yX9_fault wsX9_fault) := goodIn_app (goodIn_of _ (by decide +kernel)) ggL_law_X9_fault
set_option maxRecDepth 20000 in
theorem ggL_law_X10_fault : GoodIn wsL_law wsX10_fault := goodIn_r _ [362, 131, 1028, 1029, 1030, 1031, 1032, 1033, 1034, 1035, 1036, 1037, 1038, 1039, 1040, 1041, 1042, 1043, 1044, 1045, 1046, 1047, 1048, 1049, 1050, 1051, 1052, 1053, 1054, 1055, 1056, 1057] (by decide +kernel) (by decide +kernel)
set_option maxRecDepth 20000 in
theorem gL_law_X10_fault : GoodIn wsL_law (wsV RL 26 RX10 yX10_fault wsX10_fault) := goodIn_app (goodIn_of _ (by decide +kernel)) ggL_law_X10_fault
set_option maxRecDepth 20000 in
theorem ggL_law_X9_told : GoodIn wsL_law wsX9_told := goodIn_r _ [366, 22, 367, 177, 368, 369, 14, 26, 46, 370, 50, 371, 30, 372, 157, 373, 374, 375, 25, 376, 80, 377, 378, 379, 380, 272, 381, 382, 383, 384, 385, 386, 387, 388, 389, 390, 391, 392, 393, 187, 184, 188, 394, 395, 396, 397, 398, 399, 400, 401, 402, 403, 404, 405, 21, 406, 73, 65, 407, 408, 409, 410, 74, 411, 412, 413, 414, 67, 1017, 1018, 1019, 1020, 1021, 1022, 1023, 1024, 1025, 1026, 1027, 1064, 1065, 1066, 1067, 1068, 1069, 1070, 1071, 1072, 1073, 1074, 1075, 1088, 1089, 1090, 1091, 1092, 1093, 1094, 1095, 1096, 1097, 1098, 1077, 1078, 1079, 1076] (by decide +kernel) (by decide +kernel)
set_option maxRecDepth 20000 in
theorem gL_law_X9_told : GoodIn wsL_law (wsV RL 27 RX9 yX9_told wsX9_told) := goodIn_app (goodIn_of _ (by decide +kernel)) ggL_law_X9_told
set_option maxRecDepth 20000 in
theorem ggL_law_X10_told : GoodIn wsL_law wsX10_told := goodIn_r _ [418, 132, 167, 142, 301, 302, 300, 166, 419, 420, 421, 5, 422, 423, 424, 425, 426, 427, 428, 429, 430, 136, 431, 432, 433, 434, 133, 435, 436, 437, 438, 439, 440, 441, 442, 134, 443, 444, 445, 446, 1028, 1029, 1030, 1031, 1032, 1033, 1034, 1035, 1036, 1037, 1038, 1039, 1040, 1041, 1042, 1043, 1044, 1045, 1046, 1047, 1048, 1049, 1050, 1051, 1052, 1053, 1054, 1055, 1056, 1057] (by decide +kernel) (by decide +kernel)
set_option maxRecDepth 20000 in
theorem gL_law_X10_told : GoodIn wsL_law (wsV RL 30 RX10 yX10_told wsX10_told) := goodIn_app (goodIn_of _ (by decide +kernel)) ggL_law_X10_told
set_option maxRecDepth 20000 in
theorem ggL_law_X9_winter : GoodIn wsL_law wsX9_winter := goodIn_r _ [450, 157, 22, 451, 159, 160, 2, 161, 452, 453, 454, 21, 455, 73, 456, 457, 458, 459, 65, 1017, 1018, 1019, 1020, 1021, 1022, 1023, 1024, 1025, 1026, 1027, 1064, 1065, 1066, 1067, 1068, 1069, 1070, 1071, 1072, 1073, 1074, 1075] (by decide +kernel) (by decide +kernel)
set_option maxRecDepth 20000 in
theorem gL_law_X9_winter : GoodIn wsL_law (wsV RL 31 RX9 yX9_winter wsX9_winter) := goodIn_app (goodIn_of _ (by decide +kernel)) ggL_law_X9_winter
set_option maxRecDepth 20000 in
theorem ggL_law_X10_winter : GoodIn wsL_law wsX10_winter := goodIn_r _ [463, 166, 133, 132, 464, 169, 170, 5, 171, 465, 466, 467, 468, 1028, 1029, 1030, 1031, 1032, 1033, 1034, 1035, 1036, 1037, 1038, 1039, 1040, 1041, 1042, 1043, 1044, 1045, 1046, 1047, 1048, 1049, 1050, 1051, 1052, 1053, 1054, 1055, 1056, 1057] (by decide +kernel) (by decide +kernel)
set_option maxRecDepth 20000 in
theorem gL_law_X10_winter : GoodIn wsL_law (wsV RL 34 RX10 yX10_winter wsX10_winter) := goodIn_app (goodIn_of _ (by decide +kernel)) ggL_law_X10_winter
set_option maxRecDepth 20000 in
theorem ggL_law_X9_village : GoodIn wsL_law wsX9_village := goodIn_r _ [472, 22, 473, 474, 475, 26, 476, 477, 183, 184, 185, 478, 157, 479, 480, 481, 21, 482, 74, 483, 484, 485, 25, 486, 80, 487, 488, 489, 490, 393, 187, 188, 491, 400, 401, 402, 492, 493, 494, 495, 1017, 1018, 1019, 1020, 1021, 1022, 1023, 1024, 1025, 1026, 1027, 1064, 1065, 1066, 1067, 1068, 1069, 1070, 1071, 1072, 1073, 1074, 1075, 1076] (by decide +kernel) (by decide +kernel)
set_option maxRecDepth 20000 in
theorem gL_law_X9_village : GoodIn wsL_law (wsV RL 35 RX9 yX9_village wsX9_village) := goodIn_app (goodIn_of _ (by decide +kernel)) ggL_law_X9_village
set_option maxRecDepth 20000 in
theorem ggL_law_X10_village : GoodIn wsL_law wsX10_village := goodIn_r _ [499, 500, 134, 142, 166, 501, 502, 503, 5, 504, 132, 169, 170, 171, 505, 506, 507, 508, 443, 444, 445, 446, 1028, 1029, 1030, 1031, 1032, 1033, 1034, 1035, 1036, 1037, 1038, 1039, 1040, 1041, 1042, 1043, 1044, 1045, 1046, 1047, 1048, 1049, 1050, 1051, 1052, 1053, 1054, 1055, 1056, 1057] (by decide +kernel) (by decide +kernel)
set_option maxRecDepth 20000 in
theorem gL_law_X10_village : GoodIn wsL_law (wsV RL 39 RX10 yX10_village wsX10_village) := goodIn_app (goodIn_of _ (by decide +kernel)) ggL_law_X10_village
set_option maxRecDepth 20000 in
theorem ggL_law_X9_person : GoodIn wsL_law wsX9_person := goodIn_r _ [512, 22, 473, 26, 157, 513, 514, 515, 21, 516, 75, 517, 518, 519, 25, 520, 80, 521, 522, 523, 524, 525, 526, 527, 528, 529, 530, 531, 532, 533, 534, 68, 1017, 1018, 1019, 1020, 1021, 1022, 1023, 1024, 1025, 1026, 1027, 1064, 1065, 1066, 1067, 1068, 1069, 1070, 1071, 1072, 1073, 1074, 1075, 1076] (by decide +kernel) (by decide +kernel)
set_option maxRecDepth 20000 in
theorem gL_law_X9_person : GoodIn wsL_law (wsV RL 40 RX9 yX9_person wsX9_person) := goodIn_app (goodIn_of _ (by decide +kernel)) ggL_law_X9_person
set_option maxRecDepth 20000 in
theorem ggL_law_X10_person : GoodIn wsL_law wsX10_person := goodIn_r _ [538, 500, 166, 142, 539, 540, 541, 5, 542, 132, 169, 170, 171, 543, 544, 545, 546, 134, 1028, 1029, 1030, 1031, 1032, 1033, 1034, 1035, 1036, 1037, 1038, 1039, 1040, 1041, 1042, 1043, 1044, 1045, 1046, 1047, 1048, 1049, 1050, 1051, 1052, 1053, 1054, 1055, 1056, 1057] (by decide +kernel) (by decide +kernel)
set_option maxRecDepth 20000 in
theorem gL_law_X10_person : GoodIn wsL_law (wsV RL 43 RX10 yX10_person wsX10_person) := goodIn_app (goodIn_of _ (by decide +kernel)) ggL_law_X10_person
set_option maxRecDepth 20000 in
theorem ggL_law_X9_debt : GoodIn wsL_law wsX9_debt := goodIn_r _ [550, 22, 473, 551, 26, 157, 552, 553, 554, 21, 555, 76, 556, 386, 387, 25, 388, 80, 557, 395, 396, 397, 398, 385, 399, 400, 401, 402, 558, 382, 383, 384, 389, 390, 391, 392, 393, 187, 184, 188, 394, 1017, 1018, 1019, 1020, 1021, 1022, 1023, 1024, 1025, 1026, 1027, 1064, 1065, 1066, 1067, 1068, 1069, 1070, 1071, 1072, 1073, 1074, 1075, 1076] (by decide +kernel) (by decide +kernel)
set_option maxRecDepth 20000 in
theorem gL_law_X9_debt : GoodIn wsL_law (wsV RL 44 RX9 yX9_debt wsX9_debt) := goodIn_app (goodIn_of _ (by decide +kernel)) ggL_law_X9_debt
set_option maxRecDepth 20000 in
theorem ggL_law_X10_debt : GoodIn wsL_law wsX10_debt := goodIn_r _ [562, 500, 136, 142, 166, 563, 564, 565, 5, 566, 132, 169, 170, 171, 427, 428, 429, 430, 423, 424, 425, 426, 1028, 1029, 1030, 1031, 1032, 1033, 1034, 1035, 1036, 1037, 1038, 1039, 1040, 1041, 1042, 1043, 1044, 1045, 1046, 1047, 1048, 1049, 1050, 1051, 1052, 1053, 1054, 1055, 1056, 1057] (by decide +kernel) (by decide +kernel)
set_option maxRecDepth 20000 in
theorem gL_law_X10_debt : GoodIn wsL_law (wsV RL 47 RX10 yX10_debt wsX10_debt) := goodIn_app (goodIn_of _ (by decide +kernel)) ggL_law_X10_debt
set_option maxRecDepth 20000 in
theorem ggL_law_X9_night : GoodIn wsL_law wsX9_night := goodIn_r _ [570, 30, 26, 22, 571, 572, 573, 2, 574, 157, 451, 158, 159, 160, 161, 452, 453, 454, 21, 455, 73, 373, 374, 375, 25, 376, 80, 575, 576, 577, 29, 578, 579, 85, 86, 580, 262, 263, 264, 84, 581, 183, 184, 185, 456, 457, 458, 459, 65, 582, 583, 584, 585, 586, 587, 588, 589, 590, 66, 591, 187, 188, 592, 412, 413, 414, 67, 593, 594, 595, 596, 269, 530, 518, 519, 520, 1017, 1018, 1019, 1020, 1021, 1022, 1023, 1024, 1025, 1026, 1027, 1064, 1065, 1066, 1067, 1068, 1069, 1070, 1071, 1072, 1073, 1074, 1075, 1076, 1077, 1078, 1079] (by decide +kernel) (by decide +kernel)
set_option maxRecDepth 20000 in
theorem gL_law_X9_night : GoodIn wsL_law (wsV RL 48 RX9 yX9_night wsX9_night) := goodIn_app (goodIn_of _ (by decide +kernel)) ggL_law_X9_night
set_option maxRecDepth 20000 in
theorem ggL_law_X10_night : GoodIn wsL_law wsX10_night := goodIn_r _ [600, 142, 601, 602, 603, 5, 604, 166, 464, 168, 169, 170, 171, 465, 466, 467, 468, 132, 605, 606, 607, 608, 300, 144, 351, 352, 353, 609, 610, 611, 612, 133, 613, 614, 615, 616, 617, 435, 436, 437, 438, 439, 440, 441, 442, 134, 443, 444, 445, 446, 1028, 1029, 1030, 1031, 1032, 1033, 1034, 1035, 1036, 1037, 1038, 1039, 1040, 1041, 1042, 1043, 1044, 1045, 1046, 1047, 1048, 1049, 1050, 1051, 1052, 1053, 1054, 1055, 1056, 1057] (by decide +kernel) (by decide +kernel)
set_option maxRecDepth 20000 in
theorem gL_law_X10_night : GoodIn wsL_law (wsV RL 51 RX10 yX10_night wsX10_night) := goodIn_app (goodIn_of _ (by decide +kernel)) ggL_law_X10_night
set_option maxRecDepth 20000 in
theorem ggL_law_X9_move : GoodIn wsL_law wsX9_move := goodIn_r _ [621, 22, 473, 30, 26, 513, 514, 515, 21, 516, 75, 479, 480, 481, 482, 74, 575, 576, 577, 29, 578, 579, 85, 86, 580, 262, 263, 264, 84, 581, 183, 184, 185, 622, 623, 624, 25, 625, 80, 525, 526, 527, 528, 529, 522, 523, 524, 530, 518, 519, 520, 531, 532, 533, 534, 68, 1017, 1018, 1019, 1020, 1021, 1022, 1023, 1024, 1025, 1026, 1027, 1064, 1065, 1066, 1067, 1068, 1069, 1070, 1071, 1072, 1073, 1074, 1075, 1076, 1077, 1078, 1079] (by decide +kernel) (by decide +kernel)
set_option maxRecDepth 20000 in
theorem gL_law_X9_move : GoodIn wsL_law (wsV RL 52 RX9 yX9_move wsX9_move) := goodIn_app (goodIn_of _ (by decide +kernel)) ggL_law_X9_move
set_option maxRecDepth 20000 in
theorem ggL_law_X10_move : GoodIn wsL_law wsX10_move := goodIn_r _ [629, 500, 142, 539, 540, 541, 5, 542, 132, 169, 170, 171, 501, 502, 503, 504, 605, 606, 607, 608, 300, 144, 351, 352, 353, 543, 544, 545, 546, 134, 1028, 1029, 1030, 1031, 1032, 1033, 1034, 1035, 1036, 1037, 1038, 1039, 1040, 1041, 1042, 1043, 1044, 1045, 1046, 1047, 1048, 1049, 1050, 1051, 1052, 1053, 1054, 1055, 1056, 1057] (by decide +kernel) (by decide +kernel)
set_option maxRecDepth 20000 in
theorem gL_law_X10_move : GoodIn wsL_law (wsV RL 55 RX10 yX10_move wsX10_move) := goodIn_app (goodIn_of _ (by decide +kernel)) ggL_law_X10_move
set_option maxRecDepth 20000 in
theorem ggL_law_X9_saw : GoodIn wsL_law wsX9_saw := goodIn_r _ [633, 22, 473, 157, 30, 26, 479, 480, 481, 21, 482, 74, 159, 160, 2, 161, 575, 576, 577, 29, 578, 579, 85, 86, 580, 262, 263, 264, 84, 581, 183, 184, 185, 634, 635, 636, 25, 637, 80, 487, 488, 489, 490, 393, 187, 188, 1017, 1018, 1019, 1020, 1021, 1022, 1023, 1024, 1025, 1026, 1027, 1064, 1065, 1066, 1067, 1068, 1069, 1070, 1071, 1072, 1073, 1074, 1075, 1076, 1077, 1078, 1079] (by decide +kernel) (by decide +kernel)
set_option maxRecDepth 20000 in
theorem gL_law_X9_saw : GoodIn wsL_law (wsV RL 56 RX9 yX9_saw wsX9_saw) := goodIn_app (goodIn_of _ (by decide +kernel)) ggL_law_X9_saw
set_option maxRecDepth 20000 in
theorem ggL_law_X10_saw : GoodIn wsL_law wsX10_saw := goodIn_r _ [641, 500, 166, 142, 501, 502, 503, 5, 504, 132, 169, 170, 171, 605, 606, 607, 608, 300, 144, 351, 352, 353, 505, 506, 507, 508, 1028, 1029, 1030, 1031, 1032, 1033, 1034, 1035, 1036, 1037, 1038, 1039, 1040, 1041, 1042, 1043, 1044, 1045, 1046, 1047, 1048, 1049, 1050, 1051, 1052, 1053, 1054, 1055, 1056, 1057] (by decide +kernel) (by decide +kernel)
set_option maxRecDepth 20000 in
theorem gL_law_X10_saw : GoodIn wsL_law (wsV RL 59 RX10 yX10_saw wsX10_saw) := goodIn_app (goodIn_of _ (by decide +kernel)) ggL_law_X10_saw
set_option maxRecDepth 20000 in
theorem ggL_law_X9_pay : GoodIn wsL_law wsX9_pay := goodIn_r _ [645, 22, 473, 26, 451, 30, 552, 553, 554, 21, 555, 76, 558, 382, 383, 25, 384, 385, 386, 387, 388, 80, 389, 390, 391, 392, 393, 187, 184, 188, 394, 395, 396, 397, 398, 399, 400, 401, 402, 575, 576, 577, 29, 578, 579, 85, 86, 580, 262, 263, 264, 84, 581, 183, 185, 557, 646, 647, 648, 649, 1017, 1018, 1019, 1020, 1021, 1022, 1023, 1024, 1025, 1026, 1027, 1064, 1065, 1066, 1067, 1068, 1069, 1070, 1071, 1072, 1073, 1074, 1075, 1076, 1077, 1078, 1079] (by decide +kernel) (by decide +kernel)
set_option maxRecDepth 20000 in
theorem gL_law_X9_pay : GoodIn wsL_law (wsV RL 60 RX9 yX9_pay wsX9_pay) := goodIn_app (goodIn_of _ (by decide +kernel)) ggL_law_X9_pay
set_option maxRecDepth 20000 in
theorem ggL_law_X10_pay : GoodIn wsL_law wsX10_pay := goodIn_r _ [653, 500, 142, 464, 563, 564, 565, 5, 566, 132, 169, 170, 171, 423, 424, 425, 426, 427, 428, 429, 430, 136, 605, 606, 607, 608, 300, 144, 351, 352, 353, 1028, 1029, 1030, 1031, 1032, 1033, 1034, 1035, 1036, 1037, 1038, 1039, 1040, 1041, 1042, 1043, 1044, 1045, 1046, 1047, 1048, 1049, 1050, 1051, 1052, 1053, 1054, 1055, 1056, 1057] (by decide +kernel) (by decide +kernel)
set_option maxRecDepth 20000 in
theorem gL_law_X10_pay : GoodIn wsL_law (wsV RL 63 RX10 yX10_pay wsX10_pay) := goodIn_app (goodIn_of _ (by decide +kernel)) ggL_law_X10_pay
set_option maxRecDepth 20000 in
theorem ggL_law_X9_lend : GoodIn wsL_law wsX9_lend := goodIn_r _ [657, 22, 473, 157, 26, 451, 30, 552, 553, 554, 21, 555, 76, 159, 160, 2, 161, 556, 386, 387, 25, 388, 80, 575, 576, 577, 29, 578, 579, 85, 86, 580, 262, 263, 264, 84, 581, 183, 184, 185, 658, 659, 660, 661, 398, 399, 400, 401, 402, 662, 663, 664, 665, 272, 385, 1017, 1018, 1019, 1020, 1021, 1022, 1023, 1024, 1025, 1026, 1027, 1064, 1065, 1066, 1067, 1068, 1069, 1070, 1071, 1072, 1073, 1074, 1075, 1076, 1077, 1078, 1079] (by decide +kernel) (by decide +kernel)
set_option maxRecDepth 20000 in
theorem gL_law_X9_lend : GoodIn wsL_law (wsV RL 64 RX9 yX9_lend wsX9_lend) := goodIn_app (goodIn_of _ (by decide +kernel)) ggL_law_X9_lend
set_option maxRecDepth 20000 in
theorem ggL_law_X10_lend : GoodIn wsL_law wsX10_lend := goodIn_r _ [669, 500, 166, 142, 464, 136, 132, 563, 564, 565, 5, 566, 169, 170, 171, 605, 606, 607, 608, 300, 144, 351, 352, 353, 1028, 1029, 1030, 1031, 1032, 1033, 1034, 1035, 1036, 1037, 1038, 1039, 1040, 1041, 1042, 1043, 1044, 1045, 1046, 1047, 1048, 1049, 1050, 1051, 1052, 1053, 1054, 1055, 1056, 1057] (by decide +kernel) (by decide +kernel)
set_option maxRecDepth 20000 in
theorem gL_law_X10_lend : GoodIn wsL_law (wsV RL 67 RX10 yX10_lend wsX10_lend) := goodIn_app (goodIn_of _ (by decide +kernel)) ggL_law_X10_lend
set_option maxRecDepth 20000 in
theorem ggL_law_X9_drift : GoodIn wsL_law wsX9_drift := goodIn_r _ [673, 30, 26, 571, 572, 573, 2, 574, 157, 22, 451, 158, 159, 160, 161, 452, 453, 454, 21, 455, 73, 373, 374, 375, 25, 376, 80, 575, 576, 577, 29, 578, 579, 85, 86, 580, 262, 263, 264, 84, 581, 183, 184, 185, 674, 675, 676, 677, 38, 177, 678, 679, 680, 37, 681, 97, 682, 683, 684, 582, 583, 584, 585, 586, 587, 588, 589, 590, 66, 591, 187, 188, 592, 412, 413, 414, 67, 593, 594, 595, 596, 269, 530, 518, 519, 520, 634, 635, 636, 637, 1017, 1018, 1019, 1020, 1021, 1022, 1023, 1024, 1025, 1026, 1027, 1064, 1065, 1066, 1067, 1068, 1069, 1070, 1071, 1072, 1073, 1074, 1075, 1076, 1077, 1078, 1079, 1083] (by decide +kernel) (by decide +kernel)
set_option maxRecDepth 20000 in
theorem gL_law_X9_drift : GoodIn wsL_law (wsV RL 68 RX9 yX9_drift wsX9_drift) := goodIn_app (goodIn_of _ (by decide +kernel)) ggL_law_X9_drift
set_option maxRecDepth 20000 in
theorem ggL_law_X10_drift : GoodIn wsL_law wsX10_drift := goodIn_r _ [688, 132, 142, 601, 602, 603, 5, 604, 166, 464, 168, 169, 170, 171, 465, 466, 467, 468, 605, 606, 607, 608, 300, 144, 351, 352, 353, 689, 690, 691, 692, 693, 694, 695, 696, 697, 613, 614, 615, 616, 617, 435, 436, 437, 438, 439, 440, 441, 442, 134, 443, 444, 445, 446, 1028, 1029, 1030, 1031, 1032, 1033, 1034, 1035, 1036, 1037, 1038, 1039, 1040, 1041, 1042, 1043, 1044, 1045, 1046, 1047, 1048, 1049, 1050, 1051, 1052, 1053, 1054, 1055, 1056, 1057] (by decide +kernel) (by decide +kernel)
set_option maxRecDepth 20000 in
theorem gL_law_X10_drift : GoodIn wsL_law (wsV RL 71 RX10 yX10_drift wsX10_drift) := goodIn_app (goodIn_of _ (by decide +kernel)) ggL_law_X10_drift
set_option maxRecDepth 20000 in
theorem ggL_law_X9_undo : GoodIn wsL_law wsX9_undo := goodIn_r _ [701, 30, 372, 451, 26, 702, 703, 704, 29, 705, 84, 86, 85, 579, 580, 262, 263, 264, 1017, 1018, 1019, 1020, 1021, 1022, 1023, 1024, 1025, 1026, 1027, 1077, 1078, 1079, 1076] (by decide +kernel) (by decide +kernel)
set_option maxRecDepth 20000 in
theorem gL_law_X9_undo : GoodIn wsL_law (wsV RL 72 RX9 yX9_undo wsX9_undo) := goodIn_app (goodIn_of _ (by decide +kernel)) ggL_law_X9_undo
set_option maxRecDepth 20000 in
theorem ggL_law_X10_undo : GoodIn wsL_law wsX10_undo := goodIn_r _ [709, 300, 464, 144, 142, 351, 352, 5, 353, 1028, 1029, 1030, 1031, 1032, 1033, 1034, 1035, 1036, 1037, 1038, 1039, 1040, 1041, 1042, 1043, 1044, 1045, 1046, 1047, 1048, 1049, 1050, 1051, 1052, 1053, 1054, 1055, 1056, 1057] (by decide +kernel) (by decide +kernel)
set_option maxRecDepth 20000 in
theorem gL_law_X10_undo : GoodIn wsL_law (wsV RL 75 RX10 yX10_undo wsX10_undo) := goodIn_app (goodIn_of _ (by decide +kernel)) ggL_law_X10_undo
set_option maxRecDepth 20000 in
theorem ggL_law_X9_due : GoodIn wsL_law wsX9_due := goodIn_r _ [713, 22, 473, 26, 451, 42, 552, 553, 554, 21, 555, 76, 556, 386, 387, 25, 388, 80, 714, 715, 716, 41, 717, 105, 718, 106, 719, 390, 391, 392, 393, 187, 184, 188, 385, 394, 395, 396, 397, 398, 399, 400, 401, 402, 720, 721, 722, 723, 724, 725, 374, 375, 376, 726, 457, 458, 459, 73, 65, 727, 588, 589, 590, 66, 591, 1017, 1018, 1019, 1020, 1021, 1022, 1023, 1024, 1025, 1026, 1027, 1064, 1065, 1066, 1067, 1068, 1069, 1070, 1071, 1072, 1073, 1074, 1075, 1076, 1084, 1085, 1086, 1087] (by decide +kernel) (by decide +kernel)
set_option maxRecDepth 20000 in
theorem gL_law_X9_due : GoodIn wsL_law (wsV RL 76 RX9 yX9_due wsX9_due) := goodIn_app (goodIn_of _ (by decide +kernel)) ggL_law_X9_due
set_option maxRecDepth 20000 in
theorem ggL_law_X10_due : GoodIn wsL_law wsX10_due := goodIn_r _ [731, 500, 142, 464, 143, 563, 564, 565, 5, 566, 132, 169, 170, 171, 732, 733, 734, 735, 351, 352, 353, 609, 610, 611, 612, 133, 613, 614, 615, 616, 617, 435, 436, 437, 438, 439, 440, 441, 442, 134, 443, 444, 445, 446, 423, 424, 425, 426, 427, 428, 429, 430, 136, 1028, 1029, 1030, 1031, 1032, 1033, 1034, 1035, 1036, 1037, 1038, 1039, 1040, 1041, 1042, 1043, 1044, 1045, 1046, 1047, 1048, 1049, 1050, 1051, 1052, 1053, 1054, 1055, 1056, 1057] (by decide +kernel) (by decide +kernel)
set_option maxRecDepth 20000 in
theorem gL_law_X10_due : GoodIn wsL_law (wsV RL 79 RX10 yX10_due wsX10_due) := goodIn_app (goodIn_of _ (by decide +kernel)) ggL_law_X10_due
set_option maxRecDepth 20000 in
theorem ggL_law_X9_old : GoodIn wsL_law wsX9_old := goodIn_r _ [739, 22, 473, 157, 42, 513, 514, 515, 21, 516, 75, 159, 160, 2, 161, 740, 741, 742, 41, 743, 106, 105, 744, 518, 519, 25, 520, 80, 745, 522, 523, 524, 720, 721, 722, 723, 724, 187, 184, 188, 725, 374, 375, 376, 726, 457, 458, 459, 73, 65, 746, 412, 413, 414, 67, 747, 532, 533, 534, 68, 1017, 1018, 1019, 1020, 1021, 1022, 1023, 1024, 1025, 1026, 1027, 1064, 1065, 1066, 1067, 1068, 1069, 1070, 1071, 1072, 1073, 1074, 1075, 1084, 1085, 1086, 1087, 1076] (by decide +kernel) (by decide +kernel)
set_option maxRecDepth 20000 in
theorem gL_law_X9_old : GoodIn wsL_law (wsV RL 80 RX9 yX9_old wsX9_old) := goodIn_app (goodIn_of _ (by decide +kernel)) ggL_law_X9_old
set_option maxRecDepth 20000 in
theorem ggL_law_X10_old : GoodIn wsL_law wsX10_old := goodIn_r _ [751, 500, 166, 143, 539, 540, 541, 5, 542, 132, 169, 170, 171, 732, 733, 734, 735, 142, 351, 352, 353, 609, 610, 611, 612, 133, 613, 614, 615, 616, 617, 435, 436, 437, 438, 439, 440, 441, 442, 134, 443, 444, 445, 446, 543, 544, 545, 546, 1028, 1029, 1030, 1031, 1032, 1033, 1034, 1035, 1036, 1037, 1038, 1039, 1040, 1041, 1042, 1043, 1044, 1045, 1046, 1047, 1048, 1049, 1050, 1051, 1052, 1053, 1054, 1055, 1056, 1057] (by decide +kernel) (by decide +kernel)
set_option maxRecDepth 20000 in
theorem gL_law_X10_old : GoodIn wsL_law (wsV RL 83 RX10 yX10_old wsX10_old) := goodIn_app (goodIn_of _ (by decide +kernel)) ggL_law_X10_old
set_option maxRecDepth 20000 in
theorem ggL_law_X9_feast : GoodIn wsL_law wsX9_feast := goodIn_r _ [755, 22, 473, 42, 479, 480, 481, 21, 482, 74, 756, 757, 758, 41, 759, 106, 105, 760, 484, 485, 25, 486, 80, 761, 762, 763, 764, 393, 187, 184, 188, 765, 766, 767, 768, 68, 769, 770, 771, 772, 720, 721, 722, 723, 724, 725, 374, 375, 376, 726, 457, 458, 459, 73, 65, 746, 412, 413, 414, 67, 1017, 1018, 1019, 1020, 1021, 1022, 1023, 1024, 1025, 1026, 1027, 1064, 1065, 1066, 1067, 1068, 1069, 1070, 1071, 1072, 1073, 1074, 1075, 1084, 1085, 1086, 1087, 1076] (by decide +kernel) (by decide +kernel)
set_option maxRecDepth 20000 in
theorem gL_law_X9_feast : GoodIn wsL_law (wsV RL 84 RX9 yX9_feast wsX9_feast) := goodIn_app (goodIn_of _ (by decide +kernel)) ggL_law_X9_feast
set_option maxRecDepth 20000 in
theorem ggL_law_X10_feast : GoodIn wsL_law wsX10_feast := goodIn_r _ [776, 500, 143, 134, 501, 502, 503, 5, 504, 132, 169, 170, 171, 732, 733, 734, 735, 142, 351, 352, 353, 609, 610, 611, 612, 133, 613, 614, 615, 616, 617, 435, 436, 437, 438, 439, 440, 441, 442, 443, 444, 445, 446, 505, 506, 507, 508, 1028, 1029, 1030, 1031, 1032, 1033, 1034, 1035, 1036, 1037, 1038, 1039, 1040, 1041, 1042, 1043, 1044, 1045, 1046, 1047, 1048, 1049, 1050, 1051, 1052, 1053, 1054, 1055, 1056, 1057] (by decide +kernel) (by decide +kernel)
set_option maxRecDepth 20000 in
theorem gL_law_X10_feast : GoodIn wsL_law (wsV RL 87 RX10 yX10_feast wsX10_feast) := goodIn_app (goodIn_of _ (by decide +kernel)) ggL_law_X10_feast
set_option maxRecDepth 20000 in
theorem ggL_law_X9_mild : GoodIn wsL_law wsX9_mild := goodIn_r _ [780, 22, 473, 157, 42, 513, 514, 515, 21, 516, 75, 159, 160, 2, 161, 740, 741, 742, 41, 743, 106, 105, 744, 518, 519, 25, 520, 80, 745, 522, 523, 524, 720, 721, 722, 723, 724, 187, 184, 188, 725, 374, 375, 376, 726, 457, 458, 459, 73, 65, 746, 412, 413, 414, 67, 747, 532, 533, 534, 68, 1017, 1018, 1019, 1020, 1021, 1022, 1023, 1024, 1025, 1026, 1027, 1064, 1065, 1066, 1067, 1068, 1069, 1070, 1071, 1072, 1073, 1074, 1075, 1084, 1085, 1086, 1087, 1076] (by decide +kernel) (by decide +kernel)
set_option maxRecDepth 20000 in
theorem gL_law_X9_mild : GoodIn wsL_law (wsV RL 88 RX9 yX9_mild wsX9_mild) := goodIn_app (goodIn_of _ (by decide +kernel)) ggL_law_X9_mild
set_option maxRecDepth 20000 in
theorem ggL_law_X10_mild : GoodIn wsL_law wsX10_mild := goodIn_r _ [784, 500, 166, 143, 539, 540, 541, 5, 542, 132, 169, 170, 171, 732, 733, 734, 735, 142, 351, 352, 353, 609, 610, 611, 612, 133, 613, 614, 615, 616, 617, 435, 436, 437, 438, 439, 440, 441, 442, 134, 443, 444, 445, 446, 543, 544, 545, 546, 1028, 1029, 1030, 1031, 1032, 1033, 1034, 1035, 1036, 1037, 1038, 1039, 1040, 1041, 1042, 1043, 1044, 1045, 1046, 1047, 1048, 1049, 1050, 1051, 1052, 1053, 1054, 1055, 1056, 1057] (by decide +kernel) (by decide +kernel)
set_option maxRecDepth 20000 in
theorem gL_law_X10_mild : GoodIn wsL_law (wsV RL 92 RX10 yX10_mild wsX10_mild) := goodIn_app (goodIn_of _ (by decide +kernel)) ggL_law_X10_mild
set_option maxRecDepth 20000 in
theorem ggL_law_X9_mildDebts : GoodIn wsL_law wsX9_mildDebts := goodIn_r _ [788, 157, 42, 159, 160, 2, 161, 789, 790, 791, 41, 792, 105, 793, 106, 794, 386, 387, 25, 388, 80, 795, 796, 797, 798, 718, 719, 390, 391, 392, 393, 187, 184, 188, 385, 394, 395, 396, 397, 398, 399, 400, 401, 402, 720, 721, 722, 723, 724, 725, 374, 375, 376, 726, 457, 458, 21, 459, 73, 65, 727, 588, 589, 590, 66, 591, 1017, 1018, 1019, 1020, 1021, 1022, 1023, 1024, 1025, 1026, 1027, 1084, 1085, 1086, 1087, 1064, 1065, 1066, 1067, 1068, 1069, 1070, 1071, 1072, 1073, 1074, 1075, 1076] (by decide +kernel) (by decide +kernel)
set_option maxRecDepth 20000 in
theorem gL_law_X9_mildDebts : GoodIn wsL_law (wsV RL 93 RX9 yX9_mildDebts wsX9_mildDebts) := goodIn_app (goodIn_of _ (by decide +kernel)) ggL_law_X9_mildDebts
set_option maxRecDepth 20000 in
theorem ggL_law_X10_mildDebts : GoodIn wsL_law wsX10_mildDebts := goodIn_r _ [802, 166, 143, 169, 170, 5, 171, 465, 466, 467, 468, 132, 732, 733, 734, 735, 142, 351, 352, 353, 609, 610, 611, 612, 133, 613, 614, 615, 616, 617, 435, 436, 437, 438, 439, 440, 441, 442, 134, 443, 444, 445, 446, 419, 420, 421, 422, 423, 424, 425, 426, 427, 428, 429, 430, 136, 1028, 1029, 1030, 1031, 1032, 1033, 1034, 1035, 1036, 1037, 1038, 1039, 1040, 1041, 1042, 1043, 1044, 1045, 1046, 1047, 1048, 1049, 1050, 1051, 1052, 1053, 1054, 1055, 1056, 1057] (by decide +kernel) (by decide +kernel)
set_option maxRecDepth 20000 in
theorem gL_law_X10_mildDebts : GoodIn wsL_law (wsV RL 96 RX10 yX10_mildDebts wsX10_mildDebts) := goodIn_app (goodIn_of _ (by decide +kernel)) ggL_law_X10_mildDebts
set_option maxRecDepth 20000 in
theorem ggL_law_X9_older : GoodIn wsL_law wsX9_older := goodIn_r _ [806, 22, 473, 26, 513, 514, 515, 21, 516, 75, 479, 480, 481, 482, 74, 521, 522, 523, 25, 524, 80, 807, 532, 533, 534, 68, 525, 526, 527, 528, 529, 530, 518, 519, 520, 531, 1017, 1018, 1019, 1020, 1021, 1022, 1023, 1024, 1025, 1026, 1027, 1064, 1065, 1066, 1067, 1068, 1069, 1070, 1071, 1072, 1073, 1074, 1075, 1076] (by decide +kernel) (by decide +kernel)
set_option maxRecDepth 20000 in
theorem gL_law_X9_older : GoodIn wsL_law (wsV RL 97 RX9 yX9_older wsX9_older) := goodIn_app (goodIn_of _ (by decide +kernel)) ggL_law_X9_older
set_option maxRecDepth 20000 in
theorem ggL_law_X10_older : GoodIn wsL_law wsX10_older := goodIn_r _ [811, 500, 142, 134, 539, 540, 541, 5, 542, 132, 169, 170, 171, 501, 502, 503, 504, 543, 544, 545, 546, 1028, 1029, 1030, 1031, 1032, 1033, 1034, 1035, 1036, 1037, 1038, 1039, 1040, 1041, 1042, 1043, 1044, 1045, 1046, 1047, 1048, 1049, 1050, 1051, 1052, 1053, 1054, 1055, 1056, 1057] (by decide +kernel) (by decide +kernel)
set_option maxRecDepth 20000 in
theorem gL_law_X10_older : GoodIn wsL_law (wsV RL 100 RX10 yX10_older wsX10_older) := goodIn_app (goodIn_of _ (by decide +kernel)) ggL_law_X10_older
set_option maxRecDepth 20000 in
theorem ggL_law_X9_chance : GoodIn wsL_law wsX9_chance := goodIn_r _ [815, 22, 473, 157, 26, 451, 42, 552, 553, 554, 21, 555, 76, 159, 160, 2, 161, 556, 386, 387, 25, 388, 80, 816, 817, 818, 41, 819, 102, 106, 105, 820, 718, 821, 275, 276, 277, 719, 390, 391, 392, 393, 187, 184, 188, 385, 394, 395, 396, 397, 398, 399, 400, 401, 402, 822, 823, 824, 825, 826, 827, 724, 727, 588, 589, 590, 66, 591, 1017, 1018, 1019, 1020, 1021, 1022, 1023, 1024, 1025, 1026, 1027, 1064, 1065, 1066, 1067, 1068, 1069, 1070, 1071, 1072, 1073, 1074, 1075, 1076, 1084, 1085, 1086, 1087] (by decide +kernel) (by decide +kernel)
set_option maxRecDepth 20000 in
theorem gL_law_X9_chance : GoodIn wsL_law (wsV RL 101 RX9 yX9_chance wsX9_chance) := goodIn_app (goodIn_of _ (by decide +kernel)) ggL_law_X9_chance
set_option maxRecDepth 20000 in
theorem ggL_law_X10_chance : GoodIn wsL_law wsX10_chance := goodIn_r _ [831, 500, 166, 142, 464, 150, 832, 151, 132, 133, 136, 563, 564, 565, 5, 566, 169, 170, 171, 427, 428, 429, 430, 439, 440, 441, 442, 134, 351, 352, 353, 1028, 1029, 1030, 1031, 1032, 1033, 1034, 1035, 1036, 1037, 1038, 1039, 1040, 1041, 1042, 1043, 1044, 1045, 1046, 1047, 1048, 1049, 1050, 1051, 1052, 1053, 1054, 1055, 1056, 1057] (by decide +kernel) (by decide +kernel)
set_option maxRecDepth 20000 in
theorem gL_law_X10_chance : GoodIn wsL_law (wsV RL 104 RX10 yX10_chance wsX10_chance) := goodIn_app (goodIn_of _ (by decide +kernel)) ggL_law_X10_chance
set_option maxRecDepth 20000 in
theorem ggL_law_X9_poles : GoodIn wsL_law wsX9_poles := goodIn_r _ [836, 42, 837, 838, 839, 41, 840, 105, 841, 104, 842, 843, 844, 845, 769, 770, 771, 772, 720, 721, 722, 723, 106, 724, 187, 184, 188, 725, 374, 375, 25, 376, 80, 726, 457, 458, 21, 459, 73, 65, 746, 412, 413, 414, 67, 846, 847, 848, 849, 1017, 1018, 1019, 1020, 1021, 1022, 1023, 1024, 1025, 1026, 1027, 1084, 1085, 1086, 1087, 1064, 1065, 1066, 1067, 1068, 1069, 1070, 1071, 1072, 1073, 1074, 1075, 1076] (by decide +kernel) (by decide +kernel)
set_option maxRecDepth 20000 in
theorem gL_law_X9_poles : GoodIn wsL_law (wsV RL 105 RX9 yX9_poles wsX9_poles) := goodIn_app (goodIn_of _ (by decide +kernel)) ggL_law_X9_poles
set_option maxRecDepth 20000 in
theorem ggL_law_X10_poles : GoodIn wsL_law wsX10_poles := goodIn_r _ [853, 132, 854, 855, 856, 5, 857, 133, 142, 435, 436, 437, 438, 439, 440, 441, 442, 134, 443, 444, 445, 446, 1028, 1029, 1030, 1031, 1032, 1033, 1034, 1035, 1036, 1037, 1038, 1039, 1040, 1041, 1042, 1043, 1044, 1045, 1046, 1047, 1048, 1049, 1050, 1051, 1052, 1053, 1054, 1055, 1056, 1057] (by decide +kernel) (by decide +kernel)
set_option maxRecDepth 20000 in
theorem gL_law_X10_poles : GoodIn wsL_law (wsV RL 108 RX10 yX10_poles wsX10_poles) := goodIn_app (goodIn_of _ (by decide +kernel)) ggL_law_X10_poles
set_option maxRecDepth 20000 in
theorem ggL_law_X9_longest : GoodIn wsL_law wsX9_longest := goodIn_r _ [861, 22, 42, 473, 479, 480, 481, 21, 482, 74, 862, 863, 864, 41, 865, 724, 187, 184, 188, 769, 770, 771, 772, 105, 720, 721, 722, 723, 106, 725, 374, 375, 25, 376, 80, 726, 457, 458, 459, 73, 65, 746, 412, 413, 414, 67, 1017, 1018, 1019, 1020, 1021, 1022, 1023, 1024, 1025, 1026, 1027, 1064, 1065, 1066, 1067, 1068, 1069, 1070, 1071, 1072, 1073, 1074, 1075, 1084, 1085, 1086, 1087, 1076] (by decide +kernel) (by decide +kernel)
set_option maxRecDepth 20000 in
theorem gL_law_X9_longest : GoodIn wsL_law (wsV RL 109 RX9 yX9_longest wsX9_longest) := goodIn_app (goodIn_of _ (by decide +kernel)) ggL_law_X9_longest
set_option maxRecDepth 20000 in
theorem ggL_law_X10_longest : GoodIn wsL_law wsX10_longest := goodIn_r _ [869, 500, 133, 142, 132, 501, 502, 503, 5, 504, 169, 170, 171, 435, 436, 437, 438, 439, 440, 441, 442, 134, 443, 444, 445, 446, 1028, 1029, 1030, 1031, 1032, 1033, 1034, 1035, 1036, 1037, 1038, 1039, 1040, 1041, 1042, 1043, 1044, 1045, 1046, 1047, 1048, 1049, 1050, 1051, 1052, 1053, 1054, 1055, 1056, 1057] (by decide +kernel) (by decide +kernel)
set_option maxRecDepth 20000 in
theorem gL_law_X10_longest : GoodIn wsL_law (wsV RL 112 RX10 yX10_longest wsX10_longest) := goodIn_app (goodIn_of _ (by decide +kernel)) ggL_law_X10_longest
set_option maxRecDepth 20000 in
theorem ggL_law_X9_say : GoodIn wsL_law wsX9_say := goodIn_r _ [873, 22, 473, 157, 46, 370, 158, 513, 514, 515, 21, 516, 75, 159, 160, 2, 161, 874, 875, 876, 45, 877, 111, 112, 113, 1017, 1018, 1019, 1020, 1021, 1022, 1023, 1024, 1025, 1026, 1027, 1088, 1089, 1090, 1091, 1092, 1093, 1094, 1064, 1065, 1066, 1067, 1068, 1069, 1070, 1071, 1072, 1073, 1074, 1075] (by decide +kernel) (by decide +kernel)
set_option maxRecDepth 20000 in
theorem gL_law_X9_say : GoodIn wsL_law (wsV RL 113 RX9 yX9_say wsX9_say) := goodIn_app (goodIn_of _ (by decide +kernel)) ggL_law_X9_say
set_option maxRecDepth 20000 in
theorem ggL_law_X10_say : GoodIn wsL_law wsX10_say := goodIn_r _ [881, 500, 166, 301, 168, 148, 539, 540, 541, 5, 542, 132, 169, 170, 171, 1028, 1029, 1030, 1031, 1032, 1033, 1034, 1035, 1036, 1037, 1038, 1039, 1040, 1041, 1042, 1043, 1044, 1045, 1046, 1047, 1048, 1049, 1050, 1051, 1052, 1053, 1054, 1055, 1056, 1057] (by decide +kernel) (by decide +kernel)
set_option maxRecDepth 20000 in
theorem gL_law_X10_say : GoodIn wsL_law (wsV RL 116 RX10 yX10_say wsX10_say) := goodIn_app (goodIn_of _ (by decide +kernel)) ggL_law_X10_say
set_option maxRecDepth 20000 in
theorem ggL_law_X9_sawn : GoodIn wsL_law wsX9_sawn := goodIn_r _ [885, 46, 886, 887, 888, 45, 889, 116, 890, 114, 891, 892, 893, 894, 111, 112, 113, 895, 896, 897, 898, 117, 899, 187, 184, 188, 900, 901, 518, 519, 25, 520, 80, 902, 484, 485, 486, 903, 488, 489, 490, 393, 904, 532, 533, 21, 534, 68, 905, 906, 907, 908, 909, 1017, 1018, 1019, 1020, 1021, 1022, 1023, 1024, 1025, 1026, 1027, 1088, 1089, 1090, 1091, 1092, 1093, 1094, 1064, 1065, 1066, 1067, 1068, 1069, 1070, 1071, 1072, 1073, 1074, 1075, 1076] (by decide +kernel) (by decide +kernel)
set_option maxRecDepth 20000 in
theorem gL_law_X9_sawn : GoodIn wsL_law (wsV RL 117 RX9 yX9_sawn wsX9_sawn) := goodIn_app (goodIn_of _ (by decide +kernel)) ggL_law_X9_sawn
set_option maxRecDepth 20000 in
theorem ggL_law_X10_sawn : GoodIn wsL_law wsX10_sawn := goodIn_r _ [913, 152, 914, 915, 916, 5, 917, 132, 301, 148, 918, 919, 920, 921, 142, 135, 134, 169, 170, 171, 1028, 1029, 1030, 1031, 1032, 1033, 1034, 1035, 1036, 1037, 1038, 1039, 1040, 1041, 1042, 1043, 1044, 1045, 1046, 1047, 1048, 1049, 1050, 1051, 1052, 1053, 1054, 1055, 1056, 1057] (by decide +kernel) (by decide +kernel)
set_option maxRecDepth 20000 in
theorem gL_law_X10_sawn : GoodIn wsL_law (wsV RL 120 RX10 yX10_sawn wsX10_sawn) := goodIn_app (goodIn_of _ (by decide +kernel)) ggL_law_X10_sawn
set_option maxRecDepth 20000 in
theorem ggL_law_X9_ask : GoodIn wsL_law wsX9_ask := goodIn_r _ [925, 46, 926, 927, 928, 45, 929, 116, 930, 909, 887, 888, 889, 890, 114, 891, 892, 893, 894, 111, 112, 113, 895, 896, 897, 898, 117, 899, 187, 184, 188, 900, 901, 518, 519, 25, 520, 80, 902, 484, 485, 486, 903, 488, 489, 490, 393, 904, 532, 533, 21, 534, 68, 931, 932, 933, 934, 115, 935, 936, 937, 938, 1017, 1018, 1019, 1020, 1021, 1022, 1023, 1024, 1025, 1026, 1027, 1088, 1089, 1090, 1091, 1092, 1093, 1094, 1064, 1065, 1066, 1067, 1068, 1069, 1070, 1071, 1072, 1073, 1074, 1075, 1076] (by decide +kernel) (by decide +kernel)
set_option maxRecDepth 20000 in
theorem gL_law_X9_ask : GoodIn wsL_law (wsV RL 121 RX9 yX9_ask wsX9_ask) := goodIn_app (goodIn_of _ (by decide +kernel)) ggL_law_X9_ask
set_option maxRecDepth 20000 in
theorem ggL_law_X10_ask : GoodIn wsL_law wsX10_ask := goodIn_r _ [942, 132, 152, 914, 915, 916, 5, 917, 301, 148, 918, 919, 920, 921, 142, 135, 134, 1028, 1029, 1030, 1031, 1032, 1033, 1034, 1035, 1036, 1037, 1038, 1039, 1040, 1041, 1042, 1043, 1044, 1045, 1046, 1047, 1048, 1049, 1050, 1051, 1052, 1053, 1054, 1055, 1056, 1057] (by decide +kernel) (by decide +kernel)
set_option maxRecDepth 20000 in
theorem gL_law_X10_ask : GoodIn wsL_law (wsV RL 124 RX10 yX10_ask wsX10_ask) := goodIn_app (goodIn_of _ (by decide +kernel)) ggL_law_X10_ask
set_option maxRecDepth 20000 in
theorem ggL_law_X9_write : GoodIn wsL_law wsX9_write := goodIn_r _ [946, 22, 473, 157, 50, 371, 158, 479, 480, 481, 21, 482, 74, 159, 160, 2, 161, 947, 948, 949, 49, 950, 122, 123, 124, 1017, 1018, 1019, 1020, 1021, 1022, 1023, 1024, 1025, 1026, 1027, 1095, 1096, 1097, 1098, 1064, 1065, 1066, 1067, 1068, 1069, 1070, 1071, 1072, 1073, 1074, 1075] (by decide +kernel) (by decide +kernel)
set_option maxRecDepth 20000 in
theorem gL_law_X9_write : GoodIn wsL_law (wsV RL 125 RX9 yX9_write wsX9_write) := goodIn_app (goodIn_of _ (by decide +kernel)) ggL_law_X9_write
set_option maxRecDepth 20000 in
theorem ggL_law_X10_write : GoodIn wsL_law wsX10_write := goodIn_r _ [954, 500, 166, 302, 168, 149, 501, 502, 503, 5, 504, 132, 169, 170, 171, 1028, 1029, 1030, 1031, 1032, 1033, 1034, 1035, 1036, 1037, 1038, 1039, 1040, 1041, 1042, 1043, 1044, 1045, 1046, 1047, 1048, 1049, 1050, 1051, 1052, 1053, 1054, 1055, 1056, 1057] (by decide +kernel) (by decide +kernel)
set_option maxRecDepth 20000 in
theorem gL_law_X10_write : GoodIn wsL_law (wsV RL 128 RX10 yX10_write wsX10_write) := goodIn_app (goodIn_of _ (by decide +kernel)) ggL_law_X10_write
set_option maxRecDepth 20000 in
theorem ggL_law_X9_tear : GoodIn wsL_law wsX9_tear := goodIn_r _ [958, 46, 370, 50, 371, 286, 287, 288, 45, 289, 111, 290, 291, 292, 49, 293, 122, 1017, 1018, 1019, 1020, 1021, 1022, 1023, 1024, 1025, 1026, 1027, 1088, 1089, 1090, 1091, 1092, 1093, 1094, 1095, 1096, 1097, 1098] (by decide +kernel) (by decide +kernel)
set_option maxRecDepth 20000 in
theorem gL_law_X9_tear : GoodIn wsL_law (wsV RL 129 RX9 yX9_tear wsX9_tear) := goodIn_app (goodIn_of _ (by decide +kernel)) ggL_law_X9_tear
set_option maxRecDepth 20000 in
theorem ggL_law_X10_tear : GoodIn wsL_law wsX10_tear := goodIn_r _ [962, 301, 302, 1028, 1029, 1030, 1031, 1032, 1033, 1034, 1035, 1036, 1037, 1038, 1039, 1040, 1041, 1042, 1043, 1044, 1045, 1046, 1047, 1048, 1049, 1050, 1051, 1052, 1053, 1054, 1055, 1056, 1057] (by decide +kernel) (by decide +kernel)
set_option maxRecDepth 20000 in
theorem gL_law_X10_tear : GoodIn wsL_law (wsV RL 132 RX10 yX10_tear wsX10_tear) := goodIn_app (goodIn_of _ (by decide +kernel)) ggL_law_X10_tear
set_option maxRecDepth 20000 in
theorem ggL_law_X9_judge : GoodIn wsL_law wsX9_judge := goodIn_r _ [966, 50, 967, 968, 969, 49, 970, 122, 125, 123, 124, 971, 488, 489, 25, 490, 80, 393, 187, 184, 188, 1017, 1018, 1019, 1020, 1021, 1022, 1023, 1024, 1025, 1026, 1027, 1095, 1096, 1097, 1098, 1076] (by decide +kernel) (by decide +kernel)
set_option maxRecDepth 20000 in
theorem gL_law_X9_judge : GoodIn wsL_law (wsV RL 133 RX9 yX9_judge wsX9_judge) := goodIn_app (goodIn_of _ (by decide +kernel)) ggL_law_X9_judge
set_option maxRecDepth 20000 in
theorem ggL_law_X10_judge : GoodIn wsL_law wsX10_judge := goodIn_r _ [975, 302, 142, 149, 505, 506, 507, 5, 508, 1028, 1029, 1030, 1031, 1032, 1033, 1034, 1035, 1036, 1037, 1038, 1039, 1040, 1041, 1042, 1043, 1044, 1045, 1046, 1047, 1048, 1049, 1050, 1051, 1052, 1053, 1054, 1055, 1056, 1057] (by decide +kernel) (by decide +kernel)
set_option maxRecDepth 20000 in
theorem gL_law_X10_judge : GoodIn wsL_law (wsV RL 136 RX10 yX10_judge wsX10_judge) := goodIn_app (goodIn_of _ (by decide +kernel)) ggL_law_X10_judge
set_option maxRecDepth 20000 in
theorem ggL_law_X9_seed : GoodIn wsL_law wsX9_seed := goodIn_r _ [979, 157, 38, 980, 1017, 1018, 1019, 1020, 1021, 1022, 1023, 1024, 1025, 1026, 1027, 1083] (by decide +kernel) (by decide +kernel)
set_option maxRecDepth 20000 in
theorem gL_law_X9_seed : GoodIn wsL_law (wsV RL 137 RX9 yX9_seed wsX9_seed) := goodIn_app (goodIn_of _ (by decide +kernel)) ggL_law_X9_seed
set_option maxRecDepth 20000 in
theorem ggL_law_X10_seed : GoodIn wsL_law wsX10_seed := goodIn_r _ [984, 166, 693, 1028, 1029, 1030, 1031, 1032, 1033, 1034, 1035, 1036, 1037, 1038, 1039, 1040, 1041, 1042, 1043, 1044, 1045, 1046, 1047, 1048, 1049, 1050, 1051, 1052, 1053, 1054, 1055, 1056, 1057] (by decide +kernel) (by decide +kernel)
set_option maxRecDepth 20000 in
theorem gL_law_X10_seed : GoodIn wsL_law (wsV RL 140 RX10 yX10_seed wsX10_seed) := goodIn_app (goodIn_of _ (by decide +kernel)) ggL_law_X10_seed
set_option maxRecDepth 20000 in
theorem ggL_law_X9_keep : GoodIn wsL_law wsX9_keep := goodIn_r _ [988, 34, 473, 26, 38, 980, 30, 989, 990, 991, 33, 992, 993, 994, 995, 996, 997, 93, 998, 262, 263, 264, 92, 91, 278, 279, 280, 29, 281, 84, 86, 1017, 1018, 1019, 1020, 1021, 1022, 1023, 1024, 1025, 1026, 1027, 1083, 1076, 1080, 1081, 1082, 1077, 1078, 1079] (by decide +kernel) (by decide +kernel)
set_option maxRecDepth 20000 in
theorem gL_law_X9_keep : GoodIn wsL_law (wsV RL 141 RX9 yX9_keep wsX9_keep) := goodIn_app (goodIn_of _ (by decide +kernel)) ggL_law_X9_keep
set_option maxRecDepth 20000 in
theorem ggL_law_X10_keep : GoodIn wsL_law wsX10_keep := goodIn_r _ [1002, 500, 142, 145, 146, 693, 147, 300, 169, 170, 5, 171, 351, 352, 353, 1028, 1029, 1030, 1031, 1032, 1033, 1034, 1035, 1036, 1037, 1038, 1039, 1040, 1041, 1042, 1043, 1044, 1045, 1046, 1047, 1048, 1049, 1050, 1051, 1052, 1053, 1054, 1055, 1056, 1057] (by decide +kernel) (by decide +kernel)
set_option maxRecDepth 20000 in
theorem gL_law_X10_keep : GoodIn wsL_law (wsV RL 144 RX10 yX10_keep wsX10_keep) := goodIn_app (goodIn_of _ (by decide +kernel)) ggL_law_X10_keep
set_option maxRecDepth 20000 in
theorem ggL_law_X9_goBack : GoodIn wsL_law wsX9_goBack := goodIn_r _ [1006, 34, 473, 1007, 451, 26, 38, 1008, 980, 30, 989, 990, 991, 33, 992, 1009, 1010, 1011, 1012, 93, 997, 998, 262, 263, 264, 278, 279, 280, 29, 281, 84, 86, 1017, 1018, 1019, 1020, 1021, 1022, 1023, 1024, 1025, 1026, 1027, 1080, 1081, 1082, 1083, 1076, 1077, 1078, 1079] (by decide +kernel) (by decide +kernel)
set_option maxRecDepth 20000 in
theorem gL_law_X9_goBack : GoodIn wsL_law (wsV RL 145 RX9 yX9_goBack wsX9_goBack) := goodIn_app (goodIn_of _ (by decide +kernel)) ggL_law_X9_goBack
set_option maxRecDepth 20000 in
theorem ggL_law_X10_goBack : GoodIn wsL_law wsX10_goBack := goodIn_r _ [1016, 500, 147, 464, 145, 142, 146, 693, 300, 169, 170, 5, 171, 351, 352, 353, 1028, 1029, 1030, 1031, 1032, 1033, 1034, 1035, 1036, 1037, 1038, 1039, 1040, 1041, 1042, 1043, 1044, 1045, 1046, 1047, 1048, 1049, 1050, 1051, 1052, 1053, 1054, 1055, 1056, 1057] (by decide +kernel) (by decide +kernel)
set_option maxRecDepth 20000 in
theorem gL_law_X10_goBack : GoodIn wsL_law (wsV RL 148 RX10 yX10_goBack wsX10_goBack) := goodIn_app (goodIn_of _ (by decide +kernel)) ggL_law_X10_goBack
theorem dL_law_0 : decode cL_law 0 = .ok (.new 7, 3) := by decide +kernel
theorem dL_law_3 : decode cL_law 3 = .ok (.dup, 1) := by decide +kernel
theorem dL_law_4 : decode cL_law 4 = .ok (.invokespecial 9, 3) := by decide +kernel
theorem dL_law_7 : decode cL_law 7 = .ok (.astore_n 1, 1) := by decide +kernel
theorem dL_law_8 : decode cL_law 8 = .ok (.new 10, 3) := by decide +kernel
theorem dL_law_11 : decode cL_law 11 = .ok (.dup, 1) := by decide +kernel
theorem dL_law_12 : decode cL_law 12 = .ok (.invokespecial 12, 3) := by decide +kernel
theorem dL_law_15 : decode cL_law 15 = .ok (.astore_n 2, 1) := by decide +kernel
theorem dL_law_16 : decode cL_law 16 = .ok (.iconst 0, 1) := by decide +kernel
theorem dL_law_17 : decode cL_law 17 = .ok (.istore_n 3, 1) := by decide +kernel
theorem dL_law_18 : decode cL_law 18 = .ok (.iload_n 3, 1) := by decide +kernel
theorem dL_law_19 : decode cL_law 19 = .ok (.aload_n 0, 1) := by decide +kernel
theorem dL_law_20 : decode cL_law 20 = .ok (.arraylength, 1) := by decide +kernel
theorem dL_law_21 : decode cL_law 21 = .ok (.iconst 4, 1) := by decide +kernel
theorem dL_law_22 : decode cL_law 22 = .ok (.isub, 1) := by decide +kernel
theorem dL_law_23 : decode cL_law 23 = .ok (.if_icmp .gt 1002, 3) := by decide +kernel
theorem dL_law_26 : decode cL_law 26 = .ok (.aload_n 0, 1) := by decide +kernel
theorem dL_law_27 : decode cL_law 27 = .ok (.iload_n 3, 1) := by decide +kernel
theorem dL_law_28 : decode cL_law 28 = .ok (.iaload, 1) := by decide +kernel
theorem dL_law_29 : decode cL_law 29 = .ok (.bipush 63, 2) := by decide +kernel
theorem dL_law_31 : decode cL_law 31 = .ok (.iand, 1) := by decide +kernel
theorem dL_law_32 : decode cL_law 32 = .ok (.tableswitch 987 0 32 #[148, 171, 184, 197, 220, 243, 276, 309, 342, 365, 398, 431, 454, 487, 510, 523, 546, 579, 612, 655, 688, 721, 754, 767, 790, 823, 846, 859, 892, 905, 918, 941, 964], 148) := by decide +kernel
theorem dL_law_180 : decode cL_law 180 = .ok (.aload_n 1, 1) := by decide +kernel
theorem dL_law_181 : decode cL_law 181 = .ok (.aload_n 0, 1) := by decide +kernel
theorem dL_law_182 : decode cL_law 182 = .ok (.iload_n 3, 1) := by decide +kernel
theorem dL_law_183 : decode cL_law 183 = .ok (.iconst 1, 1) := by decide +kernel
theorem dL_law_184 : decode cL_law 184 = .ok (.iadd, 1) := by decide +kernel
theorem dL_law_185 : decode cL_law 185 = .ok (.iaload, 1) := by decide +kernel
theorem dL_law_186 : decode cL_law 186 = .ok (.invokevirtual 13, 3) := by decide +kernel
theorem dL_law_189 : decode cL_law 189 = .ok (.aload_n 2, 1) := by decide +kernel
theorem dL_law_190 : decode cL_law 190 = .ok (.aload_n 0, 1) := by decide +kernel
theorem dL_law_191 : decode cL_law 191 = .ok (.iload_n 3, 1) := by decide +kernel
theorem dL_law_192 : decode cL_law 192 = .ok (.iconst 1, 1) := by decide +kernel
theorem dL_law_193 : decode cL_law 193 = .ok (.iadd, 1) := by decide +kernel
theorem dL_law_194 : decode cL_law 194 = .ok (.iaload, 1) := by decide +kernel
theorem dL_law_195 : decode cL_law 195 = .ok (.invokevirtual 17, 3) := by decide +kernel
theorem dL_law_198 : decode cL_law 198 = .ok (.if_icmp .eq 821, 3) := by decide +kernel
theorem dL_law_201 : decode cL_law 201 = .ok (.iconst 0, 1) := by decide +kernel
theorem dL_law_202 : decode cL_law 202 = .ok (.ireturn, 1) := by decide +kernel
theorem dL_law_203 : decode cL_law 203 = .ok (.aload_n 1, 1) := by decide +kernel
theorem dL_law_204 : decode cL_law 204 = .ok (.invokevirtual 18, 3) := by decide +kernel
theorem dL_law_207 : decode cL_law 207 = .ok (.aload_n 2, 1) := by decide +kernel
theorem dL_law_208 : decode cL_law 208 = .ok (.invokevirtual 22, 3) := by decide +kernel
theorem dL_law_211 : decode cL_law 211 = .ok (.if_icmp .eq 808, 3) := by decide +kernel
theorem dL_law_214 : decode cL_law 214 = .ok (.iconst 0, 1) := by decide +kernel
theorem dL_law_215 : decode cL_law 215 = .ok (.ireturn, 1) := by decide +kernel
theorem dL_law_216 : decode cL_law 216 = .ok (.aload_n 1, 1) := by decide +kernel
theorem dL_law_217 : decode cL_law 217 = .ok (.invokevirtual 23, 3) := by decide +kernel
theorem dL_law_220 : decode cL_law 220 = .ok (.aload_n 2, 1) := by decide +kernel
theorem dL_law_221 : decode cL_law 221 = .ok (.invokevirtual 26, 3) := by decide +kernel
theorem dL_law_224 : decode cL_law 224 = .ok (.if_icmp .eq 795, 3) := by decide +kernel
theorem dL_law_227 : decode cL_law 227 = .ok (.iconst 0, 1) := by decide +kernel
theorem dL_law_228 : decode cL_law 228 = .ok (.ireturn, 1) := by decide +kernel
theorem dL_law_229 : decode cL_law 229 = .ok (.aload_n 1, 1) := by decide +kernel
theorem dL_law_230 : decode cL_law 230 = .ok (.aload_n 0, 1) := by decide +kernel
theorem dL_law_231 : decode cL_law 231 = .ok (.iload_n 3, 1) := by decide +kernel
theorem dL_law_232 : decode cL_law 232 = .ok (.iconst 1, 1) := by decide +kernel
theorem dL_law_233 : decode cL_law 233 = .ok (.iadd, 1) := by decide +kernel
theorem dL_law_234 : decode cL_law 234 = .ok (.iaload, 1) := by decide +kernel
theorem dL_law_235 : decode cL_law 235 = .ok (.invokevirtual 27, 3) := by decide +kernel
theorem dL_law_238 : decode cL_law 238 = .ok (.aload_n 2, 1) := by decide +kernel
theorem dL_law_239 : decode cL_law 239 = .ok (.aload_n 0, 1) := by decide +kernel
theorem dL_law_240 : decode cL_law 240 = .ok (.iload_n 3, 1) := by decide +kernel
theorem dL_law_241 : decode cL_law 241 = .ok (.iconst 1, 1) := by decide +kernel
theorem dL_law_242 : decode cL_law 242 = .ok (.iadd, 1) := by decide +kernel
theorem dL_law_243 : decode cL_law 243 = .ok (.iaload, 1) := by decide +kernel
theorem dL_law_244 : decode cL_law 244 = .ok (.invokevirtual 30, 3) := by decide +kernel
theorem dL_law_247 : decode cL_law 247 = .ok (.if_icmp .eq 772, 3) := by decide +kernel
theorem dL_law_250 : decode cL_law 250 = .ok (.iconst 0, 1) := by decide +kernel
theorem dL_law_251 : decode cL_law 251 = .ok (.ireturn, 1) := by decide +kernel
theorem dL_law_252 : decode cL_law 252 = .ok (.aload_n 1, 1) := by decide +kernel
theorem dL_law_253 : decode cL_law 253 = .ok (.aload_n 0, 1) := by decide +kernel
theorem dL_law_254 : decode cL_law 254 = .ok (.iload_n 3, 1) := by decide +kernel
theorem dL_law_255 : decode cL_law 255 = .ok (.iconst 1, 1) := by decide +kernel
theorem dL_law_256 : decode cL_law 256 = .ok (.iadd, 1) := by decide +kernel
theorem dL_law_257 : decode cL_law 257 = .ok (.iaload, 1) := by decide +kernel
theorem dL_law_258 : decode cL_law 258 = .ok (.invokevirtual 31, 3) := by decide +kernel
theorem dL_law_261 : decode cL_law 261 = .ok (.aload_n 2, 1) := by decide +kernel
theorem dL_law_262 : decode cL_law 262 = .ok (.aload_n 0, 1) := by decide +kernel
theorem dL_law_263 : decode cL_law 263 = .ok (.iload_n 3, 1) := by decide +kernel
theorem dL_law_264 : decode cL_law 264 = .ok (.iconst 1, 1) := by decide +kernel
theorem dL_law_265 : decode cL_law 265 = .ok (.iadd, 1) := by decide +kernel
theorem dL_law_266 : decode cL_law 266 = .ok (.iaload, 1) := by decide +kernel
theorem dL_law_267 : decode cL_law 267 = .ok (.invokevirtual 34, 3) := by decide +kernel
theorem dL_law_270 : decode cL_law 270 = .ok (.if_icmp .eq 749, 3) := by decide +kernel
theorem dL_law_273 : decode cL_law 273 = .ok (.iconst 0, 1) := by decide +kernel
theorem dL_law_274 : decode cL_law 274 = .ok (.ireturn, 1) := by decide +kernel
theorem dL_law_275 : decode cL_law 275 = .ok (.aload_n 1, 1) := by decide +kernel
theorem dL_law_276 : decode cL_law 276 = .ok (.aload_n 0, 1) := by decide +kernel
theorem dL_law_277 : decode cL_law 277 = .ok (.iload_n 3, 1) := by decide +kernel
theorem dL_law_278 : decode cL_law 278 = .ok (.iconst 1, 1) := by decide +kernel
theorem dL_law_279 : decode cL_law 279 = .ok (.iadd, 1) := by decide +kernel
theorem dL_law_280 : decode cL_law 280 = .ok (.iaload, 1) := by decide +kernel
theorem dL_law_281 : decode cL_law 281 = .ok (.aload_n 0, 1) := by decide +kernel
theorem dL_law_282 : decode cL_law 282 = .ok (.iload_n 3, 1) := by decide +kernel
theorem dL_law_283 : decode cL_law 283 = .ok (.iconst 2, 1) := by decide +kernel
theorem dL_law_284 : decode cL_law 284 = .ok (.iadd, 1) := by decide +kernel
theorem dL_law_285 : decode cL_law 285 = .ok (.iaload, 1) := by decide +kernel
theorem dL_law_286 : decode cL_law 286 = .ok (.invokevirtual 35, 3) := by decide +kernel
theorem dL_law_289 : decode cL_law 289 = .ok (.aload_n 2, 1) := by decide +kernel
theorem dL_law_290 : decode cL_law 290 = .ok (.aload_n 0, 1) := by decide +kernel
theorem dL_law_291 : decode cL_law 291 = .ok (.iload_n 3, 1) := by decide +kernel
theorem dL_law_292 : decode cL_law 292 = .ok (.iconst 1, 1) := by decide +kernel
theorem dL_law_293 : decode cL_law 293 = .ok (.iadd, 1) := by decide +kernel
theorem dL_law_294 : decode cL_law 294 = .ok (.iaload, 1) := by decide +kernel
theorem dL_law_295 : decode cL_law 295 = .ok (.aload_n 0, 1) := by decide +kernel
theorem dL_law_296 : decode cL_law 296 = .ok (.iload_n 3, 1) := by decide +kernel
theorem dL_law_297 : decode cL_law 297 = .ok (.iconst 2, 1) := by decide +kernel
theorem dL_law_298 : decode cL_law 298 = .ok (.iadd, 1) := by decide +kernel
theorem dL_law_299 : decode cL_law 299 = .ok (.iaload, 1) := by decide +kernel
theorem dL_law_300 : decode cL_law 300 = .ok (.invokevirtual 39, 3) := by decide +kernel
theorem dL_law_303 : decode cL_law 303 = .ok (.if_icmp .eq 716, 3) := by decide +kernel
theorem dL_law_306 : decode cL_law 306 = .ok (.iconst 0, 1) := by decide +kernel
theorem dL_law_307 : decode cL_law 307 = .ok (.ireturn, 1) := by decide +kernel
