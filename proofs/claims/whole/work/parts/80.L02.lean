set_option maxRecDepth 20000 in
theorem ggL_law_X7_purse : GoodIn wsL_law wsX7_purse := goodIn_r _ [488, 489, 434, 435, 5, 436, 401, 142, 143, 144, 477, 478, 479, 480, 114, 1051, 1052, 1053, 1054, 1055, 1056, 1057, 1058, 1059, 1060, 1061, 1062, 1063, 1064, 1065, 1066, 1067, 1068, 1069, 1070, 1071, 1072, 1073, 1074, 1075, 1076, 1077, 1078, 1079, 1080, 1081, 1082, 1083, 1084] (by decide +kernel) (by decide +kernel)
set_option maxRecDepth 20000 in
theorem gL_law_X7_purse : GoodIn wsL_law (wsV RL 60 RX7 yX7_purse wsX7_purse) := goodIn_app (goodIn_of _ (by decide +kernel)) ggL_law_X7_purse
set_option maxRecDepth 20000 in
theorem ggL_law_X6_grant : GoodIn wsL_law wsX6_grant := goodIn_r _ [493, 15, 391, 14, 392, 393, 45, 131, 2, 132, 414, 415, 416, 130, 469, 470, 471, 1040, 1041, 1042, 1043, 1044, 1045, 1046, 1047, 1048, 1049, 1050, 1085, 1086, 1087, 1088, 1089, 1090, 1091, 1092, 1093, 1094, 1095, 1096, 1097] (by decide +kernel) (by decide +kernel)
set_option maxRecDepth 20000 in
theorem gL_law_X6_grant : GoodIn wsL_law (wsV RL 61 RX6 yX6_grant wsX6_grant) := goodIn_app (goodIn_of _ (by decide +kernel)) ggL_law_X6_grant
set_option maxRecDepth 20000 in
theorem ggL_law_X7_grant : GoodIn wsL_law wsX7_grant := goodIn_r _ [497, 498, 402, 403, 404, 5, 405, 300, 142, 143, 144, 434, 435, 436, 401, 477, 478, 479, 480, 114, 1051, 1052, 1053, 1054, 1055, 1056, 1057, 1058, 1059, 1060, 1061, 1062, 1063, 1064, 1065, 1066, 1067, 1068, 1069, 1070, 1071, 1072, 1073, 1074, 1075, 1076, 1077, 1078, 1079, 1080, 1081, 1082, 1083, 1084] (by decide +kernel) (by decide +kernel)
set_option maxRecDepth 20000 in
theorem gL_law_X7_grant : GoodIn wsL_law (wsV RL 64 RX7 yX7_grant wsX7_grant) := goodIn_app (goodIn_of _ (by decide +kernel)) ggL_law_X7_grant
set_option maxRecDepth 20000 in
theorem ggL_law_X6_plan : GoodIn wsL_law wsX6_plan := goodIn_r _ [502, 15, 503, 14, 504, 505, 415, 2, 416, 130, 131, 132, 506, 391, 392, 393, 45, 277, 278, 279, 47, 54, 55, 56, 57, 1040, 1041, 1042, 1043, 1044, 1045, 1046, 1047, 1048, 1049, 1050, 1085, 1086, 1087, 1088, 1089, 1090, 1091, 1092, 1093, 1094, 1095, 1096, 1097] (by decide +kernel) (by decide +kernel)
set_option maxRecDepth 20000 in
theorem gL_law_X6_plan : GoodIn wsL_law (wsV RL 65 RX6 yX6_plan wsX6_plan) := goodIn_app (goodIn_of _ (by decide +kernel)) ggL_law_X6_plan
set_option maxRecDepth 20000 in
theorem ggL_law_X7_plan : GoodIn wsL_law wsX7_plan := goodIn_r _ [510, 114, 511, 512, 513, 5, 514, 476, 434, 435, 436, 401, 142, 143, 144, 402, 403, 404, 405, 300, 1051, 1052, 1053, 1054, 1055, 1056, 1057, 1058, 1059, 1060, 1061, 1062, 1063, 1064, 1065, 1066, 1067, 1068, 1069, 1070, 1071, 1072, 1073, 1074, 1075, 1076, 1077, 1078, 1079, 1080, 1081, 1082, 1083, 1084] (by decide +kernel) (by decide +kernel)
set_option maxRecDepth 20000 in
theorem gL_law_X7_plan : GoodIn wsL_law (wsV RL 69 RX7 yX7_plan wsX7_plan) := goodIn_app (goodIn_of _ (by decide +kernel)) ggL_law_X7_plan
set_option maxRecDepth 20000 in
theorem ggL_law_X6_cut : GoodIn wsL_law wsX6_cut := goodIn_r _ [518, 15, 130, 131, 2, 132, 1040, 1041, 1042, 1043, 1044, 1045, 1046, 1047, 1048, 1049, 1050, 1085, 1086, 1087, 1088, 1089, 1090, 1091, 1092, 1093, 1094, 1095, 1096, 1097] (by decide +kernel) (by decide +kernel)
set_option maxRecDepth 20000 in
theorem gL_law_X6_cut : GoodIn wsL_law (wsV RL 70 RX6 yX6_cut wsX6_cut) := goodIn_app (goodIn_of _ (by decide +kernel)) ggL_law_X6_cut
set_option maxRecDepth 20000 in
theorem ggL_law_X7_cut : GoodIn wsL_law wsX7_cut := goodIn_r _ [522, 114, 142, 143, 5, 144, 477, 478, 479, 480, 1051, 1052, 1053, 1054, 1055, 1056, 1057, 1058, 1059, 1060, 1061, 1062, 1063, 1064, 1065, 1066, 1067, 1068, 1069, 1070, 1071, 1072, 1073, 1074, 1075, 1076, 1077, 1078, 1079, 1080, 1081, 1082, 1083, 1084] (by decide +kernel) (by decide +kernel)
set_option maxRecDepth 20000 in
theorem gL_law_X7_cut : GoodIn wsL_law (wsV RL 73 RX7 yX7_cut wsX7_cut) := goodIn_app (goodIn_of _ (by decide +kernel)) ggL_law_X7_cut
set_option maxRecDepth 20000 in
theorem ggL_law_X6_buy : GoodIn wsL_law wsX6_buy := goodIn_r _ [526, 15, 503, 14, 504, 505, 415, 2, 416, 130, 131, 132, 506, 391, 392, 393, 45, 527, 528, 529, 50, 52, 530, 531, 532, 533, 367, 368, 369, 370, 51, 534, 535, 536, 537, 538, 539, 540, 1040, 1041, 1042, 1043, 1044, 1045, 1046, 1047, 1048, 1049, 1050, 1085, 1086, 1087, 1088, 1089, 1090, 1091, 1092, 1093, 1094, 1095, 1096, 1097] (by decide +kernel) (by decide +kernel)
set_option maxRecDepth 20000 in
theorem gL_law_X6_buy : GoodIn wsL_law (wsV RL 74 RX6 yX6_buy wsX6_buy) := goodIn_app (goodIn_of _ (by decide +kernel)) ggL_law_X6_buy
set_option maxRecDepth 20000 in
theorem ggL_law_X7_buy : GoodIn wsL_law wsX7_buy := goodIn_r _ [544, 545, 546, 547, 5, 548, 511, 512, 513, 514, 476, 434, 435, 436, 401, 142, 143, 144, 402, 403, 404, 405, 300, 549, 550, 551, 552, 114, 375, 376, 377, 378, 553, 554, 555, 556, 383, 384, 385, 386, 1051, 1052, 1053, 1054, 1055, 1056, 1057, 1058, 1059, 1060, 1061, 1062, 1063, 1064, 1065, 1066, 1067, 1068, 1069, 1070, 1071, 1072, 1073, 1074, 1075, 1076, 1077, 1078, 1079, 1080, 1081, 1082, 1083, 1084] (by decide +kernel) (by decide +kernel)
set_option maxRecDepth 20000 in
theorem gL_law_X7_buy : GoodIn wsL_law (wsV RL 77 RX7 yX7_buy wsX7_buy) := goodIn_app (goodIn_of _ (by decide +kernel)) ggL_law_X7_buy
set_option maxRecDepth 20000 in
theorem ggL_law_X6_pluck : GoodIn wsL_law wsX6_pluck := goodIn_r _ [560, 15, 503, 14, 504, 505, 415, 2, 416, 130, 131, 132, 506, 391, 392, 393, 45, 531, 532, 533, 367, 368, 369, 370, 51, 538, 539, 540, 1040, 1041, 1042, 1043, 1044, 1045, 1046, 1047, 1048, 1049, 1050, 1085, 1086, 1087, 1088, 1089, 1090, 1091, 1092, 1093, 1094, 1095, 1096, 1097] (by decide +kernel) (by decide +kernel)
set_option maxRecDepth 20000 in
theorem gL_law_X6_pluck : GoodIn wsL_law (wsV RL 78 RX6 yX6_pluck wsX6_pluck) := goodIn_app (goodIn_of _ (by decide +kernel)) ggL_law_X6_pluck
set_option maxRecDepth 20000 in
theorem ggL_law_X7_pluck : GoodIn wsL_law wsX7_pluck := goodIn_r _ [564, 511, 512, 513, 5, 514, 476, 434, 435, 436, 401, 142, 143, 144, 402, 403, 404, 405, 300, 553, 554, 555, 556, 114, 383, 384, 385, 386, 1051, 1052, 1053, 1054, 1055, 1056, 1057, 1058, 1059, 1060, 1061, 1062, 1063, 1064, 1065, 1066, 1067, 1068, 1069, 1070, 1071, 1072, 1073, 1074, 1075, 1076, 1077, 1078, 1079, 1080, 1081, 1082, 1083, 1084] (by decide +kernel) (by decide +kernel)
set_option maxRecDepth 20000 in
theorem gL_law_X7_pluck : GoodIn wsL_law (wsV RL 81 RX7 yX7_pluck wsX7_pluck) := goodIn_app (goodIn_of _ (by decide +kernel)) ggL_law_X7_pluck
set_option maxRecDepth 20000 in
theorem ggL_law_X6_weeks : GoodIn wsL_law wsX6_weeks := goodIn_r _ [568, 15, 130, 131, 2, 132, 569, 14, 570, 571, 572, 573, 574, 575, 45, 53, 46, 428, 394, 395, 396, 49, 367, 368, 369, 370, 51, 576, 577, 578, 579, 48, 580, 581, 582, 583, 584, 585, 586, 587, 588, 589, 1040, 1041, 1042, 1043, 1044, 1045, 1046, 1047, 1048, 1049, 1050, 1085, 1086, 1087, 1088, 1089, 1090, 1091, 1092, 1093, 1094, 1095, 1096, 1097] (by decide +kernel) (by decide +kernel)
set_option maxRecDepth 20000 in
theorem gL_law_X6_weeks : GoodIn wsL_law (wsV RL 82 RX6 yX6_weeks wsX6_weeks) := goodIn_app (goodIn_of _ (by decide +kernel)) ggL_law_X6_weeks
set_option maxRecDepth 20000 in
theorem ggL_law_X7_weeks : GoodIn wsL_law wsX7_weeks := goodIn_r _ [593, 594, 114, 142, 143, 5, 144, 595, 596, 597, 598, 300, 406, 407, 408, 409, 383, 384, 385, 386, 379, 380, 381, 382, 599, 600, 601, 602, 603, 604, 605, 1051, 1052, 1053, 1054, 1055, 1056, 1057, 1058, 1059, 1060, 1061, 1062, 1063, 1064, 1065, 1066, 1067, 1068, 1069, 1070, 1071, 1072, 1073, 1074, 1075, 1076, 1077, 1078, 1079, 1080, 1081, 1082, 1083, 1084] (by decide +kernel) (by decide +kernel)
set_option maxRecDepth 20000 in
theorem gL_law_X7_weeks : GoodIn wsL_law (wsV RL 85 RX7 yX7_weeks wsX7_weeks) := goodIn_app (goodIn_of _ (by decide +kernel)) ggL_law_X7_weeks
set_option maxRecDepth 20000 in
theorem ggL_law_X6_runs : GoodIn wsL_law wsX6_runs := goodIn_r _ [609, 16, 15, 130, 131, 2, 132, 280, 14, 281, 282, 45, 46, 47, 48, 283, 284, 285, 286, 49, 50, 51, 52, 53, 54, 55, 56, 57, 610, 611, 612, 613, 614, 615, 616, 617, 503, 504, 505, 415, 416, 506, 391, 392, 393, 618, 527, 528, 529, 530, 531, 532, 533, 367, 368, 369, 370, 619, 534, 535, 536, 537, 538, 539, 540, 620, 621, 622, 1040, 1041, 1042, 1043, 1044, 1045, 1046, 1047, 1048, 1049, 1050, 1085, 1086, 1087, 1088, 1089, 1090, 1091, 1092, 1093, 1094, 1095, 1096, 1097] (by decide +kernel) (by decide +kernel)
set_option maxRecDepth 20000 in
theorem gL_law_X6_runs : GoodIn wsL_law (wsV RL 86 RX6 yX6_runs wsX6_runs) := goodIn_app (goodIn_of _ (by decide +kernel)) ggL_law_X6_runs
set_option maxRecDepth 20000 in
theorem ggL_law_X7_runs : GoodIn wsL_law wsX7_runs := goodIn_r _ [626, 627, 628, 629, 630, 142, 143, 5, 144, 631, 632, 633, 634, 114, 635, 636, 637, 638, 549, 550, 551, 552, 375, 376, 377, 378, 553, 554, 555, 556, 383, 384, 385, 386, 1051, 1052, 1053, 1054, 1055, 1056, 1057, 1058, 1059, 1060, 1061, 1062, 1063, 1064, 1065, 1066, 1067, 1068, 1069, 1070, 1071, 1072, 1073, 1074, 1075, 1076, 1077, 1078, 1079, 1080, 1081, 1082, 1083, 1084] (by decide +kernel) (by decide +kernel)
set_option maxRecDepth 20000 in
theorem gL_law_X7_runs : GoodIn wsL_law (wsV RL 89 RX7 yX7_runs wsX7_runs) := goodIn_app (goodIn_of _ (by decide +kernel)) ggL_law_X7_runs
set_option maxRecDepth 20000 in
theorem ggL_law_X6_ahead : GoodIn wsL_law wsX6_ahead := goodIn_r _ [642, 16, 15, 414, 415, 2, 416, 130, 131, 132, 280, 14, 281, 282, 45, 46, 47, 48, 283, 284, 285, 286, 49, 50, 51, 52, 53, 54, 55, 56, 57, 643, 644, 645, 646, 610, 611, 612, 613, 614, 615, 616, 617, 503, 504, 505, 506, 391, 392, 393, 618, 527, 528, 529, 530, 531, 532, 533, 367, 368, 369, 370, 619, 534, 535, 536, 537, 538, 539, 540, 417, 418, 419, 420, 421, 422, 423, 424, 425, 426, 427, 428, 394, 395, 396, 1040, 1041, 1042, 1043, 1044, 1045, 1046, 1047, 1048, 1049, 1050, 1085, 1086, 1087, 1088, 1089, 1090, 1091, 1092, 1093, 1094, 1095, 1096, 1097] (by decide +kernel) (by decide +kernel)
set_option maxRecDepth 20000 in
theorem gL_law_X6_ahead : GoodIn wsL_law (wsV RL 90 RX6 yX6_ahead wsX6_ahead) := goodIn_app (goodIn_of _ (by decide +kernel)) ggL_law_X6_ahead
set_option maxRecDepth 20000 in
theorem ggL_law_X7_ahead : GoodIn wsL_law wsX7_ahead := goodIn_r _ [650, 433, 434, 435, 5, 436, 401, 142, 143, 144, 631, 632, 633, 634, 628, 629, 630, 114, 635, 636, 637, 638, 549, 550, 551, 552, 375, 376, 377, 378, 553, 554, 555, 556, 383, 384, 385, 386, 437, 438, 439, 440, 441, 442, 443, 444, 300, 445, 446, 447, 448, 406, 407, 408, 409, 379, 380, 381, 382, 1051, 1052, 1053, 1054, 1055, 1056, 1057, 1058, 1059, 1060, 1061, 1062, 1063, 1064, 1065, 1066, 1067, 1068, 1069, 1070, 1071, 1072, 1073, 1074, 1075, 1076, 1077, 1078, 1079, 1080, 1081, 1082, 1083, 1084] (by decide +kernel) (by decide +kernel)
set_option maxRecDepth 20000 in
theorem gL_law_X7_ahead : GoodIn wsL_law (wsV RL 93 RX7 yX7_ahead wsX7_ahead) := goodIn_app (goodIn_of _ (by decide +kernel)) ggL_law_X7_ahead
set_option maxRecDepth 20000 in
theorem ggL_law_X6_later : GoodIn wsL_law wsX6_later := goodIn_r _ [654, 15, 16, 391, 14, 392, 393, 45, 131, 2, 132, 414, 415, 416, 130, 280, 281, 282, 46, 47, 48, 283, 284, 285, 286, 49, 50, 51, 52, 53, 54, 55, 56, 57, 569, 570, 571, 572, 573, 574, 575, 428, 394, 395, 396, 367, 368, 369, 370, 576, 577, 578, 579, 580, 581, 582, 583, 584, 585, 586, 587, 588, 589, 1040, 1041, 1042, 1043, 1044, 1045, 1046, 1047, 1048, 1049, 1050, 1085, 1086, 1087, 1088, 1089, 1090, 1091, 1092, 1093, 1094, 1095, 1096, 1097] (by decide +kernel) (by decide +kernel)
set_option maxRecDepth 20000 in
theorem gL_law_X6_later : GoodIn wsL_law (wsV RL 94 RX6 yX6_later wsX6_later) := goodIn_app (goodIn_of _ (by decide +kernel)) ggL_law_X6_later
set_option maxRecDepth 20000 in
theorem ggL_law_X7_later : GoodIn wsL_law wsX7_later := goodIn_r _ [658, 659, 402, 403, 404, 5, 405, 300, 142, 143, 144, 434, 435, 436, 401, 660, 661, 662, 663, 635, 636, 637, 638, 114, 595, 596, 597, 598, 406, 407, 408, 409, 383, 384, 385, 386, 379, 380, 381, 382, 599, 600, 601, 602, 603, 604, 605, 1051, 1052, 1053, 1054, 1055, 1056, 1057, 1058, 1059, 1060, 1061, 1062, 1063, 1064, 1065, 1066, 1067, 1068, 1069, 1070, 1071, 1072, 1073, 1074, 1075, 1076, 1077, 1078, 1079, 1080, 1081, 1082, 1083, 1084] (by decide +kernel) (by decide +kernel)
set_option maxRecDepth 20000 in
theorem gL_law_X7_later : GoodIn wsL_law (wsV RL 97 RX7 yX7_later wsX7_later) := goodIn_app (goodIn_of _ (by decide +kernel)) ggL_law_X7_later
set_option maxRecDepth 20000 in
theorem ggL_law_X6_eggs : GoodIn wsL_law wsX6_eggs := goodIn_r _ [667, 16, 15, 414, 415, 2, 416, 130, 131, 132, 280, 14, 281, 282, 45, 46, 47, 48, 283, 284, 285, 286, 49, 50, 51, 52, 53, 54, 55, 56, 57, 569, 570, 571, 572, 573, 574, 575, 428, 394, 395, 396, 367, 368, 369, 370, 576, 577, 578, 579, 580, 581, 582, 583, 584, 585, 586, 587, 588, 589, 1040, 1041, 1042, 1043, 1044, 1045, 1046, 1047, 1048, 1049, 1050, 1085, 1086, 1087, 1088, 1089, 1090, 1091, 1092, 1093, 1094, 1095, 1096, 1097] (by decide +kernel) (by decide +kernel)
set_option maxRecDepth 20000 in
theorem gL_law_X6_eggs : GoodIn wsL_law (wsV RL 98 RX6 yX6_eggs wsX6_eggs) := goodIn_app (goodIn_of _ (by decide +kernel)) ggL_law_X6_eggs
set_option maxRecDepth 20000 in
theorem ggL_law_X7_eggs : GoodIn wsL_law wsX7_eggs := goodIn_r _ [671, 659, 114, 434, 435, 5, 436, 401, 142, 143, 144, 660, 661, 662, 663, 635, 636, 637, 638, 595, 596, 597, 598, 300, 406, 407, 408, 409, 383, 384, 385, 386, 379, 380, 381, 382, 599, 600, 601, 602, 603, 604, 605, 1051, 1052, 1053, 1054, 1055, 1056, 1057, 1058, 1059, 1060, 1061, 1062, 1063, 1064, 1065, 1066, 1067, 1068, 1069, 1070, 1071, 1072, 1073, 1074, 1075, 1076, 1077, 1078, 1079, 1080, 1081, 1082, 1083, 1084] (by decide +kernel) (by decide +kernel)
set_option maxRecDepth 20000 in
theorem gL_law_X7_eggs : GoodIn wsL_law (wsV RL 101 RX7 yX7_eggs wsX7_eggs) := goodIn_app (goodIn_of _ (by decide +kernel)) ggL_law_X7_eggs
set_option maxRecDepth 20000 in
theorem ggL_law_X6_bare : GoodIn wsL_law wsX6_bare := goodIn_r _ [675, 15, 16, 391, 14, 392, 393, 45, 131, 2, 132, 130, 280, 281, 282, 46, 47, 48, 283, 284, 285, 286, 49, 50, 51, 52, 53, 54, 55, 56, 57, 364, 365, 366, 367, 368, 369, 370, 573, 574, 575, 428, 394, 395, 396, 576, 577, 578, 579, 580, 581, 582, 583, 584, 585, 586, 587, 588, 589, 1040, 1041, 1042, 1043, 1044, 1045, 1046, 1047, 1048, 1049, 1050, 1085, 1086, 1087, 1088, 1089, 1090, 1091, 1092, 1093, 1094, 1095, 1096, 1097] (by decide +kernel) (by decide +kernel)
set_option maxRecDepth 20000 in
theorem gL_law_X6_bare : GoodIn wsL_law (wsV RL 102 RX6 yX6_bare wsX6_bare) := goodIn_app (goodIn_of _ (by decide +kernel)) ggL_law_X6_bare
set_option maxRecDepth 20000 in
theorem ggL_law_X7_bare : GoodIn wsL_law wsX7_bare := goodIn_r _ [679, 680, 402, 403, 404, 5, 405, 300, 142, 143, 144, 635, 636, 637, 638, 114, 379, 380, 381, 382, 383, 384, 385, 386, 595, 596, 597, 598, 406, 407, 408, 409, 599, 600, 601, 602, 603, 604, 605, 1051, 1052, 1053, 1054, 1055, 1056, 1057, 1058, 1059, 1060, 1061, 1062, 1063, 1064, 1065, 1066, 1067, 1068, 1069, 1070, 1071, 1072, 1073, 1074, 1075, 1076, 1077, 1078, 1079, 1080, 1081, 1082, 1083, 1084] (by decide +kernel) (by decide +kernel)
set_option maxRecDepth 20000 in
theorem gL_law_X7_bare : GoodIn wsL_law (wsV RL 105 RX7 yX7_bare wsX7_bare) := goodIn_app (goodIn_of _ (by decide +kernel)) ggL_law_X7_bare
