set_option maxRecDepth 20000 in
theorem ggL_law_X6_rich : GoodIn wsL_law wsX6_rich := goodIn_r _ [684, 16, 15, 130, 131, 2, 132, 280, 14, 281, 282, 45, 46, 47, 48, 283, 284, 285, 286, 49, 50, 51, 52, 53, 54, 55, 56, 57, 569, 570, 571, 572, 573, 574, 575, 428, 394, 395, 396, 367, 368, 369, 370, 576, 577, 578, 579, 580, 581, 582, 583, 584, 585, 586, 587, 588, 589, 421, 422, 423, 1040, 1041, 1042, 1043, 1044, 1045, 1046, 1047, 1048, 1049, 1050, 1085, 1086, 1087, 1088, 1089, 1090, 1091, 1092, 1093, 1094, 1095, 1096, 1097] (by decide +kernel) (by decide +kernel)
set_option maxRecDepth 20000 in
theorem gL_law_X6_rich : GoodIn wsL_law (wsV RL 106 RX6 yX6_rich wsX6_rich) := goodIn_app (goodIn_of _ (by decide +kernel)) ggL_law_X6_rich
set_option maxRecDepth 20000 in
theorem ggL_law_X7_rich : GoodIn wsL_law wsX7_rich := goodIn_r _ [688, 659, 142, 143, 5, 144, 660, 661, 662, 663, 635, 636, 637, 638, 114, 595, 596, 597, 598, 300, 406, 407, 408, 409, 383, 384, 385, 386, 379, 380, 381, 382, 599, 600, 601, 602, 603, 604, 605, 441, 442, 443, 444, 375, 376, 377, 378, 1051, 1052, 1053, 1054, 1055, 1056, 1057, 1058, 1059, 1060, 1061, 1062, 1063, 1064, 1065, 1066, 1067, 1068, 1069, 1070, 1071, 1072, 1073, 1074, 1075, 1076, 1077, 1078, 1079, 1080, 1081, 1082, 1083, 1084] (by decide +kernel) (by decide +kernel)
set_option maxRecDepth 20000 in
theorem gL_law_X7_rich : GoodIn wsL_law (wsV RL 109 RX7 yX7_rich wsX7_rich) := goodIn_app (goodIn_of _ (by decide +kernel)) ggL_law_X7_rich
set_option maxRecDepth 20000 in
theorem ggL_law_X6_turn : GoodIn wsL_law wsX6_turn := goodIn_r _ [692, 15, 16, 391, 14, 392, 393, 45, 131, 2, 132, 394, 395, 396, 49, 367, 368, 369, 370, 51, 280, 281, 282, 46, 47, 48, 283, 284, 285, 286, 50, 52, 53, 54, 55, 56, 57, 573, 574, 575, 428, 576, 577, 578, 579, 580, 581, 582, 583, 584, 585, 586, 587, 588, 589, 1040, 1041, 1042, 1043, 1044, 1045, 1046, 1047, 1048, 1049, 1050, 1085, 1086, 1087, 1088, 1089, 1090, 1091, 1092, 1093, 1094, 1095, 1096, 1097] (by decide +kernel) (by decide +kernel)
set_option maxRecDepth 20000 in
theorem gL_law_X6_turn : GoodIn wsL_law (wsV RL 110 RX6 yX6_turn wsX6_turn) := goodIn_app (goodIn_of _ (by decide +kernel)) ggL_law_X6_turn
set_option maxRecDepth 20000 in
theorem ggL_law_X7_turn : GoodIn wsL_law wsX7_turn := goodIn_r _ [696, 402, 403, 404, 5, 405, 300, 142, 143, 144, 406, 407, 408, 409, 114, 383, 384, 385, 386, 379, 380, 381, 382, 635, 636, 637, 638, 595, 596, 597, 598, 599, 600, 601, 602, 603, 604, 605, 1051, 1052, 1053, 1054, 1055, 1056, 1057, 1058, 1059, 1060, 1061, 1062, 1063, 1064, 1065, 1066, 1067, 1068, 1069, 1070, 1071, 1072, 1073, 1074, 1075, 1076, 1077, 1078, 1079, 1080, 1081, 1082, 1083, 1084] (by decide +kernel) (by decide +kernel)
set_option maxRecDepth 20000 in
theorem gL_law_X7_turn : GoodIn wsL_law (wsV RL 113 RX7 yX7_turn wsX7_turn) := goodIn_app (goodIn_of _ (by decide +kernel)) ggL_law_X7_turn
set_option maxRecDepth 20000 in
theorem ggL_law_X6_need : GoodIn wsL_law wsX6_need := goodIn_r _ [700, 15, 16, 414, 415, 2, 416, 130, 131, 132, 391, 14, 392, 393, 45, 394, 395, 396, 49, 367, 368, 369, 370, 51, 280, 281, 282, 46, 47, 48, 283, 284, 285, 286, 50, 52, 53, 54, 55, 56, 57, 527, 528, 529, 530, 531, 532, 533, 701, 702, 703, 537, 538, 539, 540, 428, 1040, 1041, 1042, 1043, 1044, 1045, 1046, 1047, 1048, 1049, 1050, 1085, 1086, 1087, 1088, 1089, 1090, 1091, 1092, 1093, 1094, 1095, 1096, 1097] (by decide +kernel) (by decide +kernel)
set_option maxRecDepth 20000 in
theorem gL_law_X6_need : GoodIn wsL_law (wsV RL 114 RX6 yX6_need wsX6_need) := goodIn_app (goodIn_of _ (by decide +kernel)) ggL_law_X6_need
set_option maxRecDepth 20000 in
theorem ggL_law_X7_need : GoodIn wsL_law wsX7_need := goodIn_r _ [707, 114, 434, 435, 5, 436, 401, 142, 143, 144, 402, 403, 404, 405, 300, 406, 407, 408, 409, 383, 384, 385, 386, 379, 380, 381, 382, 635, 636, 637, 638, 549, 550, 551, 552, 375, 376, 377, 378, 553, 554, 555, 556, 1051, 1052, 1053, 1054, 1055, 1056, 1057, 1058, 1059, 1060, 1061, 1062, 1063, 1064, 1065, 1066, 1067, 1068, 1069, 1070, 1071, 1072, 1073, 1074, 1075, 1076, 1077, 1078, 1079, 1080, 1081, 1082, 1083, 1084] (by decide +kernel) (by decide +kernel)
set_option maxRecDepth 20000 in
theorem gL_law_X7_need : GoodIn wsL_law (wsV RL 117 RX7 yX7_need wsX7_need) := goodIn_app (goodIn_of _ (by decide +kernel)) ggL_law_X7_need
set_option maxRecDepth 20000 in
theorem ggL_law_X6_best : GoodIn wsL_law wsX6_best := goodIn_r _ [711, 36, 15, 414, 415, 2, 416, 130, 131, 132, 712, 35, 713, 714, 94, 97, 98, 99, 100, 101, 102, 96, 95, 280, 14, 281, 282, 45, 46, 47, 48, 283, 284, 285, 286, 49, 50, 51, 52, 53, 54, 55, 56, 57, 425, 426, 427, 428, 394, 395, 396, 367, 368, 369, 370, 715, 716, 717, 718, 719, 720, 721, 722, 723, 724, 725, 527, 528, 529, 530, 531, 532, 533, 726, 727, 728, 729, 730, 731, 732, 733, 734, 735, 736, 737, 738, 534, 535, 536, 537, 538, 539, 540, 739, 740, 741, 742, 743, 744, 745, 746, 747, 748, 749, 750, 1040, 1041, 1042, 1043, 1044, 1045, 1046, 1047, 1048, 1049, 1050, 1116, 1117, 1118, 1119, 1120, 1121, 1122, 1123, 1124, 1085, 1086, 1087, 1088, 1089, 1090, 1091, 1092, 1093, 1094, 1095, 1096, 1097] (by decide +kernel) (by decide +kernel)
set_option maxRecDepth 20000 in
theorem gL_law_X6_best : GoodIn wsL_law (wsV RL 118 RX6 yX6_best wsX6_best) := goodIn_app (goodIn_of _ (by decide +kernel)) ggL_law_X6_best
set_option maxRecDepth 20000 in
theorem ggL_law_X7_best : GoodIn wsL_law wsX7_best := goodIn_r _ [754, 627, 755, 756, 757, 758, 759, 760, 761, 434, 435, 5, 436, 401, 142, 143, 144, 762, 763, 764, 765, 445, 446, 447, 448, 300, 406, 407, 408, 409, 114, 383, 384, 385, 386, 379, 380, 381, 382, 766, 767, 768, 375, 376, 377, 378, 769, 770, 771, 772, 635, 636, 637, 638, 773, 774, 775, 776, 511, 512, 513, 514, 476, 402, 403, 404, 405, 549, 550, 551, 552, 553, 554, 555, 556, 1051, 1052, 1053, 1054, 1055, 1056, 1057, 1058, 1059, 1060, 1061, 1062, 1063, 1064, 1065, 1066, 1067, 1068, 1069, 1070, 1071, 1072, 1073, 1074, 1075, 1076, 1077, 1078, 1079, 1080, 1081, 1082, 1083, 1084] (by decide +kernel) (by decide +kernel)
set_option maxRecDepth 20000 in
theorem gL_law_X7_best : GoodIn wsL_law (wsV RL 121 RX7 yX7_best wsX7_best) := goodIn_app (goodIn_of _ (by decide +kernel)) ggL_law_X7_best
set_option maxRecDepth 20000 in
theorem ggL_law_X6_leave : GoodIn wsL_law wsX6_leave := goodIn_r _ [780, 15, 414, 415, 2, 416, 130, 131, 132, 781, 782, 783, 784, 16, 280, 14, 281, 282, 45, 46, 47, 48, 283, 284, 285, 286, 49, 50, 51, 52, 53, 54, 55, 56, 57, 643, 644, 645, 646, 610, 611, 612, 613, 614, 615, 616, 617, 503, 504, 505, 506, 391, 392, 393, 618, 527, 528, 529, 530, 531, 532, 533, 367, 368, 369, 370, 619, 534, 535, 536, 537, 538, 539, 540, 421, 422, 423, 1040, 1041, 1042, 1043, 1044, 1045, 1046, 1047, 1048, 1049, 1050, 1085, 1086, 1087, 1088, 1089, 1090, 1091, 1092, 1093, 1094, 1095, 1096, 1097] (by decide +kernel) (by decide +kernel)
set_option maxRecDepth 20000 in
theorem gL_law_X6_leave : GoodIn wsL_law (wsV RL 122 RX6 yX6_leave wsX6_leave) := goodIn_app (goodIn_of _ (by decide +kernel)) ggL_law_X6_leave
set_option maxRecDepth 20000 in
theorem ggL_law_X7_leave : GoodIn wsL_law wsX7_leave := goodIn_r _ [788, 114, 434, 435, 5, 436, 401, 142, 143, 144, 631, 632, 633, 634, 628, 629, 630, 635, 636, 637, 638, 549, 550, 551, 552, 375, 376, 377, 378, 553, 554, 555, 556, 383, 384, 385, 386, 441, 442, 443, 444, 300, 1051, 1052, 1053, 1054, 1055, 1056, 1057, 1058, 1059, 1060, 1061, 1062, 1063, 1064, 1065, 1066, 1067, 1068, 1069, 1070, 1071, 1072, 1073, 1074, 1075, 1076, 1077, 1078, 1079, 1080, 1081, 1082, 1083, 1084] (by decide +kernel) (by decide +kernel)
set_option maxRecDepth 20000 in
theorem gL_law_X7_leave : GoodIn wsL_law (wsV RL 125 RX7 yX7_leave wsX7_leave) := goodIn_app (goodIn_of _ (by decide +kernel)) ggL_law_X7_leave
set_option maxRecDepth 20000 in
theorem ggL_law_X6_swings : GoodIn wsL_law wsX6_swings := goodIn_r _ [792, 15, 391, 14, 392, 393, 45, 131, 2, 132, 414, 415, 416, 130, 793, 794, 795, 796, 797, 798, 799, 367, 368, 369, 370, 51, 363, 364, 365, 366, 1040, 1041, 1042, 1043, 1044, 1045, 1046, 1047, 1048, 1049, 1050, 1085, 1086, 1087, 1088, 1089, 1090, 1091, 1092, 1093, 1094, 1095, 1096, 1097] (by decide +kernel) (by decide +kernel)
set_option maxRecDepth 20000 in
theorem gL_law_X6_swings : GoodIn wsL_law (wsV RL 126 RX6 yX6_swings wsX6_swings) := goodIn_app (goodIn_of _ (by decide +kernel)) ggL_law_X6_swings
set_option maxRecDepth 20000 in
theorem ggL_law_X7_swings : GoodIn wsL_law wsX7_swings := goodIn_r _ [803, 402, 403, 404, 5, 405, 300, 142, 143, 144, 434, 435, 436, 401, 804, 805, 806, 807, 379, 380, 381, 382, 383, 384, 385, 386, 114, 808, 809, 810, 811, 1051, 1052, 1053, 1054, 1055, 1056, 1057, 1058, 1059, 1060, 1061, 1062, 1063, 1064, 1065, 1066, 1067, 1068, 1069, 1070, 1071, 1072, 1073, 1074, 1075, 1076, 1077, 1078, 1079, 1080, 1081, 1082, 1083, 1084] (by decide +kernel) (by decide +kernel)
set_option maxRecDepth 20000 in
theorem gL_law_X7_swings : GoodIn wsL_law (wsV RL 129 RX7 yX7_swings wsX7_swings) := goodIn_app (goodIn_of _ (by decide +kernel)) ggL_law_X7_swings
set_option maxRecDepth 20000 in
theorem ggL_law_X6_power : GoodIn wsL_law wsX6_power := goodIn_r _ [815, 15, 816, 817, 588, 582, 589, 391, 14, 392, 393, 45, 131, 2, 132, 414, 415, 416, 130, 793, 794, 795, 796, 797, 798, 799, 367, 368, 369, 370, 51, 363, 364, 365, 366, 818, 819, 820, 821, 822, 823, 824, 825, 826, 1040, 1041, 1042, 1043, 1044, 1045, 1046, 1047, 1048, 1049, 1050, 1085, 1086, 1087, 1088, 1089, 1090, 1091, 1092, 1093, 1094, 1095, 1096, 1097] (by decide +kernel) (by decide +kernel)
set_option maxRecDepth 20000 in
theorem gL_law_X6_power : GoodIn wsL_law (wsV RL 130 RX6 yX6_power wsX6_power) := goodIn_app (goodIn_of _ (by decide +kernel)) ggL_law_X6_power
set_option maxRecDepth 20000 in
theorem ggL_law_X7_power : GoodIn wsL_law wsX7_power := goodIn_r _ [830, 831, 402, 403, 404, 5, 405, 300, 142, 143, 144, 434, 435, 436, 401, 804, 805, 806, 807, 379, 380, 381, 382, 383, 384, 385, 386, 114, 808, 809, 810, 811, 832, 833, 834, 1051, 1052, 1053, 1054, 1055, 1056, 1057, 1058, 1059, 1060, 1061, 1062, 1063, 1064, 1065, 1066, 1067, 1068, 1069, 1070, 1071, 1072, 1073, 1074, 1075, 1076, 1077, 1078, 1079, 1080, 1081, 1082, 1083, 1084] (by decide +kernel) (by decide +kernel)
set_option maxRecDepth 20000 in
theorem gL_law_X7_power : GoodIn wsL_law (wsV RL 134 RX7 yX7_power wsX7_power) := goodIn_app (goodIn_of _ (by decide +kernel)) ggL_law_X7_power
set_option maxRecDepth 20000 in
theorem ggL_law_X6_reign : GoodIn wsL_law wsX6_reign := goodIn_r _ [838, 15, 391, 14, 392, 393, 45, 131, 2, 132, 414, 415, 416, 130, 364, 365, 366, 367, 368, 369, 370, 51, 1040, 1041, 1042, 1043, 1044, 1045, 1046, 1047, 1048, 1049, 1050, 1085, 1086, 1087, 1088, 1089, 1090, 1091, 1092, 1093, 1094, 1095, 1096, 1097] (by decide +kernel) (by decide +kernel)
set_option maxRecDepth 20000 in
theorem gL_law_X6_reign : GoodIn wsL_law (wsV RL 135 RX6 yX6_reign wsX6_reign) := goodIn_app (goodIn_of _ (by decide +kernel)) ggL_law_X6_reign
set_option maxRecDepth 20000 in
theorem ggL_law_X7_reign : GoodIn wsL_law wsX7_reign := goodIn_r _ [842, 402, 403, 404, 5, 405, 300, 142, 143, 144, 434, 435, 436, 401, 379, 380, 381, 382, 383, 384, 385, 386, 114, 1051, 1052, 1053, 1054, 1055, 1056, 1057, 1058, 1059, 1060, 1061, 1062, 1063, 1064, 1065, 1066, 1067, 1068, 1069, 1070, 1071, 1072, 1073, 1074, 1075, 1076, 1077, 1078, 1079, 1080, 1081, 1082, 1083, 1084] (by decide +kernel) (by decide +kernel)
set_option maxRecDepth 20000 in
theorem gL_law_X7_reign : GoodIn wsL_law (wsV RL 138 RX7 yX7_reign wsX7_reign) := goodIn_app (goodIn_of _ (by decide +kernel)) ggL_law_X7_reign
set_option maxRecDepth 20000 in
theorem ggL_law_X6_luck : GoodIn wsL_law wsX6_luck := goodIn_r _ [846, 15, 816, 16, 847, 848, 2, 849, 130, 131, 132, 391, 14, 392, 393, 45, 414, 415, 416, 280, 281, 282, 46, 47, 48, 283, 284, 285, 286, 49, 50, 51, 52, 53, 54, 55, 56, 57, 394, 395, 396, 367, 368, 369, 370, 850, 851, 852, 853, 854, 855, 573, 574, 575, 428, 576, 577, 578, 579, 580, 581, 582, 583, 584, 585, 586, 587, 588, 589, 818, 819, 820, 821, 822, 823, 824, 825, 826, 1040, 1041, 1042, 1043, 1044, 1045, 1046, 1047, 1048, 1049, 1050, 1085, 1086, 1087, 1088, 1089, 1090, 1091, 1092, 1093, 1094, 1095, 1096, 1097] (by decide +kernel) (by decide +kernel)
set_option maxRecDepth 20000 in
theorem gL_law_X6_luck : GoodIn wsL_law (wsV RL 139 RX6 yX6_luck wsX6_luck) := goodIn_app (goodIn_of _ (by decide +kernel)) ggL_law_X6_luck
set_option maxRecDepth 20000 in
theorem ggL_law_X7_luck : GoodIn wsL_law wsX7_luck := goodIn_r _ [859, 755, 860, 831, 142, 143, 5, 144, 402, 403, 404, 405, 300, 434, 435, 436, 401, 861, 862, 863, 864, 635, 636, 637, 638, 114, 595, 596, 597, 598, 406, 407, 408, 409, 383, 384, 385, 386, 379, 380, 381, 382, 599, 600, 601, 602, 603, 604, 605, 832, 833, 834, 1051, 1052, 1053, 1054, 1055, 1056, 1057, 1058, 1059, 1060, 1061, 1062, 1063, 1064, 1065, 1066, 1067, 1068, 1069, 1070, 1071, 1072, 1073, 1074, 1075, 1076, 1077, 1078, 1079, 1080, 1081, 1082, 1083, 1084] (by decide +kernel) (by decide +kernel)
set_option maxRecDepth 20000 in
theorem gL_law_X7_luck : GoodIn wsL_law (wsV RL 143 RX7 yX7_luck wsX7_luck) := goodIn_app (goodIn_of _ (by decide +kernel)) ggL_law_X7_luck
set_option maxRecDepth 20000 in
theorem ggL_law_X6_mean : GoodIn wsL_law wsX6_mean := goodIn_r _ [868, 15, 816, 16, 847, 848, 2, 849, 130, 131, 132, 391, 14, 392, 393, 45, 280, 281, 282, 46, 47, 48, 283, 284, 285, 286, 49, 50, 51, 52, 53, 54, 55, 56, 57, 850, 851, 852, 853, 854, 855, 364, 365, 366, 367, 368, 369, 370, 573, 574, 575, 428, 394, 395, 396, 576, 577, 578, 579, 580, 581, 582, 583, 584, 585, 586, 587, 588, 589, 818, 819, 820, 821, 822, 823, 824, 825, 826, 1040, 1041, 1042, 1043, 1044, 1045, 1046, 1047, 1048, 1049, 1050, 1085, 1086, 1087, 1088, 1089, 1090, 1091, 1092, 1093, 1094, 1095, 1096, 1097] (by decide +kernel) (by decide +kernel)
set_option maxRecDepth 20000 in
theorem gL_law_X6_mean : GoodIn wsL_law (wsV RL 144 RX6 yX6_mean wsX6_mean) := goodIn_app (goodIn_of _ (by decide +kernel)) ggL_law_X6_mean
set_option maxRecDepth 20000 in
theorem ggL_law_X7_mean : GoodIn wsL_law wsX7_mean := goodIn_r _ [872, 755, 860, 831, 142, 143, 5, 144, 402, 403, 404, 405, 300, 861, 862, 863, 864, 635, 636, 637, 638, 114, 595, 596, 597, 598, 406, 407, 408, 409, 383, 384, 385, 386, 379, 380, 381, 382, 599, 600, 601, 602, 603, 604, 605, 832, 833, 834, 1051, 1052, 1053, 1054, 1055, 1056, 1057, 1058, 1059, 1060, 1061, 1062, 1063, 1064, 1065, 1066, 1067, 1068, 1069, 1070, 1071, 1072, 1073, 1074, 1075, 1076, 1077, 1078, 1079, 1080, 1081, 1082, 1083, 1084] (by decide +kernel) (by decide +kernel)
set_option maxRecDepth 20000 in
theorem gL_law_X7_mean : GoodIn wsL_law (wsV RL 148 RX7 yX7_mean wsX7_mean) := goodIn_app (goodIn_of _ (by decide +kernel)) ggL_law_X7_mean
set_option maxRecDepth 20000 in
theorem ggL_law_X6_see : GoodIn wsL_law wsX6_see := goodIn_r _ [876, 15, 30, 391, 14, 392, 393, 45, 131, 2, 132, 414, 415, 416, 130, 877, 29, 878, 879, 85, 86, 87, 88, 89, 1040, 1041, 1042, 1043, 1044, 1045, 1046, 1047, 1048, 1049, 1050, 1111, 1112, 1113, 1114, 1115, 1085, 1086, 1087, 1088, 1089, 1090, 1091, 1092, 1093, 1094, 1095, 1096, 1097] (by decide +kernel) (by decide +kernel)
set_option maxRecDepth 20000 in
theorem gL_law_X6_see : GoodIn wsL_law (wsV RL 149 RX6 yX6_see wsX6_see) := goodIn_app (goodIn_of _ (by decide +kernel)) ggL_law_X6_see
set_option maxRecDepth 20000 in
theorem ggL_law_X7_see : GoodIn wsL_law wsX7_see := goodIn_r _ [883, 884, 498, 301, 119, 402, 403, 404, 5, 405, 300, 142, 143, 144, 434, 435, 436, 401, 1051, 1052, 1053, 1054, 1055, 1056, 1057, 1058, 1059, 1060, 1061, 1062, 1063, 1064, 1065, 1066, 1067, 1068, 1069, 1070, 1071, 1072, 1073, 1074, 1075, 1076, 1077, 1078, 1079, 1080, 1081, 1082, 1083, 1084] (by decide +kernel) (by decide +kernel)
set_option maxRecDepth 20000 in
theorem gL_law_X7_see : GoodIn wsL_law (wsV RL 152 RX7 yX7_see wsX7_see) := goodIn_app (goodIn_of _ (by decide +kernel)) ggL_law_X7_see
set_option maxRecDepth 20000 in
theorem ggL_law_X6_forget : GoodIn wsL_law wsX6_forget := goodIn_r _ [888, 30, 130, 131, 2, 132, 1040, 1041, 1042, 1043, 1044, 1045, 1046, 1047, 1048, 1049, 1050, 1111, 1112, 1113, 1114, 1115] (by decide +kernel) (by decide +kernel)
set_option maxRecDepth 20000 in
theorem gL_law_X6_forget : GoodIn wsL_law (wsV RL 153 RX6 yX6_forget wsX6_forget) := goodIn_app (goodIn_of _ (by decide +kernel)) ggL_law_X6_forget
