set_option maxRecDepth 20000 in
theorem ggL_law_X4_init : GoodIn wsL_law wsX4_init := goodIn_r _ [8, 9, 10, 11, 12, 13, 14, 15, 16, 17, 18, 19, 20, 21, 22, 23, 24, 25, 26, 27, 28, 29, 30, 31, 32, 33, 34, 35, 36, 37, 38, 39, 40, 41, 42, 43, 44, 45, 46, 47, 48, 49, 50, 51, 52, 53, 54, 55, 56, 57, 58, 59, 60, 61, 62, 63, 64, 65, 66, 67, 68, 69, 70, 71, 72, 73, 74, 75, 76, 708, 709, 710, 711, 712, 713, 714, 715, 683, 684, 685, 686, 687, 716, 717, 718, 719, 720, 721, 722, 723, 724, 725, 726, 727, 728, 729] (by decide +kernel) (by decide +kernel)
set_option maxRecDepth 20000 in
theorem gL_law_X4_init : GoodIn wsL_law (wsX4_init) := ggL_law_X4_init
set_option maxRecDepth 20000 in
theorem ggL_law_X5_init : GoodIn wsL_law wsX5_init := goodIn_r _ [79, 80, 10, 11, 16, 81, 82, 83, 84, 85, 86, 87, 55, 88, 89, 51, 90, 91, 92, 93, 94, 95, 96, 97, 688, 689, 690, 691, 692, 693, 694, 695, 696, 697, 698, 699, 700, 701, 702, 703, 704, 705, 706, 707] (by decide +kernel) (by decide +kernel)
set_option maxRecDepth 20000 in
theorem gL_law_X5_init : GoodIn wsL_law (wsX5_init) := ggL_law_X5_init
set_option maxRecDepth 20000 in
theorem ggL_law_X4_reset : GoodIn wsL_law wsX4_reset := goodIn_r _ [101, 15, 102, 17, 21, 29, 62, 63, 64, 14, 65, 66, 67, 36, 68, 69, 70, 71, 103, 72, 73, 74, 20, 75, 43, 44, 45, 46, 76, 104, 105, 106, 28, 107, 60, 108, 109, 110, 683, 684, 685, 686, 687, 708, 709, 710, 711, 712, 713, 714, 715, 716, 717, 718, 719, 728, 729] (by decide +kernel) (by decide +kernel)
set_option maxRecDepth 20000 in
theorem gL_law_X4_reset : GoodIn wsL_law (wsV RL 13 RX4 yX4_reset wsX4_reset) := goodIn_app (goodIn_of _ (by decide +kernel)) ggL_law_X4_reset
set_option maxRecDepth 20000 in
theorem ggL_law_X5_reset : GoodIn wsL_law wsX5_reset := goodIn_r _ [114, 115, 97, 84, 88, 90, 86, 87, 116, 117, 5, 118, 688, 689, 690, 691, 692, 693, 694, 695, 696, 697, 698, 699, 700, 701, 702, 703, 704, 705, 706, 707] (by decide +kernel) (by decide +kernel)
set_option maxRecDepth 20000 in
theorem gL_law_X5_reset : GoodIn wsL_law (wsV RL 17 RX5 yX5_reset wsX5_reset) := goodIn_app (goodIn_of _ (by decide +kernel)) ggL_law_X5_reset
set_option maxRecDepth 20000 in
theorem ggL_law_X4_addLink : GoodIn wsL_law wsX4_addLink := goodIn_r _ [122, 15, 102, 123, 124, 125, 2, 126, 127, 128, 129, 14, 130, 66, 131, 132, 133, 134, 135, 136, 137, 67, 33, 34, 35, 138, 139, 140, 141, 142, 143, 144, 145, 39, 146, 147, 148, 149, 150, 68, 69, 70, 71, 151, 152, 153, 154, 155, 156, 157, 158, 38, 36, 159, 160, 161, 162, 163, 164, 683, 684, 685, 686, 687, 708, 709, 710, 711, 712, 713, 714, 715] (by decide +kernel) (by decide +kernel)
set_option maxRecDepth 20000 in
theorem gL_law_X4_addLink : GoodIn wsL_law (wsV RL 18 RX4 yX4_addLink wsX4_addLink) := goodIn_app (goodIn_of _ (by decide +kernel)) ggL_law_X4_addLink
set_option maxRecDepth 20000 in
theorem ggL_law_X5_addLink : GoodIn wsL_law wsX5_addLink := goodIn_r _ [168, 115, 81, 82, 83, 85, 169, 170, 171, 5, 172, 173, 174, 175, 176, 97, 116, 117, 118, 688, 689, 690, 691, 692, 693, 694, 695, 696, 697, 698, 699, 700, 701, 702, 703, 704, 705, 706, 707] (by decide +kernel) (by decide +kernel)
set_option maxRecDepth 20000 in
theorem gL_law_X5_addLink : GoodIn wsL_law (wsV RL 22 RX5 yX5_addLink wsX5_addLink) := goodIn_app (goodIn_of _ (by decide +kernel)) ggL_law_X5_addLink
set_option maxRecDepth 20000 in
theorem ggL_law_X4_setMetric : GoodIn wsL_law wsX4_setMetric := goodIn_r _ [180, 15, 181, 182, 183, 14, 184, 67, 131, 132, 2, 133, 185, 186, 187, 188, 35, 138, 139, 140, 141, 66, 142, 143, 144, 145, 39, 146, 33, 147, 148, 149, 150, 68, 69, 70, 71, 151, 152, 153, 154, 34, 155, 156, 157, 158, 38, 36, 159, 160, 161, 162, 163, 164, 683, 684, 685, 686, 687, 708, 709, 710, 711, 712, 713, 714, 715] (by decide +kernel) (by decide +kernel)
set_option maxRecDepth 20000 in
theorem gL_law_X4_setMetric : GoodIn wsL_law (wsV RL 23 RX4 yX4_setMetric wsX4_setMetric) := goodIn_app (goodIn_of _ (by decide +kernel)) ggL_law_X4_setMetric
set_option maxRecDepth 20000 in
theorem ggL_law_X5_setMetric : GoodIn wsL_law wsX5_setMetric := goodIn_r _ [192, 83, 193, 194, 195, 5, 196, 115, 116, 117, 118, 688, 689, 690, 691, 692, 693, 694, 695, 696, 697, 698, 699, 700, 701, 702, 703, 704, 705, 706, 707] (by decide +kernel) (by decide +kernel)
set_option maxRecDepth 20000 in
theorem gL_law_X5_setMetric : GoodIn wsL_law (wsV RL 27 RX5 yX5_setMetric wsX5_setMetric) := goodIn_app (goodIn_of _ (by decide +kernel)) ggL_law_X5_setMetric
