set_option maxRecDepth 20000 in
theorem ggL_law_X4_measure : GoodIn wsL_law wsX4_measure := goodIn_r _ [288, 21, 15, 17, 289, 290, 291, 20, 292, 293, 43, 44, 45, 294, 266, 267, 14, 268, 269, 270, 271, 272, 36, 38, 76, 69, 70, 71, 295, 208, 209, 210, 296, 297, 298, 299, 683, 684, 685, 686, 687, 708, 709, 710, 711, 712, 713, 714, 715, 716, 717, 718, 719] (by decide +kernel) (by decide +kernel)
set_option maxRecDepth 20000 in
theorem gL_law_X4_measure : GoodIn wsL_law (wsV RL 44 RX4 yX4_measure wsX4_measure) := goodIn_app (goodIn_of _ (by decide +kernel)) ggL_law_X4_measure
set_option maxRecDepth 20000 in
theorem ggL_law_X5_measure : GoodIn wsL_law wsX5_measure := goodIn_r _ [303, 86, 87, 84, 115, 85, 219, 220, 221, 5, 222, 91, 223, 97, 82, 81, 92, 224, 225, 226, 227, 83, 228, 229, 230, 231, 232, 233, 234, 235, 236, 237, 238, 239, 240, 241, 242, 243, 277, 278, 279, 280, 281, 282, 283, 284, 688, 689, 690, 691, 692, 693, 694, 695, 696, 697, 698, 699, 700, 701, 702, 703, 704, 705, 706, 707] (by decide +kernel) (by decide +kernel)
set_option maxRecDepth 20000 in
theorem gL_law_X5_measure : GoodIn wsL_law (wsV RL 48 RX5 yX5_measure wsX5_measure) := goodIn_app (goodIn_of _ (by decide +kernel)) ggL_law_X5_measure
set_option maxRecDepth 20000 in
theorem ggL_law_X4_setMeasuredLoad : GoodIn wsL_law wsX4_setMeasuredLoad := goodIn_r _ [307, 15, 308, 21, 309, 181, 182, 183, 14, 184, 67, 683, 684, 685, 686, 687, 716, 717, 718, 719, 708, 709, 710, 711, 712, 713, 714, 715] (by decide +kernel) (by decide +kernel)
set_option maxRecDepth 20000 in
theorem gL_law_X4_setMeasuredLoad : GoodIn wsL_law (wsV RL 49 RX4 yX4_setMeasuredLoad wsX4_setMeasuredLoad) := goodIn_app (goodIn_of _ (by decide +kernel)) ggL_law_X4_setMeasuredLoad
set_option maxRecDepth 20000 in
theorem ggL_law_X5_setMeasuredLoad : GoodIn wsL_law wsX5_setMeasuredLoad := goodIn_r _ [313, 314, 85, 193, 194, 195, 5, 196, 115, 116, 117, 118, 688, 689, 690, 691, 692, 693, 694, 695, 696, 697, 698, 699, 700, 701, 702, 703, 704, 705, 706, 707] (by decide +kernel) (by decide +kernel)
set_option maxRecDepth 20000 in
theorem gL_law_X5_setMeasuredLoad : GoodIn wsL_law (wsV RL 52 RX5 yX5_setMeasuredLoad wsX5_setMeasuredLoad) := goodIn_app (goodIn_of _ (by decide +kernel)) ggL_law_X5_setMeasuredLoad
set_option maxRecDepth 20000 in
theorem ggL_law_X4_measuredLoad : GoodIn wsL_law wsX4_measuredLoad := goodIn_r _ [318, 15, 21, 309, 181, 182, 183, 14, 184, 67, 683, 684, 685, 686, 687, 716, 717, 718, 719, 708, 709, 710, 711, 712, 713, 714, 715] (by decide +kernel) (by decide +kernel)
set_option maxRecDepth 20000 in
theorem gL_law_X4_measuredLoad : GoodIn wsL_law (wsV RL 53 RX4 yX4_measuredLoad wsX4_measuredLoad) := goodIn_app (goodIn_of _ (by decide +kernel)) ggL_law_X4_measuredLoad
set_option maxRecDepth 20000 in
theorem ggL_law_X5_measuredLoad : GoodIn wsL_law wsX5_measuredLoad := goodIn_r _ [322, 85, 193, 194, 195, 5, 196, 115, 116, 117, 118, 688, 689, 690, 691, 692, 693, 694, 695, 696, 697, 698, 699, 700, 701, 702, 703, 704, 705, 706, 707] (by decide +kernel) (by decide +kernel)
set_option maxRecDepth 20000 in
theorem gL_law_X5_measuredLoad : GoodIn wsL_law (wsV RL 56 RX5 yX5_measuredLoad wsX5_measuredLoad) := goodIn_app (goodIn_of _ (by decide +kernel)) ggL_law_X5_measuredLoad
set_option maxRecDepth 20000 in
theorem ggL_law_X4_outTotal : GoodIn wsL_law wsX4_outTotal := goodIn_r _ [326, 15, 21, 327, 127, 128, 129, 14, 130, 66, 683, 684, 685, 686, 687, 716, 717, 718, 719, 708, 709, 710, 711, 712, 713, 714, 715] (by decide +kernel) (by decide +kernel)
set_option maxRecDepth 20000 in
theorem gL_law_X4_outTotal : GoodIn wsL_law (wsV RL 57 RX4 yX4_outTotal wsX4_outTotal) := goodIn_app (goodIn_of _ (by decide +kernel)) ggL_law_X4_outTotal
set_option maxRecDepth 20000 in
theorem ggL_law_X5_outTotal : GoodIn wsL_law wsX5_outTotal := goodIn_r _ [331, 86, 173, 174, 175, 5, 176, 97, 116, 117, 118, 688, 689, 690, 691, 692, 693, 694, 695, 696, 697, 698, 699, 700, 701, 702, 703, 704, 705, 706, 707] (by decide +kernel) (by decide +kernel)
set_option maxRecDepth 20000 in
theorem gL_law_X5_outTotal : GoodIn wsL_law (wsV RL 60 RX5 yX5_outTotal wsX5_outTotal) := goodIn_app (goodIn_of _ (by decide +kernel)) ggL_law_X5_outTotal
