set_option maxRecDepth 20000 in
theorem ggL_law_X4_init : GoodIn wsL_law wsX4_init := goodIn_r _ [8, 9, 10, 11, 12, 13, 14, 15, 16, 17, 18, 19, 20, 21, 22, 23, 24, 25, 26, 27, 28, 29, 30, 31, 32, 33, 34, 35, 36, 37, 38, 39, 40, 41, 42, 43, 44, 45, 46, 47, 48, 49, 50, 51, 52, 53, 54, 55, 56, 57, 58, 59, 60, 61, 62, 63, 64, 65, 66, 67, 68, 69, 70, 71, 72, 73, 74, 75, 76, 708, 709, 710, 711, 712, 713, 714, 715, 683, 684, 685, 686, 687, 716, 717, 718, 719, 720, 721, 722, 723, 724, 725, 726, 727, 728, 729] (by decide +kernel) (by decide +kernel)
set_option maxRecDepth 20000 in
theorem gL_law_X4_init : GoodIn wsL_law (wsX4_init) := ggL_law_X4_init
set_option maxRecDepth 20000 in
theorem ggL_law_X5_init : GoodIn wsL_law wsX5_init := goodIn_r _ [79, 80, 10, 11, 16, 81, 82, 83, 84, 85, 86, 87, 55, 88, 89, 51, 90, 91, 92, 93, 94, 95, 96, 97, 688, 689, 690, 691, 692, 693, 694, 695, 696, 697, 698, 699, 700, 701, 702, 703, 704, 705, 706, 707] (by decide +kernel) (by decide +kernel)
set_option maxRecDepth 20000 in
theorem gL_law_X5_init : GoodIn wsL_law (wsX5_init) := ggL_law_X5_init
set_option maxRecDepth 20000 in
theorem ggL_law_X4_reset : GoodIn wsL_law wsX4_reset := goodIn_r _ [101, 15, 102, 17, 21, 29, 62, 63, 64, 14, 65, 66, 67, 36, 68, 69, 70, 71, 103, 72, 73, 74, 20, 75, 43, 44, 45, 46, 76, 104, 105, 106, 28, 107, 60, 108, 109, 110, 683, 684, 685, 686, 687, 708, 709, 710, 711, 712, 713, 714, 715, 716, 717, 718, 719, 728, 729] (by decide +kernel) (by decide +kernel)
set_option maxRecDepth 20000 in
theorem gL_law_X4_reset : GoodIn wsL_law (wsV RL 13 RX4 yX4_reset wsX4_reset) := goodIn_app (goodIn_of _ (by decide +kernel)) ggL_law_X4_reset
set_option maxRecDepth 20000 in
theorem ggL_law_X5_reset : GoodIn wsL_law wsX5_reset := goodIn_r _ [114, 115, 97, 84, 88, 90, 86, 87, 116, 117, 5, 118, 688, 689, 690, 691, 692, 693, 694, 695, 696, 697, 698, 699, 700, 701, 702, 703, 704, 705, 706, 707] (by decide +kernel) (by decide +kernel)
set_option maxRecDepth 20000 in
theorem gL_law_X5_reset : GoodIn wsL_law (wsV RL 17 RX5 yX5_reset wsX5_reset) := goodIn_app (goodIn_of _ (by decide +kernel)) ggL_law_X5_reset
set_option maxRecDepth 20000 in
theorem ggL_law_X4_addLink : GoodIn wsL_law wsX4_addLink := goodIn_r _ [122, 15, 102, 123, 124, 125, 2, 126, 127, 128, 129, 14, 130, 66, 131, 132, 133, 134, 135, 136, 137, 67, 33, 34, 35, 138, 139, 140, 141, 142, 143, 144, 145, 39, 146, 147, 148, 149, 150, 68, 69, 70, 71, 151, 152, 153, 154, 155, 156, 157, 158, 38, 36, 159, 160, 161, 162, 163, 164, 683, 684, 685, 686, 687, 708, 709, 710, 711, 712, 713, 714, 715] (by decide +kernel) (by decide +kernel)
set_option maxRecDepth 20000 in
theorem gL_law_X4_addLink : GoodIn wsL_law (wsV RL 18 RX4 yX4_addLink wsX4_addLink) := goodIn_app (goodIn_of _ (by decide +kernel)) ggL_law_X4_addLink
set_option maxRecDepth 20000 in
theorem ggL_law_X5_addLink : GoodIn wsL_law wsX5_addLink := goodIn_r _ [168, 115, 81, 82, 83, 85, 169, 170, 171, 5, 172, 173, 174, 175, 176, 97, 116, 117, 118, 688, 689, 690, 691, 692, 693, 694, 695, 696, 697, 698, 699, 700, 701, 702, 703, 704, 705, 706, 707] (by decide +kernel) (by decide +kernel)
set_option maxRecDepth 20000 in
theorem gL_law_X5_addLink : GoodIn wsL_law (wsV RL 22 RX5 yX5_addLink wsX5_addLink) := goodIn_app (goodIn_of _ (by decide +kernel)) ggL_law_X5_addLink
set_option maxRecDepth 20000 in
theorem ggL_law_X4_setMetric : GoodIn wsL_law wsX4_setMetric := goodIn_r _ [180, 15, 181, 182, 183, 14, 184, 67, 131, 132, 2, 133, 185, 186, 187, 188, 35, 138, 139, 140, 141, 66, 142, 143, 144, 145, 39, 146, 33, 147, 148, 149, 150, 68, 69, 70, 71, 151, 152, 153, 154, 34, 155, 156, 157, 158, 38, 36, 159, 160, 161, 162, 163, 164, 683, 684, 685, 686, 687, 708, 709, 710, 711, 712, 713, 714, 715] (by decide +kernel) (by decide +kernel)
set_option maxRecDepth 20000 in
theorem gL_law_X4_setMetric : GoodIn wsL_law (wsV RL 23 RX4 yX4_setMetric wsX4_setMetric) := goodIn_app (goodIn_of _ (by decide +kernel)) ggL_law_X4_setMetric
set_option maxRecDepth 20000 in
theorem ggL_law_X5_setMetric : GoodIn wsL_law wsX5_setMetric := goodIn_r _ [192, 83, 193, 194, 195, 5, 196, 115, 116, 117, 118, 688, 689, 690, 691, 692, 693, 694, 695, 696, 697, 698, 699, 700, 701, 702, 703, 704, 705, 706, 707] (by decide +kernel) (by decide +kernel)
set_option maxRecDepth 20000 in
theorem gL_law_X5_setMetric : GoodIn wsL_law (wsV RL 27 RX5 yX5_setMetric wsX5_setMetric) := goodIn_app (goodIn_of _ (by decide +kernel)) ggL_law_X5_setMetric
set_option maxRecDepth 20000 in
theorem ggL_law_X4_routeLength : GoodIn wsL_law wsX4_routeLength := goodIn_r _ [200, 15, 201, 202, 203, 204, 2, 205, 123, 124, 125, 126, 127, 128, 129, 14, 130, 66, 206, 159, 160, 207, 208, 209, 210, 36, 683, 684, 685, 686, 687, 708, 709, 710, 711, 712, 713, 714, 715] (by decide +kernel) (by decide +kernel)
set_option maxRecDepth 20000 in
theorem gL_law_X4_routeLength : GoodIn wsL_law (wsV RL 28 RX4 yX4_routeLength wsX4_routeLength) := goodIn_app (goodIn_of _ (by decide +kernel)) ggL_law_X4_routeLength
set_option maxRecDepth 20000 in
theorem ggL_law_X5_routeLength : GoodIn wsL_law wsX5_routeLength := goodIn_r _ [214, 91, 215, 216, 217, 5, 218, 169, 170, 171, 172, 173, 174, 175, 176, 97, 116, 117, 118, 219, 220, 221, 222, 223, 115, 82, 81, 92, 224, 225, 226, 227, 83, 228, 229, 230, 231, 232, 233, 234, 235, 236, 237, 238, 239, 240, 241, 242, 243, 688, 689, 690, 691, 692, 693, 694, 695, 696, 697, 698, 699, 700, 701, 702, 703, 704, 705, 706, 707] (by decide +kernel) (by decide +kernel)
set_option maxRecDepth 20000 in
theorem gL_law_X5_routeLength : GoodIn wsL_law (wsV RL 31 RX5 yX5_routeLength wsX5_routeLength) := goodIn_app (goodIn_of _ (by decide +kernel)) ggL_law_X5_routeLength
set_option maxRecDepth 20000 in
theorem ggL_law_X4_routeLink : GoodIn wsL_law wsX4_routeLink := goodIn_r _ [247, 15, 201, 248, 202, 203, 204, 2, 205, 123, 124, 125, 126, 127, 128, 129, 14, 130, 66, 206, 159, 160, 207, 208, 209, 210, 36, 683, 684, 685, 686, 687, 708, 709, 710, 711, 712, 713, 714, 715] (by decide +kernel) (by decide +kernel)
set_option maxRecDepth 20000 in
theorem gL_law_X4_routeLink : GoodIn wsL_law (wsV RL 32 RX4 yX4_routeLink wsX4_routeLink) := goodIn_app (goodIn_of _ (by decide +kernel)) ggL_law_X4_routeLink
set_option maxRecDepth 20000 in
theorem ggL_law_X5_routeLink : GoodIn wsL_law wsX5_routeLink := goodIn_r _ [252, 91, 82, 215, 216, 217, 5, 218, 169, 170, 171, 172, 173, 174, 175, 176, 97, 116, 117, 118, 219, 220, 221, 222, 223, 115, 81, 92, 224, 225, 226, 227, 83, 228, 229, 230, 231, 232, 233, 234, 235, 236, 237, 238, 239, 240, 241, 242, 243, 688, 689, 690, 691, 692, 693, 694, 695, 696, 697, 698, 699, 700, 701, 702, 703, 704, 705, 706, 707] (by decide +kernel) (by decide +kernel)
set_option maxRecDepth 20000 in
theorem gL_law_X5_routeLink : GoodIn wsL_law (wsV RL 35 RX5 yX5_routeLink wsX5_routeLink) := goodIn_app (goodIn_of _ (by decide +kernel)) ggL_law_X5_routeLink
set_option maxRecDepth 20000 in
theorem ggL_law_X4_setDemand : GoodIn wsL_law wsX4_setDemand := goodIn_r _ [256, 17, 123, 124, 125, 2, 126, 15, 127, 128, 129, 14, 130, 66, 206, 159, 160, 683, 684, 685, 686, 687, 708, 709, 710, 711, 712, 713, 714, 715] (by decide +kernel) (by decide +kernel)
set_option maxRecDepth 20000 in
theorem gL_law_X4_setDemand : GoodIn wsL_law (wsV RL 36 RX4 yX4_setDemand wsX4_setDemand) := goodIn_app (goodIn_of _ (by decide +kernel)) ggL_law_X4_setDemand
set_option maxRecDepth 20000 in
theorem ggL_law_X5_setDemand : GoodIn wsL_law wsX5_setDemand := goodIn_r _ [260, 84, 169, 170, 171, 5, 172, 173, 174, 175, 176, 97, 116, 117, 118, 688, 689, 690, 691, 692, 693, 694, 695, 696, 697, 698, 699, 700, 701, 702, 703, 704, 705, 706, 707] (by decide +kernel) (by decide +kernel)
set_option maxRecDepth 20000 in
theorem gL_law_X5_setDemand : GoodIn wsL_law (wsV RL 39 RX5 yX5_setDemand wsX5_setDemand) := goodIn_app (goodIn_of _ (by decide +kernel)) ggL_law_X5_setDemand
set_option maxRecDepth 20000 in
theorem ggL_law_X4_carriedLoad : GoodIn wsL_law wsX4_carriedLoad := goodIn_r _ [264, 15, 17, 181, 182, 183, 14, 184, 67, 265, 266, 267, 268, 269, 270, 271, 272, 36, 38, 683, 684, 685, 686, 687, 708, 709, 710, 711, 712, 713, 714, 715] (by decide +kernel) (by decide +kernel)
set_option maxRecDepth 20000 in
theorem gL_law_X4_carriedLoad : GoodIn wsL_law (wsV RL 40 RX4 yX4_carriedLoad wsX4_carriedLoad) := goodIn_app (goodIn_of _ (by decide +kernel)) ggL_law_X4_carriedLoad
set_option maxRecDepth 20000 in
theorem ggL_law_X5_carriedLoad : GoodIn wsL_law wsX5_carriedLoad := goodIn_r _ [276, 193, 194, 195, 5, 196, 115, 116, 117, 118, 219, 220, 221, 222, 91, 223, 97, 82, 81, 92, 224, 225, 226, 227, 83, 228, 229, 230, 231, 232, 233, 234, 235, 236, 237, 238, 239, 277, 278, 279, 280, 84, 281, 282, 283, 284, 688, 689, 690, 691, 692, 693, 694, 695, 696, 697, 698, 699, 700, 701, 702, 703, 704, 705, 706, 707] (by decide +kernel) (by decide +kernel)
set_option maxRecDepth 20000 in
theorem gL_law_X5_carriedLoad : GoodIn wsL_law (wsV RL 43 RX5 yX5_carriedLoad wsX5_carriedLoad) := goodIn_app (goodIn_of _ (by decide +kernel)) ggL_law_X5_carriedLoad
set_option maxRecDepth 20000 in
theorem ggL_law_X4_measure : GoodIn wsL_law wsX4_measure := goodIn_r _ [288, 21, 15, 17, 289, 290, 291, 20, 292, 293, 43, 44, 45, 294, 266, 267, 14, 268, 269, 270, 271, 272, 36, 38, 76, 69, 70, 71, 295, 208, 209, 210, 296, 297, 298, 299, 683, 684, 685, 686, 687, 708, 709, 710, 711, 712, 713, 714, 715, 716, 717, 718, 719] (by decide +kernel) (by decide +kernel)
set_option maxRecDepth 20000 in
theorem gL_law_X4_measure : GoodIn wsL_law (wsV RL 44 RX4 yX4_measure wsX4_measure) := goodIn_app (goodIn_of _ (by decide +kernel)) ggL_law_X4_measure
set_option maxRecDepth 20000 in
theorem ggL_law_X5_measure : GoodIn wsL_law wsX5_measure := goodIn_r _ [303, 86, 87, 84, 115, 85, 219, 220, 221, 5, 222, 91, 223, 97, 82, 81, 92, 224, 225, 226, 227, 83, 228, 229, 230, 231, 232, 233, 234, 235, 236, 237, 238, 239, 240, 241, 242, 243, 277, 278, 279, 280, 281, 282, 283, 284, 688, 689, 690, 691, 692, 693, 694, 695, 696, 697, 698, 699, 700, 701, 702, 703, 704, 705, 706, 707] (by decide +kernel) (by decide +kernel)
set_option maxRecDepth 20000 in
theorem gL_law_X5_measure : GoodIn wsL_law (wsV RL 48 RX5 yX5_measure wsX5_measure) := goodIn_app (goodIn_of _ (by decide +kernel)) ggL_law_X5_measure
set_option maxRecDepth 20000 in
theorem ggL_law_X4_setMeasuredLoad : GoodIn wsL_law wsX4_setMeasuredLoad := goodIn_r _ [307, 15, 308, 21, 309, 181, 182, 183, 14, 184, 67, 683, 684, 685, 686, 687, 716, 717, 718, 719, 708, 709, 710, 711, 712, 713, 714, 715] (by decide +kernel) (by decide +kernel)
set_option maxRecDepth 20000 in
theorem gL_law_X4_setMeasuredLoad : GoodIn wsL_law (wsV RL 49 RX4 yX4_setMeasuredLoad wsX4_setMeasuredLoad) := goodIn_app (goodIn_of _ (by decide +kernel)) ggL_law_X4_setMeasuredLoad
set_option maxRecDepth 20000 in
theorem ggL_law_X5_setMeasuredLoad : GoodIn wsL_law wsX5_setMeasuredLoad := goodIn_r _ [313, 314, 85, 193, 194, 195, 5, 196, 115, 116, 117, 118, 688, 689, 690, 691, 692, 693, 694, 695, 696, 697, 698, 699, 700, 701, 702, 703, 704, 705, 706, 707] (by decide +kernel) (by decide +kernel)
set_option maxRecDepth 20000 in
theorem gL_law_X5_setMeasuredLoad : GoodIn wsL_law (wsV RL 52 RX5 yX5_setMeasuredLoad wsX5_setMeasuredLoad) := goodIn_app (goodIn_of _ (by decide +kernel)) ggL_law_X5_setMeasuredLoad
set_option maxRecDepth 20000 in
theorem ggL_law_X4_measuredLoad : GoodIn wsL_law wsX4_measuredLoad := goodIn_r _ [318, 15, 21, 309, 181, 182, 183, 14, 184, 67, 683, 684, 685, 686, 687, 716, 717, 718, 719, 708, 709, 710, 711, 712, 713, 714, 715] (by decide +kernel) (by decide +kernel)
set_option maxRecDepth 20000 in
theorem gL_law_X4_measuredLoad : GoodIn wsL_law (wsV RL 53 RX4 yX4_measuredLoad wsX4_measuredLoad) := goodIn_app (goodIn_of _ (by decide +kernel)) ggL_law_X4_measuredLoad
set_option maxRecDepth 20000 in
theorem ggL_law_X5_measuredLoad : GoodIn wsL_law wsX5_measuredLoad := goodIn_r _ [322, 85, 193, 194, 195, 5, 196, 115, 116, 117, 118, 688, 689, 690, 691, 692, 693, 694, 695, 696, 697, 698, 699, 700, 701, 702, 703, 704, 705, 706, 707] (by decide +kernel) (by decide +kernel)
set_option maxRecDepth 20000 in
theorem gL_law_X5_measuredLoad : GoodIn wsL_law (wsV RL 56 RX5 yX5_measuredLoad wsX5_measuredLoad) := goodIn_app (goodIn_of _ (by decide +kernel)) ggL_law_X5_measuredLoad
set_option maxRecDepth 20000 in
theorem ggL_law_X4_outTotal : GoodIn wsL_law wsX4_outTotal := goodIn_r _ [326, 15, 21, 327, 127, 128, 129, 14, 130, 66, 683, 684, 685, 686, 687, 716, 717, 718, 719, 708, 709, 710, 711, 712, 713, 714, 715] (by decide +kernel) (by decide +kernel)
set_option maxRecDepth 20000 in
theorem gL_law_X4_outTotal : GoodIn wsL_law (wsV RL 57 RX4 yX4_outTotal wsX4_outTotal) := goodIn_app (goodIn_of _ (by decide +kernel)) ggL_law_X4_outTotal
set_option maxRecDepth 20000 in
theorem ggL_law_X5_outTotal : GoodIn wsL_law wsX5_outTotal := goodIn_r _ [331, 86, 173, 174, 175, 5, 176, 97, 116, 117, 118, 688, 689, 690, 691, 692, 693, 694, 695, 696, 697, 698, 699, 700, 701, 702, 703, 704, 705, 706, 707] (by decide +kernel) (by decide +kernel)
set_option maxRecDepth 20000 in
theorem gL_law_X5_outTotal : GoodIn wsL_law (wsV RL 60 RX5 yX5_outTotal wsX5_outTotal) := goodIn_app (goodIn_of _ (by decide +kernel)) ggL_law_X5_outTotal
set_option maxRecDepth 20000 in
theorem ggL_law_X4_inTotal : GoodIn wsL_law wsX4_inTotal := goodIn_r _ [335, 15, 21, 336, 127, 128, 129, 14, 130, 66, 683, 684, 685, 686, 687, 716, 717, 718, 719, 708, 709, 710, 711, 712, 713, 714, 715] (by decide +kernel) (by decide +kernel)
set_option maxRecDepth 20000 in
theorem gL_law_X4_inTotal : GoodIn wsL_law (wsV RL 61 RX4 yX4_inTotal wsX4_inTotal) := goodIn_app (goodIn_of _ (by decide +kernel)) ggL_law_X4_inTotal
set_option maxRecDepth 20000 in
theorem ggL_law_X5_inTotal : GoodIn wsL_law wsX5_inTotal := goodIn_r _ [340, 87, 173, 174, 175, 5, 176, 97, 116, 117, 118, 688, 689, 690, 691, 692, 693, 694, 695, 696, 697, 698, 699, 700, 701, 702, 703, 704, 705, 706, 707] (by decide +kernel) (by decide +kernel)
set_option maxRecDepth 20000 in
theorem gL_law_X5_inTotal : GoodIn wsL_law (wsV RL 64 RX5 yX5_inTotal wsX5_inTotal) := goodIn_app (goodIn_of _ (by decide +kernel)) ggL_law_X5_inTotal
set_option maxRecDepth 20000 in
theorem ggL_law_X4_measurePair : GoodIn wsL_law wsX4_measurePair := goodIn_r _ [344, 21, 345, 17, 202, 203, 204, 2, 205, 15, 123, 124, 125, 126, 127, 128, 129, 14, 130, 66, 206, 159, 160, 207, 208, 209, 210, 36, 683, 684, 685, 686, 687, 716, 717, 718, 719, 708, 709, 710, 711, 712, 713, 714, 715] (by decide +kernel) (by decide +kernel)
set_option maxRecDepth 20000 in
theorem gL_law_X4_measurePair : GoodIn wsL_law (wsV RL 65 RX4 yX4_measurePair wsX4_measurePair) := goodIn_app (goodIn_of _ (by decide +kernel)) ggL_law_X4_measurePair
set_option maxRecDepth 20000 in
theorem ggL_law_X5_measurePair : GoodIn wsL_law wsX5_measurePair := goodIn_r _ [349, 88, 89, 84, 215, 216, 217, 5, 218, 169, 170, 171, 172, 173, 174, 175, 176, 97, 116, 117, 118, 219, 220, 221, 222, 91, 223, 115, 82, 81, 92, 224, 225, 226, 227, 83, 228, 229, 230, 231, 232, 233, 234, 235, 236, 237, 238, 239, 240, 241, 242, 243, 688, 689, 690, 691, 692, 693, 694, 695, 696, 697, 698, 699, 700, 701, 702, 703, 704, 705, 706, 707] (by decide +kernel) (by decide +kernel)
set_option maxRecDepth 20000 in
theorem gL_law_X5_measurePair : GoodIn wsL_law (wsV RL 68 RX5 yX5_measurePair wsX5_measurePair) := goodIn_app (goodIn_of _ (by decide +kernel)) ggL_law_X5_measurePair
set_option maxRecDepth 20000 in
theorem ggL_law_X4_forgetPair : GoodIn wsL_law wsX4_forgetPair := goodIn_r _ [353, 21, 345, 123, 124, 125, 2, 126, 15, 127, 128, 129, 14, 130, 66, 206, 159, 160, 354, 355, 356, 20, 357, 46, 683, 684, 685, 686, 687, 716, 717, 718, 719, 708, 709, 710, 711, 712, 713, 714, 715] (by decide +kernel) (by decide +kernel)
set_option maxRecDepth 20000 in
theorem gL_law_X4_forgetPair : GoodIn wsL_law (wsV RL 69 RX4 yX4_forgetPair wsX4_forgetPair) := goodIn_app (goodIn_of _ (by decide +kernel)) ggL_law_X4_forgetPair
set_option maxRecDepth 20000 in
theorem ggL_law_X5_forgetPair : GoodIn wsL_law wsX5_forgetPair := goodIn_r _ [361, 88, 89, 169, 170, 171, 5, 172, 173, 174, 175, 176, 97, 116, 117, 118, 688, 689, 690, 691, 692, 693, 694, 695, 696, 697, 698, 699, 700, 701, 702, 703, 704, 705, 706, 707] (by decide +kernel) (by decide +kernel)
set_option maxRecDepth 20000 in
theorem gL_law_X5_forgetPair : GoodIn wsL_law (wsV RL 72 RX5 yX5_forgetPair wsX5_forgetPair) := goodIn_app (goodIn_of _ (by decide +kernel)) ggL_law_X5_forgetPair
set_option maxRecDepth 20000 in
theorem ggL_law_X4_rank : GoodIn wsL_law wsX4_rank := goodIn_r _ [365, 25, 15, 21, 366, 367, 368, 369, 370, 24, 371, 372, 373, 374, 375, 376, 377, 378, 56, 379, 208, 209, 14, 210, 36, 380, 355, 356, 20, 357, 46, 381, 382, 383, 384, 52, 385, 386, 387, 109, 70, 110, 388, 270, 271, 272, 38, 389, 390, 391, 392, 393, 394, 53, 54, 395, 69, 71, 396, 397, 398, 399, 400, 401, 402, 403, 404, 405, 406, 407, 408, 409, 410, 683, 684, 685, 686, 687, 720, 721, 722, 723, 724, 725, 726, 727, 708, 709, 710, 711, 712, 713, 714, 715, 716, 717, 718, 719] (by decide +kernel) (by decide +kernel)
set_option maxRecDepth 20000 in
theorem gL_law_X4_rank : GoodIn wsL_law (wsV RL 73 RX4 yX4_rank wsX4_rank) := goodIn_app (goodIn_of _ (by decide +kernel)) ggL_law_X4_rank
set_option maxRecDepth 20000 in
theorem ggL_law_X5_rank : GoodIn wsL_law wsX5_rank := goodIn_r _ [414, 415, 416, 219, 220, 221, 5, 222, 91, 223, 115, 97, 82, 81, 92, 224, 225, 226, 227, 83, 228, 229, 230, 231, 232, 233, 234, 235, 236, 237, 238, 239, 417, 418, 419, 420, 93, 94, 421, 422, 423, 424, 88, 85, 89, 240, 241, 242, 243, 281, 282, 283, 284, 425, 426, 427, 428, 429, 430, 431, 432, 433, 434, 435, 436, 437, 438, 439, 688, 689, 690, 691, 692, 693, 694, 695, 696, 697, 698, 699, 700, 701, 702, 703, 704, 705, 706, 707] (by decide +kernel) (by decide +kernel)
set_option maxRecDepth 20000 in
theorem gL_law_X5_rank : GoodIn wsL_law (wsV RL 76 RX5 yX5_rank wsX5_rank) := goodIn_app (goodIn_of _ (by decide +kernel)) ggL_law_X5_rank
set_option maxRecDepth 20000 in
theorem ggL_law_X4_isConsistent : GoodIn wsL_law wsX4_isConsistent := goodIn_r _ [443, 25, 15, 21, 368, 369, 370, 24, 371, 372, 373, 374, 375, 376, 377, 378, 56, 379, 208, 209, 14, 210, 36, 380, 355, 356, 20, 357, 46, 381, 382, 383, 384, 52, 385, 386, 387, 109, 70, 110, 388, 270, 271, 272, 38, 389, 390, 391, 392, 393, 394, 53, 54, 395, 69, 71, 396, 397, 398, 399, 400, 401, 402, 403, 404, 405, 406, 407, 408, 409, 410, 444, 445, 446, 447, 683, 684, 685, 686, 687, 708, 709, 710, 711, 712, 713, 714, 715, 720, 721, 722, 723, 724, 725, 726, 727, 716, 717, 718, 719] (by decide +kernel) (by decide +kernel)
set_option maxRecDepth 20000 in
theorem gL_law_X4_isConsistent : GoodIn wsL_law (wsV RL 77 RX4 yX4_isConsistent wsX4_isConsistent) := goodIn_app (goodIn_of _ (by decide +kernel)) ggL_law_X4_isConsistent
set_option maxRecDepth 20000 in
theorem ggL_law_X5_isConsistent : GoodIn wsL_law wsX5_isConsistent := goodIn_r _ [451, 219, 220, 221, 5, 222, 91, 223, 115, 97, 82, 81, 92, 224, 225, 226, 227, 83, 228, 229, 230, 231, 232, 233, 234, 235, 236, 237, 238, 239, 417, 418, 419, 420, 416, 93, 94, 421, 422, 423, 424, 415, 88, 85, 89, 240, 241, 242, 243, 281, 282, 283, 284, 425, 426, 427, 428, 429, 430, 431, 432, 433, 434, 435, 436, 437, 438, 439, 452, 453, 454, 455, 688, 689, 690, 691, 692, 693, 694, 695, 696, 697, 698, 699, 700, 701, 702, 703, 704, 705, 706, 707] (by decide +kernel) (by decide +kernel)
set_option maxRecDepth 20000 in
theorem gL_law_X5_isConsistent : GoodIn wsL_law (wsV RL 80 RX5 yX5_isConsistent wsX5_isConsistent) := goodIn_app (goodIn_of _ (by decide +kernel)) ggL_law_X5_isConsistent
set_option maxRecDepth 20000 in
theorem ggL_law_X4_isIdentifiable : GoodIn wsL_law wsX4_isIdentifiable := goodIn_r _ [459, 25, 15, 21, 202, 203, 204, 2, 205, 123, 124, 125, 126, 127, 128, 129, 14, 130, 66, 206, 159, 160, 207, 208, 209, 210, 36, 368, 369, 370, 24, 371, 372, 373, 374, 375, 376, 377, 378, 56, 379, 380, 355, 356, 20, 357, 46, 381, 382, 383, 384, 52, 385, 386, 387, 109, 70, 110, 388, 270, 271, 272, 38, 389, 390, 391, 392, 393, 394, 53, 54, 395, 69, 71, 396, 397, 398, 399, 400, 401, 402, 403, 404, 405, 406, 407, 408, 409, 410, 460, 461, 462, 463, 464, 465, 466, 467, 468, 469, 470, 471, 683, 684, 685, 686, 687, 708, 709, 710, 711, 712, 713, 714, 715, 720, 721, 722, 723, 724, 725, 726, 727, 716, 717, 718, 719] (by decide +kernel) (by decide +kernel)
set_option maxRecDepth 20000 in
theorem gL_law_X4_isIdentifiable : GoodIn wsL_law (wsV RL 81 RX4 yX4_isIdentifiable wsX4_isIdentifiable) := goodIn_app (goodIn_of _ (by decide +kernel)) ggL_law_X4_isIdentifiable
set_option maxRecDepth 20000 in
theorem ggL_law_X5_isIdentifiable : GoodIn wsL_law wsX5_isIdentifiable := goodIn_r _ [475, 215, 216, 217, 5, 218, 169, 170, 171, 172, 173, 174, 175, 176, 97, 116, 117, 118, 219, 220, 221, 222, 91, 223, 115, 82, 81, 92, 224, 225, 226, 227, 83, 228, 229, 230, 231, 232, 233, 234, 235, 236, 237, 238, 239, 240, 241, 242, 243, 417, 418, 419, 420, 416, 93, 94, 421, 422, 423, 424, 415, 88, 85, 89, 281, 282, 283, 284, 425, 426, 427, 428, 429, 430, 431, 432, 433, 434, 435, 436, 437, 438, 439, 476, 477, 478, 479, 688, 689, 690, 691, 692, 693, 694, 695, 696, 697, 698, 699, 700, 701, 702, 703, 704, 705, 706, 707] (by decide +kernel) (by decide +kernel)
set_option maxRecDepth 20000 in
theorem gL_law_X5_isIdentifiable : GoodIn wsL_law (wsV RL 84 RX5 yX5_isIdentifiable wsX5_isIdentifiable) := goodIn_app (goodIn_of _ (by decide +kernel)) ggL_law_X5_isIdentifiable
set_option maxRecDepth 20000 in
theorem ggL_law_X4_identifiableCount : GoodIn wsL_law wsX4_identifiableCount := goodIn_r _ [483, 25, 15, 21, 368, 369, 370, 24, 371, 372, 373, 374, 375, 376, 377, 378, 56, 379, 208, 209, 14, 210, 36, 380, 355, 356, 20, 357, 46, 381, 382, 383, 384, 52, 385, 386, 387, 109, 70, 110, 388, 270, 271, 272, 38, 389, 390, 391, 392, 393, 394, 53, 54, 395, 69, 71, 396, 397, 398, 399, 400, 401, 402, 403, 404, 405, 406, 407, 408, 409, 410, 207, 460, 461, 462, 463, 464, 465, 466, 467, 468, 469, 470, 471, 683, 684, 685, 686, 687, 708, 709, 710, 711, 712, 713, 714, 715, 720, 721, 722, 723, 724, 725, 726, 727, 716, 717, 718, 719] (by decide +kernel) (by decide +kernel)
set_option maxRecDepth 20000 in
theorem gL_law_X4_identifiableCount : GoodIn wsL_law (wsV RL 85 RX4 yX4_identifiableCount wsX4_identifiableCount) := goodIn_app (goodIn_of _ (by decide +kernel)) ggL_law_X4_identifiableCount
set_option maxRecDepth 20000 in
theorem ggL_law_X5_identifiableCount : GoodIn wsL_law wsX5_identifiableCount := goodIn_r _ [487, 219, 220, 221, 5, 222, 91, 223, 115, 97, 82, 81, 92, 224, 225, 226, 227, 83, 228, 229, 230, 231, 232, 233, 234, 235, 236, 237, 238, 239, 488, 489, 490, 491, 417, 418, 419, 420, 416, 93, 94, 421, 422, 423, 424, 415, 88, 85, 89, 240, 241, 242, 243, 281, 282, 283, 284, 425, 426, 427, 428, 429, 430, 431, 432, 433, 434, 435, 436, 437, 438, 439, 476, 477, 478, 479, 688, 689, 690, 691, 692, 693, 694, 695, 696, 697, 698, 699, 700, 701, 702, 703, 704, 705, 706, 707] (by decide +kernel) (by decide +kernel)
set_option maxRecDepth 20000 in
theorem gL_law_X5_identifiableCount : GoodIn wsL_law (wsV RL 88 RX5 yX5_identifiableCount wsX5_identifiableCount) := goodIn_app (goodIn_of _ (by decide +kernel)) ggL_law_X5_identifiableCount
set_option maxRecDepth 20000 in
theorem ggL_law_X4_identifiedNumerator : GoodIn wsL_law wsX4_identifiedNumerator := goodIn_r _ [495, 496, 25, 21, 497, 498, 499, 2, 500, 15, 202, 203, 204, 205, 123, 124, 125, 126, 127, 128, 129, 14, 130, 66, 206, 159, 160, 207, 208, 209, 210, 36, 368, 369, 370, 24, 371, 372, 373, 374, 375, 376, 377, 378, 56, 379, 380, 355, 356, 20, 357, 46, 381, 382, 383, 384, 52, 385, 386, 387, 109, 70, 110, 388, 270, 271, 272, 38, 389, 390, 391, 392, 393, 394, 53, 54, 395, 69, 71, 396, 397, 398, 399, 400, 401, 402, 403, 404, 405, 406, 407, 408, 409, 410, 460, 461, 462, 463, 464, 465, 466, 467, 468, 469, 470, 471, 444, 445, 446, 447, 501, 502, 503, 504, 505, 506, 507, 508, 509, 510, 149, 511, 683, 684, 685, 686, 687, 708, 709, 710, 711, 712, 713, 714, 715, 720, 721, 722, 723, 724, 725, 726, 727, 716, 717, 718, 719] (by decide +kernel) (by decide +kernel)
set_option maxRecDepth 20000 in
theorem gL_law_X4_identifiedNumerator : GoodIn wsL_law (wsV RL 89 RX4 yX4_identifiedNumerator wsX4_identifiedNumerator) := goodIn_app (goodIn_of _ (by decide +kernel)) ggL_law_X4_identifiedNumerator
set_option maxRecDepth 20000 in
theorem ggL_law_X5_identifiedNumerator : GoodIn wsL_law wsX5_identifiedNumerator := goodIn_r _ [515, 516, 517, 518, 5, 519, 520, 88, 89, 93, 94, 521, 215, 216, 217, 218, 169, 170, 171, 172, 173, 174, 175, 176, 97, 116, 117, 118, 219, 220, 221, 222, 91, 223, 115, 82, 81, 92, 224, 225, 226, 227, 83, 228, 229, 230, 231, 232, 233, 234, 235, 236, 237, 238, 239, 240, 241, 242, 243, 417, 418, 419, 420, 416, 421, 422, 423, 424, 415, 85, 281, 282, 283, 284, 425, 426, 427, 428, 429, 430, 431, 432, 433, 434, 435, 436, 437, 438, 439, 476, 477, 478, 479, 452, 453, 454, 455, 688, 689, 690, 691, 692, 693, 694, 695, 696, 697, 698, 699, 700, 701, 702, 703, 704, 705, 706, 707] (by decide +kernel) (by decide +kernel)
set_option maxRecDepth 20000 in
theorem gL_law_X5_identifiedNumerator : GoodIn wsL_law (wsV RL 93 RX5 yX5_identifiedNumerator wsX5_identifiedNumerator) := goodIn_app (goodIn_of _ (by decide +kernel)) ggL_law_X5_identifiedNumerator
set_option maxRecDepth 20000 in
theorem ggL_law_X4_identifiedDenominator : GoodIn wsL_law wsX4_identifiedDenominator := goodIn_r _ [525, 496, 25, 497, 498, 499, 2, 500, 15, 21, 202, 203, 204, 205, 123, 124, 125, 126, 127, 128, 129, 14, 130, 66, 206, 159, 160, 207, 208, 209, 210, 36, 368, 369, 370, 24, 371, 372, 373, 374, 375, 376, 377, 378, 56, 379, 380, 355, 356, 20, 357, 46, 381, 382, 383, 384, 52, 385, 386, 387, 109, 70, 110, 388, 270, 271, 272, 38, 389, 390, 391, 392, 393, 394, 53, 54, 395, 69, 71, 396, 397, 398, 399, 400, 401, 402, 403, 404, 405, 406, 407, 408, 409, 410, 460, 461, 462, 463, 464, 465, 466, 467, 468, 469, 470, 471, 444, 445, 446, 447, 526, 527, 528, 529, 509, 510, 149, 511, 505, 506, 507, 508, 683, 684, 685, 686, 687, 708, 709, 710, 711, 712, 713, 714, 715, 720, 721, 722, 723, 724, 725, 726, 727, 716, 717, 718, 719] (by decide +kernel) (by decide +kernel)
set_option maxRecDepth 20000 in
theorem gL_law_X4_identifiedDenominator : GoodIn wsL_law (wsV RL 94 RX4 yX4_identifiedDenominator wsX4_identifiedDenominator) := goodIn_app (goodIn_of _ (by decide +kernel)) ggL_law_X4_identifiedDenominator
set_option maxRecDepth 20000 in
theorem ggL_law_X5_identifiedDenominator : GoodIn wsL_law wsX5_identifiedDenominator := goodIn_r _ [533, 516, 517, 518, 5, 519, 520, 88, 89, 93, 94, 521, 215, 216, 217, 218, 169, 170, 171, 172, 173, 174, 175, 176, 97, 116, 117, 118, 219, 220, 221, 222, 91, 223, 115, 82, 81, 92, 224, 225, 226, 227, 83, 228, 229, 230, 231, 232, 233, 234, 235, 236, 237, 238, 239, 240, 241, 242, 243, 417, 418, 419, 420, 416, 421, 422, 423, 424, 415, 85, 281, 282, 283, 284, 425, 426, 427, 428, 429, 430, 431, 432, 433, 434, 435, 436, 437, 438, 439, 476, 477, 478, 479, 452, 453, 454, 455, 688, 689, 690, 691, 692, 693, 694, 695, 696, 697, 698, 699, 700, 701, 702, 703, 704, 705, 706, 707] (by decide +kernel) (by decide +kernel)
set_option maxRecDepth 20000 in
theorem gL_law_X5_identifiedDenominator : GoodIn wsL_law (wsV RL 97 RX5 yX5_identifiedDenominator wsX5_identifiedDenominator) := goodIn_app (goodIn_of _ (by decide +kernel)) ggL_law_X5_identifiedDenominator
set_option maxRecDepth 20000 in
theorem ggL_law_X4_bestPair : GoodIn wsL_law wsX4_bestPair := goodIn_r _ [537, 25, 15, 21, 368, 369, 370, 24, 371, 372, 373, 374, 375, 376, 377, 378, 56, 379, 208, 209, 14, 210, 36, 380, 355, 356, 20, 357, 46, 381, 382, 383, 384, 52, 385, 386, 387, 109, 70, 110, 388, 270, 271, 272, 38, 389, 390, 391, 392, 393, 394, 53, 54, 395, 69, 71, 396, 397, 398, 399, 400, 401, 402, 403, 404, 405, 406, 407, 408, 409, 410, 207, 460, 461, 462, 463, 464, 465, 466, 467, 468, 469, 470, 471, 538, 539, 540, 2, 541, 542, 543, 544, 545, 546, 683, 684, 685, 686, 687, 708, 709, 710, 711, 712, 713, 714, 715, 720, 721, 722, 723, 724, 725, 726, 727, 716, 717, 718, 719] (by decide +kernel) (by decide +kernel)
set_option maxRecDepth 20000 in
theorem gL_law_X4_bestPair : GoodIn wsL_law (wsV RL 98 RX4 yX4_bestPair wsX4_bestPair) := goodIn_app (goodIn_of _ (by decide +kernel)) ggL_law_X4_bestPair
set_option maxRecDepth 20000 in
theorem ggL_law_X5_bestPair : GoodIn wsL_law wsX5_bestPair := goodIn_r _ [550, 95, 219, 220, 221, 5, 222, 91, 223, 115, 97, 82, 81, 92, 224, 225, 226, 227, 83, 228, 229, 230, 231, 232, 233, 234, 235, 236, 237, 238, 239, 417, 418, 419, 420, 416, 93, 94, 421, 422, 423, 424, 415, 88, 85, 89, 240, 241, 242, 243, 281, 282, 283, 284, 425, 426, 427, 428, 429, 430, 431, 432, 433, 434, 435, 436, 437, 438, 439, 476, 477, 478, 479, 488, 489, 490, 491, 688, 689, 690, 691, 692, 693, 694, 695, 696, 697, 698, 699, 700, 701, 702, 703, 704, 705, 706, 707] (by decide +kernel) (by decide +kernel)
set_option maxRecDepth 20000 in
theorem gL_law_X5_bestPair : GoodIn wsL_law (wsV RL 101 RX5 yX5_bestPair wsX5_bestPair) := goodIn_app (goodIn_of _ (by decide +kernel)) ggL_law_X5_bestPair
set_option maxRecDepth 20000 in
theorem ggL_law_X4_pairsOnLink : GoodIn wsL_law wsX4_pairsOnLink := goodIn_r _ [554, 15, 181, 182, 183, 14, 184, 67, 555, 270, 271, 272, 36, 38, 683, 684, 685, 686, 687, 708, 709, 710, 711, 712, 713, 714, 715] (by decide +kernel) (by decide +kernel)
set_option maxRecDepth 20000 in
theorem gL_law_X4_pairsOnLink : GoodIn wsL_law (wsV RL 102 RX4 yX4_pairsOnLink wsX4_pairsOnLink) := goodIn_app (goodIn_of _ (by decide +kernel)) ggL_law_X4_pairsOnLink
set_option maxRecDepth 20000 in
theorem ggL_law_X5_pairsOnLink : GoodIn wsL_law wsX5_pairsOnLink := goodIn_r _ [559, 193, 194, 195, 5, 196, 115, 116, 117, 118, 219, 220, 221, 222, 91, 223, 97, 82, 81, 92, 224, 225, 226, 227, 83, 228, 229, 230, 231, 232, 233, 234, 235, 236, 237, 238, 239, 281, 282, 283, 284, 688, 689, 690, 691, 692, 693, 694, 695, 696, 697, 698, 699, 700, 701, 702, 703, 704, 705, 706, 707] (by decide +kernel) (by decide +kernel)
set_option maxRecDepth 20000 in
theorem gL_law_X5_pairsOnLink : GoodIn wsL_law (wsV RL 105 RX5 yX5_pairsOnLink wsX5_pairsOnLink) := goodIn_app (goodIn_of _ (by decide +kernel)) ggL_law_X5_pairsOnLink
set_option maxRecDepth 20000 in
theorem ggL_law_X4_applyGravity : GoodIn wsL_law wsX4_applyGravity := goodIn_r _ [563, 29, 15, 21, 564, 565, 566, 28, 567, 60, 568, 569, 570, 297, 298, 20, 299, 44, 571, 208, 209, 14, 210, 36, 572, 573, 574, 575, 683, 684, 685, 686, 687, 728, 729, 716, 717, 718, 719, 708, 709, 710, 711, 712, 713, 714, 715] (by decide +kernel) (by decide +kernel)
set_option maxRecDepth 20000 in
theorem gL_law_X4_applyGravity : GoodIn wsL_law (wsV RL 106 RX4 yX4_applyGravity wsX4_applyGravity) := goodIn_app (goodIn_of _ (by decide +kernel)) ggL_law_X4_applyGravity
set_option maxRecDepth 20000 in
theorem ggL_law_X5_applyGravity : GoodIn wsL_law wsX5_applyGravity := goodIn_r _ [579, 97, 86, 90, 87, 580, 219, 220, 221, 5, 222, 91, 223, 115, 82, 81, 92, 224, 225, 226, 227, 83, 228, 229, 230, 231, 232, 233, 234, 235, 236, 237, 238, 239, 240, 241, 242, 243, 688, 689, 690, 691, 692, 693, 694, 695, 696, 697, 698, 699, 700, 701, 702, 703, 704, 705, 706, 707] (by decide +kernel) (by decide +kernel)
set_option maxRecDepth 20000 in
theorem gL_law_X5_applyGravity : GoodIn wsL_law (wsV RL 109 RX5 yX5_applyGravity wsX5_applyGravity) := goodIn_app (goodIn_of _ (by decide +kernel)) ggL_law_X5_applyGravity
set_option maxRecDepth 20000 in
theorem ggL_law_X4_fitTotals : GoodIn wsL_law wsX4_fitTotals := goodIn_r _ [584, 29, 21, 585, 586, 2, 587, 588, 589, 590, 28, 591, 60, 61, 592, 593, 594, 595, 596, 597, 598, 599, 568, 569, 159, 160, 600, 601, 602, 603, 572, 573, 574, 575, 604, 605, 606, 607, 683, 684, 685, 686, 687, 728, 729, 716, 717, 718, 719] (by decide +kernel) (by decide +kernel)
set_option maxRecDepth 20000 in
theorem gL_law_X4_fitTotals : GoodIn wsL_law (wsV RL 110 RX4 yX4_fitTotals wsX4_fitTotals) := goodIn_app (goodIn_of _ (by decide +kernel)) ggL_law_X4_fitTotals
set_option maxRecDepth 20000 in
theorem ggL_law_X5_fitTotals : GoodIn wsL_law wsX5_fitTotals := goodIn_r _ [611, 97, 86, 87, 116, 117, 5, 118, 612, 613, 614, 615, 96, 90, 219, 220, 221, 222, 91, 223, 115, 82, 81, 92, 224, 225, 226, 227, 83, 228, 229, 230, 231, 232, 233, 234, 235, 236, 237, 238, 239, 240, 241, 242, 243, 616, 617, 618, 619, 580, 620, 621, 622, 623, 624, 625, 626, 627, 281, 282, 283, 284, 628, 629, 630, 631, 688, 689, 690, 691, 692, 693, 694, 695, 696, 697, 698, 699, 700, 701, 702, 703, 704, 705, 706, 707] (by decide +kernel) (by decide +kernel)
set_option maxRecDepth 20000 in
theorem gL_law_X5_fitTotals : GoodIn wsL_law (wsV RL 113 RX5 yX5_fitTotals wsX5_fitTotals) := goodIn_app (goodIn_of _ (by decide +kernel)) ggL_law_X5_fitTotals
set_option maxRecDepth 20000 in
theorem ggL_law_X4_fitLinks : GoodIn wsL_law wsX4_fitLinks := goodIn_r _ [635, 29, 15, 21, 585, 586, 2, 587, 588, 589, 590, 28, 591, 60, 61, 592, 593, 594, 595, 636, 637, 638, 639, 640, 641, 642, 643, 644, 645, 646, 647, 648, 649, 650, 270, 271, 14, 272, 36, 38, 572, 573, 574, 575, 604, 605, 606, 607, 683, 684, 685, 686, 687, 728, 729, 708, 709, 710, 711, 712, 713, 714, 715, 716, 717, 718, 719] (by decide +kernel) (by decide +kernel)
set_option maxRecDepth 20000 in
theorem gL_law_X4_fitLinks : GoodIn wsL_law (wsV RL 114 RX4 yX4_fitLinks wsX4_fitLinks) := goodIn_app (goodIn_of _ (by decide +kernel)) ggL_law_X4_fitLinks
set_option maxRecDepth 20000 in
theorem ggL_law_X5_fitLinks : GoodIn wsL_law wsX5_fitLinks := goodIn_r _ [654, 115, 85, 116, 117, 5, 118, 612, 613, 614, 615, 96, 90, 219, 220, 221, 222, 91, 223, 97, 82, 81, 92, 224, 225, 226, 227, 83, 228, 229, 230, 231, 232, 233, 234, 235, 236, 237, 238, 239, 240, 241, 242, 243, 616, 617, 618, 619, 580, 620, 621, 622, 623, 624, 625, 626, 627, 281, 282, 283, 284, 628, 629, 630, 631, 688, 689, 690, 691, 692, 693, 694, 695, 696, 697, 698, 699, 700, 701, 702, 703, 704, 705, 706, 707] (by decide +kernel) (by decide +kernel)
set_option maxRecDepth 20000 in
theorem gL_law_X5_fitLinks : GoodIn wsL_law (wsV RL 117 RX5 yX5_fitLinks wsX5_fitLinks) := goodIn_app (goodIn_of _ (by decide +kernel)) ggL_law_X5_fitLinks
set_option maxRecDepth 20000 in
theorem ggL_law_X4_estimate : GoodIn wsL_law wsX4_estimate := goodIn_r _ [658, 496, 29, 659, 123, 124, 125, 2, 126, 15, 127, 128, 129, 14, 130, 66, 206, 159, 160, 683, 684, 685, 686, 687, 728, 729, 708, 709, 710, 711, 712, 713, 714, 715] (by decide +kernel) (by decide +kernel)
set_option maxRecDepth 20000 in
theorem gL_law_X4_estimate : GoodIn wsL_law (wsV RL 118 RX4 yX4_estimate wsX4_estimate) := goodIn_app (goodIn_of _ (by decide +kernel)) ggL_law_X4_estimate
set_option maxRecDepth 20000 in
theorem ggL_law_X5_estimate : GoodIn wsL_law wsX5_estimate := goodIn_r _ [663, 520, 90, 169, 170, 171, 5, 172, 173, 174, 175, 176, 97, 116, 117, 118, 688, 689, 690, 691, 692, 693, 694, 695, 696, 697, 698, 699, 700, 701, 702, 703, 704, 705, 706, 707] (by decide +kernel) (by decide +kernel)
set_option maxRecDepth 20000 in
theorem gL_law_X5_estimate : GoodIn wsL_law (wsV RL 121 RX5 yX5_estimate wsX5_estimate) := goodIn_app (goodIn_of _ (by decide +kernel)) ggL_law_X5_estimate
set_option maxRecDepth 20000 in
theorem ggL_law_X4_residual : GoodIn wsL_law wsX4_residual := goodIn_r _ [667, 15, 496, 29, 668, 21, 309, 181, 182, 183, 14, 184, 67, 669, 647, 648, 28, 649, 60, 650, 270, 271, 272, 36, 38, 683, 684, 685, 686, 687, 716, 717, 718, 719, 708, 709, 710, 711, 712, 713, 714, 715, 728, 729] (by decide +kernel) (by decide +kernel)
set_option maxRecDepth 20000 in
theorem gL_law_X4_residual : GoodIn wsL_law (wsV RL 122 RX4 yX4_residual wsX4_residual) := goodIn_app (goodIn_of _ (by decide +kernel)) ggL_law_X4_residual
set_option maxRecDepth 20000 in
theorem ggL_law_X5_residual : GoodIn wsL_law wsX5_residual := goodIn_r _ [673, 520, 580, 85, 193, 194, 195, 5, 196, 115, 116, 117, 118, 219, 220, 221, 222, 91, 223, 97, 82, 81, 92, 224, 225, 226, 227, 83, 228, 229, 230, 231, 232, 233, 234, 235, 236, 237, 238, 239, 620, 621, 622, 623, 90, 624, 625, 626, 627, 281, 282, 283, 284, 688, 689, 690, 691, 692, 693, 694, 695, 696, 697, 698, 699, 700, 701, 702, 703, 704, 705, 706, 707] (by decide +kernel) (by decide +kernel)
set_option maxRecDepth 20000 in
theorem gL_law_X5_residual : GoodIn wsL_law (wsV RL 126 RX5 yX5_residual wsX5_residual) := goodIn_app (goodIn_of _ (by decide +kernel)) ggL_law_X5_residual
set_option maxRecDepth 20000 in
theorem ggL_law_X4_totalError : GoodIn wsL_law wsX4_totalError := goodIn_r _ [677, 15, 29, 659, 668, 17, 678, 510, 149, 511, 207, 208, 209, 14, 210, 36, 683, 684, 685, 686, 687, 728, 729, 708, 709, 710, 711, 712, 713, 714, 715] (by decide +kernel) (by decide +kernel)
set_option maxRecDepth 20000 in
theorem gL_law_X4_totalError : GoodIn wsL_law (wsV RL 127 RX4 yX4_totalError wsX4_totalError) := goodIn_app (goodIn_of _ (by decide +kernel)) ggL_law_X4_totalError
set_option maxRecDepth 20000 in
theorem ggL_law_X5_totalError : GoodIn wsL_law wsX5_totalError := goodIn_r _ [682, 90, 580, 84, 219, 220, 221, 5, 222, 91, 223, 115, 97, 82, 81, 92, 224, 225, 226, 227, 83, 228, 229, 230, 231, 232, 233, 234, 235, 236, 237, 238, 239, 240, 241, 242, 243, 688, 689, 690, 691, 692, 693, 694, 695, 696, 697, 698, 699, 700, 701, 702, 703, 704, 705, 706, 707] (by decide +kernel) (by decide +kernel)
set_option maxRecDepth 20000 in
theorem gL_law_X5_totalError : GoodIn wsL_law (wsV RL 131 RX5 yX5_totalError wsX5_totalError) := goodIn_app (goodIn_of _ (by decide +kernel)) ggL_law_X5_totalError
theorem dL_law_0 : decode cL_law 0 = .ok (.new 7, 3) := by decide +kernel
theorem dL_law_3 : decode cL_law 3 = .ok (.dup, 1) := by decide +kernel
theorem dL_law_4 : decode cL_law 4 = .ok (.invokespecial 9, 3) := by decide +kernel
theorem dL_law_7 : decode cL_law 7 = .ok (.astore_n 1, 1) := by decide +kernel
theorem dL_law_8 : decode cL_law 8 = .ok (.new 10, 3) := by decide +kernel
theorem dL_law_11 : decode cL_law 11 = .ok (.dup, 1) := by decide +kernel
theorem dL_law_12 : decode cL_law 12 = .ok (.invokespecial 12, 3) := by decide +kernel
theorem dL_law_15 : decode cL_law 15 = .ok (.astore_n 2, 1) := by decide +kernel
theorem dL_law_16 : decode cL_law 16 = .ok (.iconst 0, 1) := by decide +kernel
theorem dL_law_17 : decode cL_law 17 = .ok (.istore_n 3, 1) := by decide +kernel
theorem dL_law_18 : decode cL_law 18 = .ok (.iload_n 3, 1) := by decide +kernel
theorem dL_law_19 : decode cL_law 19 = .ok (.aload_n 0, 1) := by decide +kernel
theorem dL_law_20 : decode cL_law 20 = .ok (.arraylength, 1) := by decide +kernel
theorem dL_law_21 : decode cL_law 21 = .ok (.iconst 4, 1) := by decide +kernel
theorem dL_law_22 : decode cL_law 22 = .ok (.isub, 1) := by decide +kernel
theorem dL_law_23 : decode cL_law 23 = .ok (.if_icmp .gt 872, 3) := by decide +kernel
theorem dL_law_26 : decode cL_law 26 = .ok (.aload_n 0, 1) := by decide +kernel
theorem dL_law_27 : decode cL_law 27 = .ok (.iload_n 3, 1) := by decide +kernel
theorem dL_law_28 : decode cL_law 28 = .ok (.iaload, 1) := by decide +kernel
theorem dL_law_29 : decode cL_law 29 = .ok (.bipush 31, 2) := by decide +kernel
theorem dL_law_31 : decode cL_law 31 = .ok (.iand, 1) := by decide +kernel
theorem dL_law_32 : decode cL_law 32 = .ok (.tableswitch 857 0 27 #[128, 151, 194, 227, 260, 303, 346, 369, 382, 415, 438, 461, 484, 517, 550, 563, 576, 609, 622, 656, 690, 703, 726, 739, 762, 785, 819, 843], 128) := by decide +kernel
theorem dL_law_160 : decode cL_law 160 = .ok (.aload_n 1, 1) := by decide +kernel
theorem dL_law_161 : decode cL_law 161 = .ok (.aload_n 0, 1) := by decide +kernel
theorem dL_law_162 : decode cL_law 162 = .ok (.iload_n 3, 1) := by decide +kernel
theorem dL_law_163 : decode cL_law 163 = .ok (.iconst 1, 1) := by decide +kernel
theorem dL_law_164 : decode cL_law 164 = .ok (.iadd, 1) := by decide +kernel
theorem dL_law_165 : decode cL_law 165 = .ok (.iaload, 1) := by decide +kernel
theorem dL_law_166 : decode cL_law 166 = .ok (.invokevirtual 13, 3) := by decide +kernel
theorem dL_law_169 : decode cL_law 169 = .ok (.aload_n 2, 1) := by decide +kernel
theorem dL_law_170 : decode cL_law 170 = .ok (.aload_n 0, 1) := by decide +kernel
theorem dL_law_171 : decode cL_law 171 = .ok (.iload_n 3, 1) := by decide +kernel
theorem dL_law_172 : decode cL_law 172 = .ok (.iconst 1, 1) := by decide +kernel
theorem dL_law_173 : decode cL_law 173 = .ok (.iadd, 1) := by decide +kernel
theorem dL_law_174 : decode cL_law 174 = .ok (.iaload, 1) := by decide +kernel
theorem dL_law_175 : decode cL_law 175 = .ok (.invokevirtual 17, 3) := by decide +kernel
theorem dL_law_178 : decode cL_law 178 = .ok (.if_icmp .eq 711, 3) := by decide +kernel
theorem dL_law_181 : decode cL_law 181 = .ok (.iconst 0, 1) := by decide +kernel
theorem dL_law_182 : decode cL_law 182 = .ok (.ireturn, 1) := by decide +kernel
theorem dL_law_183 : decode cL_law 183 = .ok (.aload_n 1, 1) := by decide +kernel
theorem dL_law_184 : decode cL_law 184 = .ok (.aload_n 0, 1) := by decide +kernel
theorem dL_law_185 : decode cL_law 185 = .ok (.iload_n 3, 1) := by decide +kernel
theorem dL_law_186 : decode cL_law 186 = .ok (.iconst 1, 1) := by decide +kernel
theorem dL_law_187 : decode cL_law 187 = .ok (.iadd, 1) := by decide +kernel
theorem dL_law_188 : decode cL_law 188 = .ok (.iaload, 1) := by decide +kernel
theorem dL_law_189 : decode cL_law 189 = .ok (.aload_n 0, 1) := by decide +kernel
theorem dL_law_190 : decode cL_law 190 = .ok (.iload_n 3, 1) := by decide +kernel
theorem dL_law_191 : decode cL_law 191 = .ok (.iconst 2, 1) := by decide +kernel
theorem dL_law_192 : decode cL_law 192 = .ok (.iadd, 1) := by decide +kernel
theorem dL_law_193 : decode cL_law 193 = .ok (.iaload, 1) := by decide +kernel
theorem dL_law_194 : decode cL_law 194 = .ok (.aload_n 0, 1) := by decide +kernel
theorem dL_law_195 : decode cL_law 195 = .ok (.iload_n 3, 1) := by decide +kernel
theorem dL_law_196 : decode cL_law 196 = .ok (.iconst 3, 1) := by decide +kernel
theorem dL_law_197 : decode cL_law 197 = .ok (.iadd, 1) := by decide +kernel
theorem dL_law_198 : decode cL_law 198 = .ok (.iaload, 1) := by decide +kernel
theorem dL_law_199 : decode cL_law 199 = .ok (.invokevirtual 18, 3) := by decide +kernel
theorem dL_law_202 : decode cL_law 202 = .ok (.aload_n 2, 1) := by decide +kernel
theorem dL_law_203 : decode cL_law 203 = .ok (.aload_n 0, 1) := by decide +kernel
theorem dL_law_204 : decode cL_law 204 = .ok (.iload_n 3, 1) := by decide +kernel
theorem dL_law_205 : decode cL_law 205 = .ok (.iconst 1, 1) := by decide +kernel
theorem dL_law_206 : decode cL_law 206 = .ok (.iadd, 1) := by decide +kernel
theorem dL_law_207 : decode cL_law 207 = .ok (.iaload, 1) := by decide +kernel
theorem dL_law_208 : decode cL_law 208 = .ok (.aload_n 0, 1) := by decide +kernel
theorem dL_law_209 : decode cL_law 209 = .ok (.iload_n 3, 1) := by decide +kernel
theorem dL_law_210 : decode cL_law 210 = .ok (.iconst 2, 1) := by decide +kernel
theorem dL_law_211 : decode cL_law 211 = .ok (.iadd, 1) := by decide +kernel
theorem dL_law_212 : decode cL_law 212 = .ok (.iaload, 1) := by decide +kernel
theorem dL_law_213 : decode cL_law 213 = .ok (.aload_n 0, 1) := by decide +kernel
theorem dL_law_214 : decode cL_law 214 = .ok (.iload_n 3, 1) := by decide +kernel
theorem dL_law_215 : decode cL_law 215 = .ok (.iconst 3, 1) := by decide +kernel
theorem dL_law_216 : decode cL_law 216 = .ok (.iadd, 1) := by decide +kernel
theorem dL_law_217 : decode cL_law 217 = .ok (.iaload, 1) := by decide +kernel
theorem dL_law_218 : decode cL_law 218 = .ok (.invokevirtual 22, 3) := by decide +kernel
theorem dL_law_221 : decode cL_law 221 = .ok (.if_icmp .eq 668, 3) := by decide +kernel
theorem dL_law_224 : decode cL_law 224 = .ok (.iconst 0, 1) := by decide +kernel
theorem dL_law_225 : decode cL_law 225 = .ok (.ireturn, 1) := by decide +kernel
theorem dL_law_226 : decode cL_law 226 = .ok (.aload_n 1, 1) := by decide +kernel
theorem dL_law_227 : decode cL_law 227 = .ok (.aload_n 0, 1) := by decide +kernel
theorem dL_law_228 : decode cL_law 228 = .ok (.iload_n 3, 1) := by decide +kernel
theorem dL_law_229 : decode cL_law 229 = .ok (.iconst 1, 1) := by decide +kernel
theorem dL_law_230 : decode cL_law 230 = .ok (.iadd, 1) := by decide +kernel
theorem dL_law_231 : decode cL_law 231 = .ok (.iaload, 1) := by decide +kernel
theorem dL_law_232 : decode cL_law 232 = .ok (.aload_n 0, 1) := by decide +kernel
theorem dL_law_233 : decode cL_law 233 = .ok (.iload_n 3, 1) := by decide +kernel
theorem dL_law_234 : decode cL_law 234 = .ok (.iconst 2, 1) := by decide +kernel
theorem dL_law_235 : decode cL_law 235 = .ok (.iadd, 1) := by decide +kernel
theorem dL_law_236 : decode cL_law 236 = .ok (.iaload, 1) := by decide +kernel
theorem dL_law_237 : decode cL_law 237 = .ok (.invokevirtual 23, 3) := by decide +kernel
theorem dL_law_240 : decode cL_law 240 = .ok (.aload_n 2, 1) := by decide +kernel
theorem dL_law_241 : decode cL_law 241 = .ok (.aload_n 0, 1) := by decide +kernel
theorem dL_law_242 : decode cL_law 242 = .ok (.iload_n 3, 1) := by decide +kernel
theorem dL_law_243 : decode cL_law 243 = .ok (.iconst 1, 1) := by decide +kernel
theorem dL_law_244 : decode cL_law 244 = .ok (.iadd, 1) := by decide +kernel
theorem dL_law_245 : decode cL_law 245 = .ok (.iaload, 1) := by decide +kernel
theorem dL_law_246 : decode cL_law 246 = .ok (.aload_n 0, 1) := by decide +kernel
theorem dL_law_247 : decode cL_law 247 = .ok (.iload_n 3, 1) := by decide +kernel
theorem dL_law_248 : decode cL_law 248 = .ok (.iconst 2, 1) := by decide +kernel
theorem dL_law_249 : decode cL_law 249 = .ok (.iadd, 1) := by decide +kernel
theorem dL_law_250 : decode cL_law 250 = .ok (.iaload, 1) := by decide +kernel
theorem dL_law_251 : decode cL_law 251 = .ok (.invokevirtual 27, 3) := by decide +kernel
theorem dL_law_254 : decode cL_law 254 = .ok (.if_icmp .eq 635, 3) := by decide +kernel
theorem dL_law_257 : decode cL_law 257 = .ok (.iconst 0, 1) := by decide +kernel
theorem dL_law_258 : decode cL_law 258 = .ok (.ireturn, 1) := by decide +kernel
theorem dL_law_259 : decode cL_law 259 = .ok (.aload_n 1, 1) := by decide +kernel
theorem dL_law_260 : decode cL_law 260 = .ok (.aload_n 0, 1) := by decide +kernel
theorem dL_law_261 : decode cL_law 261 = .ok (.iload_n 3, 1) := by decide +kernel
theorem dL_law_262 : decode cL_law 262 = .ok (.iconst 1, 1) := by decide +kernel
theorem dL_law_263 : decode cL_law 263 = .ok (.iadd, 1) := by decide +kernel
theorem dL_law_264 : decode cL_law 264 = .ok (.iaload, 1) := by decide +kernel
theorem dL_law_265 : decode cL_law 265 = .ok (.aload_n 0, 1) := by decide +kernel
theorem dL_law_266 : decode cL_law 266 = .ok (.iload_n 3, 1) := by decide +kernel
theorem dL_law_267 : decode cL_law 267 = .ok (.iconst 2, 1) := by decide +kernel
theorem dL_law_268 : decode cL_law 268 = .ok (.iadd, 1) := by decide +kernel
theorem dL_law_269 : decode cL_law 269 = .ok (.iaload, 1) := by decide +kernel
theorem dL_law_270 : decode cL_law 270 = .ok (.invokevirtual 28, 3) := by decide +kernel
theorem dL_law_273 : decode cL_law 273 = .ok (.aload_n 2, 1) := by decide +kernel
theorem dL_law_274 : decode cL_law 274 = .ok (.aload_n 0, 1) := by decide +kernel
theorem dL_law_275 : decode cL_law 275 = .ok (.iload_n 3, 1) := by decide +kernel
theorem dL_law_276 : decode cL_law 276 = .ok (.iconst 1, 1) := by decide +kernel
theorem dL_law_277 : decode cL_law 277 = .ok (.iadd, 1) := by decide +kernel
theorem dL_law_278 : decode cL_law 278 = .ok (.iaload, 1) := by decide +kernel
theorem dL_law_279 : decode cL_law 279 = .ok (.aload_n 0, 1) := by decide +kernel
theorem dL_law_280 : decode cL_law 280 = .ok (.iload_n 3, 1) := by decide +kernel
theorem dL_law_281 : decode cL_law 281 = .ok (.iconst 2, 1) := by decide +kernel
theorem dL_law_282 : decode cL_law 282 = .ok (.iadd, 1) := by decide +kernel
theorem dL_law_283 : decode cL_law 283 = .ok (.iaload, 1) := by decide +kernel
theorem dL_law_284 : decode cL_law 284 = .ok (.invokevirtual 31, 3) := by decide +kernel
theorem dL_law_287 : decode cL_law 287 = .ok (.if_icmp .eq 602, 3) := by decide +kernel
theorem dL_law_290 : decode cL_law 290 = .ok (.iconst 0, 1) := by decide +kernel
theorem dL_law_291 : decode cL_law 291 = .ok (.ireturn, 1) := by decide +kernel
theorem dL_law_292 : decode cL_law 292 = .ok (.aload_n 1, 1) := by decide +kernel
theorem dL_law_293 : decode cL_law 293 = .ok (.aload_n 0, 1) := by decide +kernel
theorem dL_law_294 : decode cL_law 294 = .ok (.iload_n 3, 1) := by decide +kernel
theorem dL_law_295 : decode cL_law 295 = .ok (.iconst 1, 1) := by decide +kernel
theorem dL_law_296 : decode cL_law 296 = .ok (.iadd, 1) := by decide +kernel
theorem dL_law_297 : decode cL_law 297 = .ok (.iaload, 1) := by decide +kernel
theorem dL_law_298 : decode cL_law 298 = .ok (.aload_n 0, 1) := by decide +kernel
theorem dL_law_299 : decode cL_law 299 = .ok (.iload_n 3, 1) := by decide +kernel
theorem dL_law_300 : decode cL_law 300 = .ok (.iconst 2, 1) := by decide +kernel
theorem dL_law_301 : decode cL_law 301 = .ok (.iadd, 1) := by decide +kernel
theorem dL_law_302 : decode cL_law 302 = .ok (.iaload, 1) := by decide +kernel
theorem dL_law_303 : decode cL_law 303 = .ok (.aload_n 0, 1) := by decide +kernel
theorem dL_law_304 : decode cL_law 304 = .ok (.iload_n 3, 1) := by decide +kernel
theorem dL_law_305 : decode cL_law 305 = .ok (.iconst 3, 1) := by decide +kernel
theorem dL_law_306 : decode cL_law 306 = .ok (.iadd, 1) := by decide +kernel
theorem dL_law_307 : decode cL_law 307 = .ok (.iaload, 1) := by decide +kernel
theorem dL_law_308 : decode cL_law 308 = .ok (.invokevirtual 32, 3) := by decide +kernel
theorem dL_law_311 : decode cL_law 311 = .ok (.aload_n 2, 1) := by decide +kernel
theorem dL_law_312 : decode cL_law 312 = .ok (.aload_n 0, 1) := by decide +kernel
theorem dL_law_313 : decode cL_law 313 = .ok (.iload_n 3, 1) := by decide +kernel
theorem dL_law_314 : decode cL_law 314 = .ok (.iconst 1, 1) := by decide +kernel
theorem dL_law_315 : decode cL_law 315 = .ok (.iadd, 1) := by decide +kernel
theorem dL_law_316 : decode cL_law 316 = .ok (.iaload, 1) := by decide +kernel
theorem dL_law_317 : decode cL_law 317 = .ok (.aload_n 0, 1) := by decide +kernel
theorem dL_law_318 : decode cL_law 318 = .ok (.iload_n 3, 1) := by decide +kernel
theorem dL_law_319 : decode cL_law 319 = .ok (.iconst 2, 1) := by decide +kernel
theorem dL_law_320 : decode cL_law 320 = .ok (.iadd, 1) := by decide +kernel
theorem dL_law_321 : decode cL_law 321 = .ok (.iaload, 1) := by decide +kernel
theorem dL_law_322 : decode cL_law 322 = .ok (.aload_n 0, 1) := by decide +kernel
theorem dL_law_323 : decode cL_law 323 = .ok (.iload_n 3, 1) := by decide +kernel
theorem dL_law_324 : decode cL_law 324 = .ok (.iconst 3, 1) := by decide +kernel
theorem dL_law_325 : decode cL_law 325 = .ok (.iadd, 1) := by decide +kernel
theorem dL_law_326 : decode cL_law 326 = .ok (.iaload, 1) := by decide +kernel
theorem dL_law_327 : decode cL_law 327 = .ok (.invokevirtual 35, 3) := by decide +kernel
theorem dL_law_330 : decode cL_law 330 = .ok (.if_icmp .eq 559, 3) := by decide +kernel
theorem dL_law_333 : decode cL_law 333 = .ok (.iconst 0, 1) := by decide +kernel
theorem dL_law_334 : decode cL_law 334 = .ok (.ireturn, 1) := by decide +kernel
theorem dL_law_335 : decode cL_law 335 = .ok (.aload_n 1, 1) := by decide +kernel
theorem dL_law_336 : decode cL_law 336 = .ok (.aload_n 0, 1) := by decide +kernel
theorem dL_law_337 : decode cL_law 337 = .ok (.iload_n 3, 1) := by decide +kernel
theorem dL_law_338 : decode cL_law 338 = .ok (.iconst 1, 1) := by decide +kernel
theorem dL_law_339 : decode cL_law 339 = .ok (.iadd, 1) := by decide +kernel
theorem dL_law_340 : decode cL_law 340 = .ok (.iaload, 1) := by decide +kernel
theorem dL_law_341 : decode cL_law 341 = .ok (.aload_n 0, 1) := by decide +kernel
theorem dL_law_342 : decode cL_law 342 = .ok (.iload_n 3, 1) := by decide +kernel
theorem dL_law_343 : decode cL_law 343 = .ok (.iconst 2, 1) := by decide +kernel
theorem dL_law_344 : decode cL_law 344 = .ok (.iadd, 1) := by decide +kernel
theorem dL_law_345 : decode cL_law 345 = .ok (.iaload, 1) := by decide +kernel
theorem dL_law_346 : decode cL_law 346 = .ok (.aload_n 0, 1) := by decide +kernel
theorem dL_law_347 : decode cL_law 347 = .ok (.iload_n 3, 1) := by decide +kernel
theorem dL_law_348 : decode cL_law 348 = .ok (.iconst 3, 1) := by decide +kernel
theorem dL_law_349 : decode cL_law 349 = .ok (.iadd, 1) := by decide +kernel
theorem dL_law_350 : decode cL_law 350 = .ok (.iaload, 1) := by decide +kernel
theorem dL_law_351 : decode cL_law 351 = .ok (.invokevirtual 36, 3) := by decide +kernel
theorem dL_law_354 : decode cL_law 354 = .ok (.aload_n 2, 1) := by decide +kernel
theorem dL_law_355 : decode cL_law 355 = .ok (.aload_n 0, 1) := by decide +kernel
theorem dL_law_356 : decode cL_law 356 = .ok (.iload_n 3, 1) := by decide +kernel
theorem dL_law_357 : decode cL_law 357 = .ok (.iconst 1, 1) := by decide +kernel
theorem dL_law_358 : decode cL_law 358 = .ok (.iadd, 1) := by decide +kernel
theorem dL_law_359 : decode cL_law 359 = .ok (.iaload, 1) := by decide +kernel
theorem dL_law_360 : decode cL_law 360 = .ok (.aload_n 0, 1) := by decide +kernel
theorem dL_law_361 : decode cL_law 361 = .ok (.iload_n 3, 1) := by decide +kernel
theorem dL_law_362 : decode cL_law 362 = .ok (.iconst 2, 1) := by decide +kernel
theorem dL_law_363 : decode cL_law 363 = .ok (.iadd, 1) := by decide +kernel
theorem dL_law_364 : decode cL_law 364 = .ok (.iaload, 1) := by decide +kernel
theorem dL_law_365 : decode cL_law 365 = .ok (.aload_n 0, 1) := by decide +kernel
theorem dL_law_366 : decode cL_law 366 = .ok (.iload_n 3, 1) := by decide +kernel
theorem dL_law_367 : decode cL_law 367 = .ok (.iconst 3, 1) := by decide +kernel
theorem dL_law_368 : decode cL_law 368 = .ok (.iadd, 1) := by decide +kernel
theorem dL_law_369 : decode cL_law 369 = .ok (.iaload, 1) := by decide +kernel
theorem dL_law_370 : decode cL_law 370 = .ok (.invokevirtual 39, 3) := by decide +kernel
theorem dL_law_373 : decode cL_law 373 = .ok (.if_icmp .eq 516, 3) := by decide +kernel
theorem dL_law_376 : decode cL_law 376 = .ok (.iconst 0, 1) := by decide +kernel
theorem dL_law_377 : decode cL_law 377 = .ok (.ireturn, 1) := by decide +kernel
theorem dL_law_378 : decode cL_law 378 = .ok (.aload_n 1, 1) := by decide +kernel
theorem dL_law_379 : decode cL_law 379 = .ok (.aload_n 0, 1) := by decide +kernel
theorem dL_law_380 : decode cL_law 380 = .ok (.iload_n 3, 1) := by decide +kernel
theorem dL_law_381 : decode cL_law 381 = .ok (.iconst 1, 1) := by decide +kernel
theorem dL_law_382 : decode cL_law 382 = .ok (.iadd, 1) := by decide +kernel
theorem dL_law_383 : decode cL_law 383 = .ok (.iaload, 1) := by decide +kernel
theorem dL_law_384 : decode cL_law 384 = .ok (.invokevirtual 40, 3) := by decide +kernel
theorem dL_law_387 : decode cL_law 387 = .ok (.aload_n 2, 1) := by decide +kernel
theorem dL_law_388 : decode cL_law 388 = .ok (.aload_n 0, 1) := by decide +kernel
theorem dL_law_389 : decode cL_law 389 = .ok (.iload_n 3, 1) := by decide +kernel
theorem dL_law_390 : decode cL_law 390 = .ok (.iconst 1, 1) := by decide +kernel
theorem dL_law_391 : decode cL_law 391 = .ok (.iadd, 1) := by decide +kernel
theorem dL_law_392 : decode cL_law 392 = .ok (.iaload, 1) := by decide +kernel
theorem dL_law_393 : decode cL_law 393 = .ok (.invokevirtual 43, 3) := by decide +kernel
theorem dL_law_396 : decode cL_law 396 = .ok (.if_icmp .eq 493, 3) := by decide +kernel
theorem dL_law_399 : decode cL_law 399 = .ok (.iconst 0, 1) := by decide +kernel
theorem dL_law_400 : decode cL_law 400 = .ok (.ireturn, 1) := by decide +kernel
theorem dL_law_401 : decode cL_law 401 = .ok (.aload_n 1, 1) := by decide +kernel
theorem dL_law_402 : decode cL_law 402 = .ok (.invokevirtual 44, 3) := by decide +kernel
theorem dL_law_405 : decode cL_law 405 = .ok (.aload_n 2, 1) := by decide +kernel
theorem dL_law_406 : decode cL_law 406 = .ok (.invokevirtual 48, 3) := by decide +kernel
theorem dL_law_409 : decode cL_law 409 = .ok (.if_icmp .eq 480, 3) := by decide +kernel
theorem dL_law_412 : decode cL_law 412 = .ok (.iconst 0, 1) := by decide +kernel
theorem dL_law_413 : decode cL_law 413 = .ok (.ireturn, 1) := by decide +kernel
theorem dL_law_414 : decode cL_law 414 = .ok (.aload_n 1, 1) := by decide +kernel
theorem dL_law_415 : decode cL_law 415 = .ok (.aload_n 0, 1) := by decide +kernel
theorem dL_law_416 : decode cL_law 416 = .ok (.iload_n 3, 1) := by decide +kernel
theorem dL_law_417 : decode cL_law 417 = .ok (.iconst 1, 1) := by decide +kernel
theorem dL_law_418 : decode cL_law 418 = .ok (.iadd, 1) := by decide +kernel
theorem dL_law_419 : decode cL_law 419 = .ok (.iaload, 1) := by decide +kernel
theorem dL_law_420 : decode cL_law 420 = .ok (.aload_n 0, 1) := by decide +kernel
theorem dL_law_421 : decode cL_law 421 = .ok (.iload_n 3, 1) := by decide +kernel
theorem dL_law_422 : decode cL_law 422 = .ok (.iconst 2, 1) := by decide +kernel
theorem dL_law_423 : decode cL_law 423 = .ok (.iadd, 1) := by decide +kernel
theorem dL_law_424 : decode cL_law 424 = .ok (.iaload, 1) := by decide +kernel
theorem dL_law_425 : decode cL_law 425 = .ok (.invokevirtual 49, 3) := by decide +kernel
theorem dL_law_428 : decode cL_law 428 = .ok (.aload_n 2, 1) := by decide +kernel
theorem dL_law_429 : decode cL_law 429 = .ok (.aload_n 0, 1) := by decide +kernel
theorem dL_law_430 : decode cL_law 430 = .ok (.iload_n 3, 1) := by decide +kernel
theorem dL_law_431 : decode cL_law 431 = .ok (.iconst 1, 1) := by decide +kernel
theorem dL_law_432 : decode cL_law 432 = .ok (.iadd, 1) := by decide +kernel
theorem dL_law_433 : decode cL_law 433 = .ok (.iaload, 1) := by decide +kernel
theorem dL_law_434 : decode cL_law 434 = .ok (.aload_n 0, 1) := by decide +kernel
theorem dL_law_435 : decode cL_law 435 = .ok (.iload_n 3, 1) := by decide +kernel
theorem dL_law_436 : decode cL_law 436 = .ok (.iconst 2, 1) := by decide +kernel
theorem dL_law_437 : decode cL_law 437 = .ok (.iadd, 1) := by decide +kernel
theorem dL_law_438 : decode cL_law 438 = .ok (.iaload, 1) := by decide +kernel
theorem dL_law_439 : decode cL_law 439 = .ok (.invokevirtual 52, 3) := by decide +kernel
theorem dL_law_442 : decode cL_law 442 = .ok (.if_icmp .eq 447, 3) := by decide +kernel
theorem dL_law_445 : decode cL_law 445 = .ok (.iconst 0, 1) := by decide +kernel
theorem dL_law_446 : decode cL_law 446 = .ok (.ireturn, 1) := by decide +kernel
theorem dL_law_447 : decode cL_law 447 = .ok (.aload_n 1, 1) := by decide +kernel
theorem dL_law_448 : decode cL_law 448 = .ok (.aload_n 0, 1) := by decide +kernel
theorem dL_law_449 : decode cL_law 449 = .ok (.iload_n 3, 1) := by decide +kernel
theorem dL_law_450 : decode cL_law 450 = .ok (.iconst 1, 1) := by decide +kernel
theorem dL_law_451 : decode cL_law 451 = .ok (.iadd, 1) := by decide +kernel
theorem dL_law_452 : decode cL_law 452 = .ok (.iaload, 1) := by decide +kernel
theorem dL_law_453 : decode cL_law 453 = .ok (.invokevirtual 53, 3) := by decide +kernel
theorem dL_law_456 : decode cL_law 456 = .ok (.aload_n 2, 1) := by decide +kernel
theorem dL_law_457 : decode cL_law 457 = .ok (.aload_n 0, 1) := by decide +kernel
theorem dL_law_458 : decode cL_law 458 = .ok (.iload_n 3, 1) := by decide +kernel
theorem dL_law_459 : decode cL_law 459 = .ok (.iconst 1, 1) := by decide +kernel
theorem dL_law_460 : decode cL_law 460 = .ok (.iadd, 1) := by decide +kernel
theorem dL_law_461 : decode cL_law 461 = .ok (.iaload, 1) := by decide +kernel
theorem dL_law_462 : decode cL_law 462 = .ok (.invokevirtual 56, 3) := by decide +kernel
theorem dL_law_465 : decode cL_law 465 = .ok (.if_icmp .eq 424, 3) := by decide +kernel
theorem dL_law_468 : decode cL_law 468 = .ok (.iconst 0, 1) := by decide +kernel
theorem dL_law_469 : decode cL_law 469 = .ok (.ireturn, 1) := by decide +kernel
theorem dL_law_470 : decode cL_law 470 = .ok (.aload_n 1, 1) := by decide +kernel
theorem dL_law_471 : decode cL_law 471 = .ok (.aload_n 0, 1) := by decide +kernel
theorem dL_law_472 : decode cL_law 472 = .ok (.iload_n 3, 1) := by decide +kernel
theorem dL_law_473 : decode cL_law 473 = .ok (.iconst 1, 1) := by decide +kernel
theorem dL_law_474 : decode cL_law 474 = .ok (.iadd, 1) := by decide +kernel
theorem dL_law_475 : decode cL_law 475 = .ok (.iaload, 1) := by decide +kernel
theorem dL_law_476 : decode cL_law 476 = .ok (.invokevirtual 57, 3) := by decide +kernel
theorem dL_law_479 : decode cL_law 479 = .ok (.aload_n 2, 1) := by decide +kernel
theorem dL_law_480 : decode cL_law 480 = .ok (.aload_n 0, 1) := by decide +kernel
theorem dL_law_481 : decode cL_law 481 = .ok (.iload_n 3, 1) := by decide +kernel
theorem dL_law_482 : decode cL_law 482 = .ok (.iconst 1, 1) := by decide +kernel
theorem dL_law_483 : decode cL_law 483 = .ok (.iadd, 1) := by decide +kernel
theorem dL_law_484 : decode cL_law 484 = .ok (.iaload, 1) := by decide +kernel
theorem dL_law_485 : decode cL_law 485 = .ok (.invokevirtual 60, 3) := by decide +kernel
theorem dL_law_488 : decode cL_law 488 = .ok (.if_icmp .eq 401, 3) := by decide +kernel
theorem dL_law_491 : decode cL_law 491 = .ok (.iconst 0, 1) := by decide +kernel
theorem dL_law_492 : decode cL_law 492 = .ok (.ireturn, 1) := by decide +kernel
theorem dL_law_493 : decode cL_law 493 = .ok (.aload_n 1, 1) := by decide +kernel
theorem dL_law_494 : decode cL_law 494 = .ok (.aload_n 0, 1) := by decide +kernel
theorem dL_law_495 : decode cL_law 495 = .ok (.iload_n 3, 1) := by decide +kernel
theorem dL_law_496 : decode cL_law 496 = .ok (.iconst 1, 1) := by decide +kernel
theorem dL_law_497 : decode cL_law 497 = .ok (.iadd, 1) := by decide +kernel
theorem dL_law_498 : decode cL_law 498 = .ok (.iaload, 1) := by decide +kernel
theorem dL_law_499 : decode cL_law 499 = .ok (.invokevirtual 61, 3) := by decide +kernel
theorem dL_law_502 : decode cL_law 502 = .ok (.aload_n 2, 1) := by decide +kernel
theorem dL_law_503 : decode cL_law 503 = .ok (.aload_n 0, 1) := by decide +kernel
theorem dL_law_504 : decode cL_law 504 = .ok (.iload_n 3, 1) := by decide +kernel
theorem dL_law_505 : decode cL_law 505 = .ok (.iconst 1, 1) := by decide +kernel
theorem dL_law_506 : decode cL_law 506 = .ok (.iadd, 1) := by decide +kernel
theorem dL_law_507 : decode cL_law 507 = .ok (.iaload, 1) := by decide +kernel
theorem dL_law_508 : decode cL_law 508 = .ok (.invokevirtual 64, 3) := by decide +kernel
theorem dL_law_511 : decode cL_law 511 = .ok (.if_icmp .eq 378, 3) := by decide +kernel
theorem dL_law_514 : decode cL_law 514 = .ok (.iconst 0, 1) := by decide +kernel
theorem dL_law_515 : decode cL_law 515 = .ok (.ireturn, 1) := by decide +kernel
theorem dL_law_516 : decode cL_law 516 = .ok (.aload_n 1, 1) := by decide +kernel
theorem dL_law_517 : decode cL_law 517 = .ok (.aload_n 0, 1) := by decide +kernel
theorem dL_law_518 : decode cL_law 518 = .ok (.iload_n 3, 1) := by decide +kernel
theorem dL_law_519 : decode cL_law 519 = .ok (.iconst 1, 1) := by decide +kernel
theorem dL_law_520 : decode cL_law 520 = .ok (.iadd, 1) := by decide +kernel
theorem dL_law_521 : decode cL_law 521 = .ok (.iaload, 1) := by decide +kernel
theorem dL_law_522 : decode cL_law 522 = .ok (.aload_n 0, 1) := by decide +kernel
theorem dL_law_523 : decode cL_law 523 = .ok (.iload_n 3, 1) := by decide +kernel
theorem dL_law_524 : decode cL_law 524 = .ok (.iconst 2, 1) := by decide +kernel
theorem dL_law_525 : decode cL_law 525 = .ok (.iadd, 1) := by decide +kernel
theorem dL_law_526 : decode cL_law 526 = .ok (.iaload, 1) := by decide +kernel
theorem dL_law_527 : decode cL_law 527 = .ok (.invokevirtual 65, 3) := by decide +kernel
theorem dL_law_530 : decode cL_law 530 = .ok (.aload_n 2, 1) := by decide +kernel
theorem dL_law_531 : decode cL_law 531 = .ok (.aload_n 0, 1) := by decide +kernel
theorem dL_law_532 : decode cL_law 532 = .ok (.iload_n 3, 1) := by decide +kernel
theorem dL_law_533 : decode cL_law 533 = .ok (.iconst 1, 1) := by decide +kernel
theorem dL_law_534 : decode cL_law 534 = .ok (.iadd, 1) := by decide +kernel
theorem dL_law_535 : decode cL_law 535 = .ok (.iaload, 1) := by decide +kernel
theorem dL_law_536 : decode cL_law 536 = .ok (.aload_n 0, 1) := by decide +kernel
theorem dL_law_537 : decode cL_law 537 = .ok (.iload_n 3, 1) := by decide +kernel
theorem dL_law_538 : decode cL_law 538 = .ok (.iconst 2, 1) := by decide +kernel
theorem dL_law_539 : decode cL_law 539 = .ok (.iadd, 1) := by decide +kernel
theorem dL_law_540 : decode cL_law 540 = .ok (.iaload, 1) := by decide +kernel
theorem dL_law_541 : decode cL_law 541 = .ok (.invokevirtual 68, 3) := by decide +kernel
theorem dL_law_544 : decode cL_law 544 = .ok (.if_icmp .eq 345, 3) := by decide +kernel
theorem dL_law_547 : decode cL_law 547 = .ok (.iconst 0, 1) := by decide +kernel
theorem dL_law_548 : decode cL_law 548 = .ok (.ireturn, 1) := by decide +kernel
theorem dL_law_549 : decode cL_law 549 = .ok (.aload_n 1, 1) := by decide +kernel
theorem dL_law_550 : decode cL_law 550 = .ok (.aload_n 0, 1) := by decide +kernel
theorem dL_law_551 : decode cL_law 551 = .ok (.iload_n 3, 1) := by decide +kernel
theorem dL_law_552 : decode cL_law 552 = .ok (.iconst 1, 1) := by decide +kernel
theorem dL_law_553 : decode cL_law 553 = .ok (.iadd, 1) := by decide +kernel
theorem dL_law_554 : decode cL_law 554 = .ok (.iaload, 1) := by decide +kernel
theorem dL_law_555 : decode cL_law 555 = .ok (.aload_n 0, 1) := by decide +kernel
theorem dL_law_556 : decode cL_law 556 = .ok (.iload_n 3, 1) := by decide +kernel
theorem dL_law_557 : decode cL_law 557 = .ok (.iconst 2, 1) := by decide +kernel
theorem dL_law_558 : decode cL_law 558 = .ok (.iadd, 1) := by decide +kernel
theorem dL_law_559 : decode cL_law 559 = .ok (.iaload, 1) := by decide +kernel
theorem dL_law_560 : decode cL_law 560 = .ok (.invokevirtual 69, 3) := by decide +kernel
theorem dL_law_563 : decode cL_law 563 = .ok (.aload_n 2, 1) := by decide +kernel
theorem dL_law_564 : decode cL_law 564 = .ok (.aload_n 0, 1) := by decide +kernel
theorem dL_law_565 : decode cL_law 565 = .ok (.iload_n 3, 1) := by decide +kernel
theorem dL_law_566 : decode cL_law 566 = .ok (.iconst 1, 1) := by decide +kernel
theorem dL_law_567 : decode cL_law 567 = .ok (.iadd, 1) := by decide +kernel
theorem dL_law_568 : decode cL_law 568 = .ok (.iaload, 1) := by decide +kernel
theorem dL_law_569 : decode cL_law 569 = .ok (.aload_n 0, 1) := by decide +kernel
theorem dL_law_570 : decode cL_law 570 = .ok (.iload_n 3, 1) := by decide +kernel
theorem dL_law_571 : decode cL_law 571 = .ok (.iconst 2, 1) := by decide +kernel
theorem dL_law_572 : decode cL_law 572 = .ok (.iadd, 1) := by decide +kernel
theorem dL_law_573 : decode cL_law 573 = .ok (.iaload, 1) := by decide +kernel
theorem dL_law_574 : decode cL_law 574 = .ok (.invokevirtual 72, 3) := by decide +kernel
theorem dL_law_577 : decode cL_law 577 = .ok (.if_icmp .eq 312, 3) := by decide +kernel
theorem dL_law_580 : decode cL_law 580 = .ok (.iconst 0, 1) := by decide +kernel
theorem dL_law_581 : decode cL_law 581 = .ok (.ireturn, 1) := by decide +kernel
theorem dL_law_582 : decode cL_law 582 = .ok (.aload_n 1, 1) := by decide +kernel
theorem dL_law_583 : decode cL_law 583 = .ok (.invokevirtual 73, 3) := by decide +kernel
theorem dL_law_586 : decode cL_law 586 = .ok (.aload_n 2, 1) := by decide +kernel
theorem dL_law_587 : decode cL_law 587 = .ok (.invokevirtual 76, 3) := by decide +kernel
theorem dL_law_590 : decode cL_law 590 = .ok (.if_icmp .eq 299, 3) := by decide +kernel
theorem dL_law_593 : decode cL_law 593 = .ok (.iconst 0, 1) := by decide +kernel
theorem dL_law_594 : decode cL_law 594 = .ok (.ireturn, 1) := by decide +kernel
theorem dL_law_595 : decode cL_law 595 = .ok (.aload_n 1, 1) := by decide +kernel
theorem dL_law_596 : decode cL_law 596 = .ok (.invokevirtual 77, 3) := by decide +kernel
theorem dL_law_599 : decode cL_law 599 = .ok (.aload_n 2, 1) := by decide +kernel
theorem dL_law_600 : decode cL_law 600 = .ok (.invokevirtual 80, 3) := by decide +kernel
theorem dL_law_603 : decode cL_law 603 = .ok (.if_icmp .eq 286, 3) := by decide +kernel
theorem dL_law_606 : decode cL_law 606 = .ok (.iconst 0, 1) := by decide +kernel
theorem dL_law_607 : decode cL_law 607 = .ok (.ireturn, 1) := by decide +kernel
theorem dL_law_608 : decode cL_law 608 = .ok (.aload_n 1, 1) := by decide +kernel
theorem dL_law_609 : decode cL_law 609 = .ok (.aload_n 0, 1) := by decide +kernel
theorem dL_law_610 : decode cL_law 610 = .ok (.iload_n 3, 1) := by decide +kernel
theorem dL_law_611 : decode cL_law 611 = .ok (.iconst 1, 1) := by decide +kernel
theorem dL_law_612 : decode cL_law 612 = .ok (.iadd, 1) := by decide +kernel
theorem dL_law_613 : decode cL_law 613 = .ok (.iaload, 1) := by decide +kernel
theorem dL_law_614 : decode cL_law 614 = .ok (.aload_n 0, 1) := by decide +kernel
theorem dL_law_615 : decode cL_law 615 = .ok (.iload_n 3, 1) := by decide +kernel
theorem dL_law_616 : decode cL_law 616 = .ok (.iconst 2, 1) := by decide +kernel
theorem dL_law_617 : decode cL_law 617 = .ok (.iadd, 1) := by decide +kernel
theorem dL_law_618 : decode cL_law 618 = .ok (.iaload, 1) := by decide +kernel
theorem dL_law_619 : decode cL_law 619 = .ok (.invokevirtual 81, 3) := by decide +kernel
theorem dL_law_622 : decode cL_law 622 = .ok (.aload_n 2, 1) := by decide +kernel
theorem dL_law_623 : decode cL_law 623 = .ok (.aload_n 0, 1) := by decide +kernel
theorem dL_law_624 : decode cL_law 624 = .ok (.iload_n 3, 1) := by decide +kernel
theorem dL_law_625 : decode cL_law 625 = .ok (.iconst 1, 1) := by decide +kernel
theorem dL_law_626 : decode cL_law 626 = .ok (.iadd, 1) := by decide +kernel
theorem dL_law_627 : decode cL_law 627 = .ok (.iaload, 1) := by decide +kernel
theorem dL_law_628 : decode cL_law 628 = .ok (.aload_n 0, 1) := by decide +kernel
theorem dL_law_629 : decode cL_law 629 = .ok (.iload_n 3, 1) := by decide +kernel
theorem dL_law_630 : decode cL_law 630 = .ok (.iconst 2, 1) := by decide +kernel
theorem dL_law_631 : decode cL_law 631 = .ok (.iadd, 1) := by decide +kernel
theorem dL_law_632 : decode cL_law 632 = .ok (.iaload, 1) := by decide +kernel
theorem dL_law_633 : decode cL_law 633 = .ok (.invokevirtual 84, 3) := by decide +kernel
theorem dL_law_636 : decode cL_law 636 = .ok (.if_icmp .eq 253, 3) := by decide +kernel
theorem dL_law_639 : decode cL_law 639 = .ok (.iconst 0, 1) := by decide +kernel
theorem dL_law_640 : decode cL_law 640 = .ok (.ireturn, 1) := by decide +kernel
theorem dL_law_641 : decode cL_law 641 = .ok (.aload_n 1, 1) := by decide +kernel
theorem dL_law_642 : decode cL_law 642 = .ok (.invokevirtual 85, 3) := by decide +kernel
theorem dL_law_645 : decode cL_law 645 = .ok (.aload_n 2, 1) := by decide +kernel
theorem dL_law_646 : decode cL_law 646 = .ok (.invokevirtual 88, 3) := by decide +kernel
theorem dL_law_649 : decode cL_law 649 = .ok (.if_icmp .eq 240, 3) := by decide +kernel
theorem dL_law_652 : decode cL_law 652 = .ok (.iconst 0, 1) := by decide +kernel
theorem dL_law_653 : decode cL_law 653 = .ok (.ireturn, 1) := by decide +kernel
theorem dL_law_654 : decode cL_law 654 = .ok (.aload_n 1, 1) := by decide +kernel
theorem dL_law_655 : decode cL_law 655 = .ok (.aload_n 0, 1) := by decide +kernel
theorem dL_law_656 : decode cL_law 656 = .ok (.iload_n 3, 1) := by decide +kernel
theorem dL_law_657 : decode cL_law 657 = .ok (.iconst 1, 1) := by decide +kernel
theorem dL_law_658 : decode cL_law 658 = .ok (.iadd, 1) := by decide +kernel
theorem dL_law_659 : decode cL_law 659 = .ok (.iaload, 1) := by decide +kernel
theorem dL_law_660 : decode cL_law 660 = .ok (.aload_n 0, 1) := by decide +kernel
theorem dL_law_661 : decode cL_law 661 = .ok (.iload_n 3, 1) := by decide +kernel
theorem dL_law_662 : decode cL_law 662 = .ok (.iconst 2, 1) := by decide +kernel
theorem dL_law_663 : decode cL_law 663 = .ok (.iadd, 1) := by decide +kernel
theorem dL_law_664 : decode cL_law 664 = .ok (.iaload, 1) := by decide +kernel
theorem dL_law_665 : decode cL_law 665 = .ok (.invokevirtual 89, 3) := by decide +kernel
theorem dL_law_668 : decode cL_law 668 = .ok (.aload_n 2, 1) := by decide +kernel
theorem dL_law_669 : decode cL_law 669 = .ok (.aload_n 0, 1) := by decide +kernel
theorem dL_law_670 : decode cL_law 670 = .ok (.iload_n 3, 1) := by decide +kernel
theorem dL_law_671 : decode cL_law 671 = .ok (.iconst 1, 1) := by decide +kernel
theorem dL_law_672 : decode cL_law 672 = .ok (.iadd, 1) := by decide +kernel
theorem dL_law_673 : decode cL_law 673 = .ok (.iaload, 1) := by decide +kernel
theorem dL_law_674 : decode cL_law 674 = .ok (.aload_n 0, 1) := by decide +kernel
theorem dL_law_675 : decode cL_law 675 = .ok (.iload_n 3, 1) := by decide +kernel
theorem dL_law_676 : decode cL_law 676 = .ok (.iconst 2, 1) := by decide +kernel
theorem dL_law_677 : decode cL_law 677 = .ok (.iadd, 1) := by decide +kernel
theorem dL_law_678 : decode cL_law 678 = .ok (.iaload, 1) := by decide +kernel
theorem dL_law_679 : decode cL_law 679 = .ok (.invokevirtual 93, 3) := by decide +kernel
theorem dL_law_682 : decode cL_law 682 = .ok (.lcmp, 1) := by decide +kernel
theorem dL_law_683 : decode cL_law 683 = .ok (.ifCond .eq 206, 3) := by decide +kernel
theorem dL_law_686 : decode cL_law 686 = .ok (.iconst 0, 1) := by decide +kernel
theorem dL_law_687 : decode cL_law 687 = .ok (.ireturn, 1) := by decide +kernel
theorem dL_law_688 : decode cL_law 688 = .ok (.aload_n 1, 1) := by decide +kernel
theorem dL_law_689 : decode cL_law 689 = .ok (.aload_n 0, 1) := by decide +kernel
theorem dL_law_690 : decode cL_law 690 = .ok (.iload_n 3, 1) := by decide +kernel
theorem dL_law_691 : decode cL_law 691 = .ok (.iconst 1, 1) := by decide +kernel
theorem dL_law_692 : decode cL_law 692 = .ok (.iadd, 1) := by decide +kernel
theorem dL_law_693 : decode cL_law 693 = .ok (.iaload, 1) := by decide +kernel
theorem dL_law_694 : decode cL_law 694 = .ok (.aload_n 0, 1) := by decide +kernel
theorem dL_law_695 : decode cL_law 695 = .ok (.iload_n 3, 1) := by decide +kernel
theorem dL_law_696 : decode cL_law 696 = .ok (.iconst 2, 1) := by decide +kernel
theorem dL_law_697 : decode cL_law 697 = .ok (.iadd, 1) := by decide +kernel
theorem dL_law_698 : decode cL_law 698 = .ok (.iaload, 1) := by decide +kernel
theorem dL_law_699 : decode cL_law 699 = .ok (.invokevirtual 94, 3) := by decide +kernel
theorem dL_law_702 : decode cL_law 702 = .ok (.aload_n 2, 1) := by decide +kernel
theorem dL_law_703 : decode cL_law 703 = .ok (.aload_n 0, 1) := by decide +kernel
theorem dL_law_704 : decode cL_law 704 = .ok (.iload_n 3, 1) := by decide +kernel
theorem dL_law_705 : decode cL_law 705 = .ok (.iconst 1, 1) := by decide +kernel
theorem dL_law_706 : decode cL_law 706 = .ok (.iadd, 1) := by decide +kernel
theorem dL_law_707 : decode cL_law 707 = .ok (.iaload, 1) := by decide +kernel
theorem dL_law_708 : decode cL_law 708 = .ok (.aload_n 0, 1) := by decide +kernel
theorem dL_law_709 : decode cL_law 709 = .ok (.iload_n 3, 1) := by decide +kernel
theorem dL_law_710 : decode cL_law 710 = .ok (.iconst 2, 1) := by decide +kernel
theorem dL_law_711 : decode cL_law 711 = .ok (.iadd, 1) := by decide +kernel
theorem dL_law_712 : decode cL_law 712 = .ok (.iaload, 1) := by decide +kernel
theorem dL_law_713 : decode cL_law 713 = .ok (.invokevirtual 97, 3) := by decide +kernel
theorem dL_law_716 : decode cL_law 716 = .ok (.lcmp, 1) := by decide +kernel
theorem dL_law_717 : decode cL_law 717 = .ok (.ifCond .eq 172, 3) := by decide +kernel
theorem dL_law_720 : decode cL_law 720 = .ok (.iconst 0, 1) := by decide +kernel
theorem dL_law_721 : decode cL_law 721 = .ok (.ireturn, 1) := by decide +kernel
theorem dL_law_722 : decode cL_law 722 = .ok (.aload_n 1, 1) := by decide +kernel
theorem dL_law_723 : decode cL_law 723 = .ok (.invokevirtual 98, 3) := by decide +kernel
theorem dL_law_726 : decode cL_law 726 = .ok (.aload_n 2, 1) := by decide +kernel
theorem dL_law_727 : decode cL_law 727 = .ok (.invokevirtual 101, 3) := by decide +kernel
theorem dL_law_730 : decode cL_law 730 = .ok (.if_icmp .eq 159, 3) := by decide +kernel
theorem dL_law_733 : decode cL_law 733 = .ok (.iconst 0, 1) := by decide +kernel
theorem dL_law_734 : decode cL_law 734 = .ok (.ireturn, 1) := by decide +kernel
theorem dL_law_735 : decode cL_law 735 = .ok (.aload_n 1, 1) := by decide +kernel
theorem dL_law_736 : decode cL_law 736 = .ok (.aload_n 0, 1) := by decide +kernel
theorem dL_law_737 : decode cL_law 737 = .ok (.iload_n 3, 1) := by decide +kernel
theorem dL_law_738 : decode cL_law 738 = .ok (.iconst 1, 1) := by decide +kernel
theorem dL_law_739 : decode cL_law 739 = .ok (.iadd, 1) := by decide +kernel
theorem dL_law_740 : decode cL_law 740 = .ok (.iaload, 1) := by decide +kernel
theorem dL_law_741 : decode cL_law 741 = .ok (.invokevirtual 102, 3) := by decide +kernel
theorem dL_law_744 : decode cL_law 744 = .ok (.aload_n 2, 1) := by decide +kernel
theorem dL_law_745 : decode cL_law 745 = .ok (.aload_n 0, 1) := by decide +kernel
theorem dL_law_746 : decode cL_law 746 = .ok (.iload_n 3, 1) := by decide +kernel
theorem dL_law_747 : decode cL_law 747 = .ok (.iconst 1, 1) := by decide +kernel
theorem dL_law_748 : decode cL_law 748 = .ok (.iadd, 1) := by decide +kernel
theorem dL_law_749 : decode cL_law 749 = .ok (.iaload, 1) := by decide +kernel
theorem dL_law_750 : decode cL_law 750 = .ok (.invokevirtual 105, 3) := by decide +kernel
theorem dL_law_753 : decode cL_law 753 = .ok (.if_icmp .eq 136, 3) := by decide +kernel
theorem dL_law_756 : decode cL_law 756 = .ok (.iconst 0, 1) := by decide +kernel
theorem dL_law_757 : decode cL_law 757 = .ok (.ireturn, 1) := by decide +kernel
theorem dL_law_758 : decode cL_law 758 = .ok (.aload_n 1, 1) := by decide +kernel
theorem dL_law_759 : decode cL_law 759 = .ok (.invokevirtual 106, 3) := by decide +kernel
theorem dL_law_762 : decode cL_law 762 = .ok (.aload_n 2, 1) := by decide +kernel
theorem dL_law_763 : decode cL_law 763 = .ok (.invokevirtual 109, 3) := by decide +kernel
theorem dL_law_766 : decode cL_law 766 = .ok (.if_icmp .eq 123, 3) := by decide +kernel
theorem dL_law_769 : decode cL_law 769 = .ok (.iconst 0, 1) := by decide +kernel
theorem dL_law_770 : decode cL_law 770 = .ok (.ireturn, 1) := by decide +kernel
theorem dL_law_771 : decode cL_law 771 = .ok (.aload_n 1, 1) := by decide +kernel
theorem dL_law_772 : decode cL_law 772 = .ok (.aload_n 0, 1) := by decide +kernel
theorem dL_law_773 : decode cL_law 773 = .ok (.iload_n 3, 1) := by decide +kernel
theorem dL_law_774 : decode cL_law 774 = .ok (.iconst 1, 1) := by decide +kernel
theorem dL_law_775 : decode cL_law 775 = .ok (.iadd, 1) := by decide +kernel
theorem dL_law_776 : decode cL_law 776 = .ok (.iaload, 1) := by decide +kernel
theorem dL_law_777 : decode cL_law 777 = .ok (.invokevirtual 110, 3) := by decide +kernel
theorem dL_law_780 : decode cL_law 780 = .ok (.aload_n 2, 1) := by decide +kernel
theorem dL_law_781 : decode cL_law 781 = .ok (.aload_n 0, 1) := by decide +kernel
theorem dL_law_782 : decode cL_law 782 = .ok (.iload_n 3, 1) := by decide +kernel
theorem dL_law_783 : decode cL_law 783 = .ok (.iconst 1, 1) := by decide +kernel
theorem dL_law_784 : decode cL_law 784 = .ok (.iadd, 1) := by decide +kernel
theorem dL_law_785 : decode cL_law 785 = .ok (.iaload, 1) := by decide +kernel
theorem dL_law_786 : decode cL_law 786 = .ok (.invokevirtual 113, 3) := by decide +kernel
theorem dL_law_789 : decode cL_law 789 = .ok (.if_icmp .eq 100, 3) := by decide +kernel
theorem dL_law_792 : decode cL_law 792 = .ok (.iconst 0, 1) := by decide +kernel
theorem dL_law_793 : decode cL_law 793 = .ok (.ireturn, 1) := by decide +kernel
theorem dL_law_794 : decode cL_law 794 = .ok (.aload_n 1, 1) := by decide +kernel
theorem dL_law_795 : decode cL_law 795 = .ok (.aload_n 0, 1) := by decide +kernel
theorem dL_law_796 : decode cL_law 796 = .ok (.iload_n 3, 1) := by decide +kernel
theorem dL_law_797 : decode cL_law 797 = .ok (.iconst 1, 1) := by decide +kernel
theorem dL_law_798 : decode cL_law 798 = .ok (.iadd, 1) := by decide +kernel
theorem dL_law_799 : decode cL_law 799 = .ok (.iaload, 1) := by decide +kernel
theorem dL_law_800 : decode cL_law 800 = .ok (.invokevirtual 114, 3) := by decide +kernel
theorem dL_law_803 : decode cL_law 803 = .ok (.aload_n 2, 1) := by decide +kernel
theorem dL_law_804 : decode cL_law 804 = .ok (.aload_n 0, 1) := by decide +kernel
theorem dL_law_805 : decode cL_law 805 = .ok (.iload_n 3, 1) := by decide +kernel
theorem dL_law_806 : decode cL_law 806 = .ok (.iconst 1, 1) := by decide +kernel
theorem dL_law_807 : decode cL_law 807 = .ok (.iadd, 1) := by decide +kernel
theorem dL_law_808 : decode cL_law 808 = .ok (.iaload, 1) := by decide +kernel
theorem dL_law_809 : decode cL_law 809 = .ok (.invokevirtual 117, 3) := by decide +kernel
theorem dL_law_812 : decode cL_law 812 = .ok (.if_icmp .eq 77, 3) := by decide +kernel
theorem dL_law_815 : decode cL_law 815 = .ok (.iconst 0, 1) := by decide +kernel
theorem dL_law_816 : decode cL_law 816 = .ok (.ireturn, 1) := by decide +kernel
theorem dL_law_817 : decode cL_law 817 = .ok (.aload_n 1, 1) := by decide +kernel
theorem dL_law_818 : decode cL_law 818 = .ok (.aload_n 0, 1) := by decide +kernel
theorem dL_law_819 : decode cL_law 819 = .ok (.iload_n 3, 1) := by decide +kernel
theorem dL_law_820 : decode cL_law 820 = .ok (.iconst 1, 1) := by decide +kernel
theorem dL_law_821 : decode cL_law 821 = .ok (.iadd, 1) := by decide +kernel
theorem dL_law_822 : decode cL_law 822 = .ok (.iaload, 1) := by decide +kernel
theorem dL_law_823 : decode cL_law 823 = .ok (.aload_n 0, 1) := by decide +kernel
theorem dL_law_824 : decode cL_law 824 = .ok (.iload_n 3, 1) := by decide +kernel
theorem dL_law_825 : decode cL_law 825 = .ok (.iconst 2, 1) := by decide +kernel
theorem dL_law_826 : decode cL_law 826 = .ok (.iadd, 1) := by decide +kernel
theorem dL_law_827 : decode cL_law 827 = .ok (.iaload, 1) := by decide +kernel
theorem dL_law_828 : decode cL_law 828 = .ok (.invokevirtual 118, 3) := by decide +kernel
theorem dL_law_831 : decode cL_law 831 = .ok (.aload_n 2, 1) := by decide +kernel
theorem dL_law_832 : decode cL_law 832 = .ok (.aload_n 0, 1) := by decide +kernel
theorem dL_law_833 : decode cL_law 833 = .ok (.iload_n 3, 1) := by decide +kernel
theorem dL_law_834 : decode cL_law 834 = .ok (.iconst 1, 1) := by decide +kernel
theorem dL_law_835 : decode cL_law 835 = .ok (.iadd, 1) := by decide +kernel
theorem dL_law_836 : decode cL_law 836 = .ok (.iaload, 1) := by decide +kernel
theorem dL_law_837 : decode cL_law 837 = .ok (.aload_n 0, 1) := by decide +kernel
theorem dL_law_838 : decode cL_law 838 = .ok (.iload_n 3, 1) := by decide +kernel
theorem dL_law_839 : decode cL_law 839 = .ok (.iconst 2, 1) := by decide +kernel
theorem dL_law_840 : decode cL_law 840 = .ok (.iadd, 1) := by decide +kernel
theorem dL_law_841 : decode cL_law 841 = .ok (.iaload, 1) := by decide +kernel
theorem dL_law_842 : decode cL_law 842 = .ok (.invokevirtual 121, 3) := by decide +kernel
theorem dL_law_845 : decode cL_law 845 = .ok (.lcmp, 1) := by decide +kernel
theorem dL_law_846 : decode cL_law 846 = .ok (.ifCond .eq 43, 3) := by decide +kernel
theorem dL_law_849 : decode cL_law 849 = .ok (.iconst 0, 1) := by decide +kernel
theorem dL_law_850 : decode cL_law 850 = .ok (.ireturn, 1) := by decide +kernel
theorem dL_law_851 : decode cL_law 851 = .ok (.aload_n 1, 1) := by decide +kernel
theorem dL_law_852 : decode cL_law 852 = .ok (.aload_n 0, 1) := by decide +kernel
theorem dL_law_853 : decode cL_law 853 = .ok (.iload_n 3, 1) := by decide +kernel
theorem dL_law_854 : decode cL_law 854 = .ok (.iconst 1, 1) := by decide +kernel
theorem dL_law_855 : decode cL_law 855 = .ok (.iadd, 1) := by decide +kernel
theorem dL_law_856 : decode cL_law 856 = .ok (.iaload, 1) := by decide +kernel
theorem dL_law_857 : decode cL_law 857 = .ok (.invokevirtual 122, 3) := by decide +kernel
theorem dL_law_860 : decode cL_law 860 = .ok (.aload_n 2, 1) := by decide +kernel
theorem dL_law_861 : decode cL_law 861 = .ok (.aload_n 0, 1) := by decide +kernel
theorem dL_law_862 : decode cL_law 862 = .ok (.iload_n 3, 1) := by decide +kernel
theorem dL_law_863 : decode cL_law 863 = .ok (.iconst 1, 1) := by decide +kernel
theorem dL_law_864 : decode cL_law 864 = .ok (.iadd, 1) := by decide +kernel
theorem dL_law_865 : decode cL_law 865 = .ok (.iaload, 1) := by decide +kernel
theorem dL_law_866 : decode cL_law 866 = .ok (.invokevirtual 126, 3) := by decide +kernel
theorem dL_law_869 : decode cL_law 869 = .ok (.lcmp, 1) := by decide +kernel
theorem dL_law_870 : decode cL_law 870 = .ok (.ifCond .eq 19, 3) := by decide +kernel
theorem dL_law_873 : decode cL_law 873 = .ok (.iconst 0, 1) := by decide +kernel
theorem dL_law_874 : decode cL_law 874 = .ok (.ireturn, 1) := by decide +kernel
theorem dL_law_875 : decode cL_law 875 = .ok (.aload_n 1, 1) := by decide +kernel
theorem dL_law_876 : decode cL_law 876 = .ok (.invokevirtual 127, 3) := by decide +kernel
theorem dL_law_879 : decode cL_law 879 = .ok (.aload_n 2, 1) := by decide +kernel
theorem dL_law_880 : decode cL_law 880 = .ok (.invokevirtual 131, 3) := by decide +kernel
theorem dL_law_883 : decode cL_law 883 = .ok (.lcmp, 1) := by decide +kernel
theorem dL_law_884 : decode cL_law 884 = .ok (.ifCond .eq 5, 3) := by decide +kernel
theorem dL_law_887 : decode cL_law 887 = .ok (.iconst 0, 1) := by decide +kernel
theorem dL_law_888 : decode cL_law 888 = .ok (.ireturn, 1) := by decide +kernel
theorem dL_law_889 : decode cL_law 889 = .ok (.iinc 3 4, 3) := by decide +kernel
theorem dL_law_892 : decode cL_law 892 = .ok (.goto (-874), 3) := by decide +kernel
theorem dL_law_895 : decode cL_law 895 = .ok (.iconst 1, 1) := by decide +kernel
theorem dL_law_896 : decode cL_law 896 = .ok (.ireturn, 1) := by decide +kernel
