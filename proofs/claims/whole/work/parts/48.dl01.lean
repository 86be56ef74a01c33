set_option maxRecDepth 20000 in
theorem ggL_law_X4_routeLength : GoodIn wsL_law wsX4_routeLength := goodIn_r _ [200, 15, 201, 202, 203, 204, 2, 205, 123, 124, 125, 126, 127, 128, 129, 14, 130, 66, 206, 159, 160, 207, 208, 209, 210, 36, 683, 684, 685, 686, 687, 708, 709, 710, 711, 712, 713, 714, 715] (by decide +kernel) (by decide +kernel)
set_option maxRecDepth 20000 in
theorem gL_law_X4_routeLength : GoodIn wsL_law (wsV RL 28 RX4 yX4_routeLength wsX4_routeLength) := goodIn_app (goodIn_of _ (by decide +kernel)) ggL_law_X4_routeLength
set_option maxRecDepth 20000 in
theorem ggL_law_X5_routeLength : GoodIn wsL_law wsX5_routeLength := goodIn_r _ [214, 91, 215, 216, 217, 5, 218, 169, 170, 171, 172, 173, 174, 175, 176, 97, 116, 117, 118, 219, 220, 221, 222, 223, 115, 82, 81, 92, 224, 225, 226, 227, 83, 228, 229, 230, 231, 232, 233, 234, 235, 236, 237, 238, 239, 240, 241, 242, 243, 688, 689, 690, 691, 692, 693, 694, 695, 696, 697, 698, 699, 700, 701, 702, 703, 704, 705, 706, 707] (by decide +kernel) (by decide +kernel)
set_option maxRecDepth 20000 in
theorem gL_law_X5_routeLength : GoodIn wsL_law (wsV RL 31 RX5 yX5_routeLength wsX5_routeLength) := goodIn_app (goodIn_of _ (by decide +kernel)) ggL_law_X5_routeLength
set_option maxRecDepth 20000 in
theorem ggL_law_X4_routeLink : GoodIn wsL_law wsX4_routeLink := goodIn_r _ [247, 15, 201, 248, 202, 203, 204, 2, 205, 123, 124, 125, 126, 127, 128, 129, 14, 130, 66, 206, 159, 160, 207, 208, 209, 210, 36, 683, 684, 685, 686, 687, 708, 709, 710, 711, 712, 713, 714, 715] (by decide +kernel) (by decide +kernel)
set_option maxRecDepth 20000 in
theorem gL_law_X4_routeLink : GoodIn wsL_law (wsV RL 32 RX4 yX4_routeLink wsX4_routeLink) := goodIn_app (goodIn_of _ (by decide +kernel)) ggL_law_X4_routeLink
set_option maxRecDepth 20000 in
theorem ggL_law_X5_routeLink : GoodIn wsL_law wsX5_routeLink := goodIn_r _ [252, 91, 82, 215, 216, 217, 5, 218, 169, 170, 171, 172, 173, 174, 175, 176, 97, 116, 117, 118, 219, 220, 221, 222, 223, 115, 81, 92, 224, 225, 226, 227, 83, 228, 229, 230, 231, 232, 233, 234, 235, 236, 237, 238, 239, 240, 241, 242, 243, 688, 689, 690, 691, 692, 693, 694, 695, 696, 697, 698, 699, 700, 701, 702, 703, 704, 705, 706, 707] (by decide +kernel) (by decide +kernel)
set_option maxRecDepth 20000 in
theorem gL_law_X5_routeLink : GoodIn wsL_law (wsV RL 35 RX5 yX5_routeLink wsX5_routeLink) := goodIn_app (goodIn_of _ (by decide +kernel)) ggL_law_X5_routeLink
set_option maxRecDepth 20000 in
theorem ggL_law_X4_setDemand : GoodIn wsL_law wsX4_setDemand := goodIn_r _ [256, 17, 123, 124, 125, 2, 126, 15, 127, 128, 129, 14, 130, 66, 206, 159, 160, 683, 684, 685, 686, 687, 708, 709, 710, 711, 712, 713, 714, 715] (by decide +kernel) (by decide +kernel)
set_option maxRecDepth 20000 in
theorem gL_law_X4_setDemand : GoodIn wsL_law (wsV RL 36 RX4 yX4_setDemand wsX4_setDemand) := goodIn_app (goodIn_of _ (by decide +kernel)) ggL_law_X4_setDemand
set_option maxRecDepth 20000 in
theorem ggL_law_X5_setDemand : GoodIn wsL_law wsX5_setDemand := goodIn_r _ [260, 84, 169, 170, 171, 5, 172, 173, 174, 175, 176, 97, 116, 117, 118, 688, 689, 690, 691, 692, 693, 694, 695, 696, 697, 698, 699, 700, 701, 702, 703, 704, 705, 706, 707] (by decide +kernel) (by decide +kernel)
set_option maxRecDepth 20000 in
theorem gL_law_X5_setDemand : GoodIn wsL_law (wsV RL 39 RX5 yX5_setDemand wsX5_setDemand) := goodIn_app (goodIn_of _ (by decide +kernel)) ggL_law_X5_setDemand
set_option maxRecDepth 20000 in
theorem ggL_law_X4_carriedLoad : GoodIn wsL_law wsX4_carriedLoad := goodIn_r _ [264, 15, 17, 181, 182, 183, 14, 184, 67, 265, 266, 267, 268, 269, 270, 271, 272, 36, 38, 683, 684, 685, 686, 687, 708, 709, 710, 711, 712, 713, 714, 715] (by decide +kernel) (by decide +kernel)
set_option maxRecDepth 20000 in
theorem gL_law_X4_carriedLoad : GoodIn wsL_law (wsV RL 40 RX4 yX4_carriedLoad wsX4_carriedLoad) := goodIn_app (goodIn_of _ (by decide +kernel)) ggL_law_X4_carriedLoad
set_option maxRecDepth 20000 in
theorem ggL_law_X5_carriedLoad : GoodIn wsL_law wsX5_carriedLoad := goodIn_r _ [276, 193, 194, 195, 5, 196, 115, 116, 117, 118, 219, 220, 221, 222, 91, 223, 97, 82, 81, 92, 224, 225, 226, 227, 83, 228, 229, 230, 231, 232, 233, 234, 235, 236, 237, 238, 239, 277, 278, 279, 280, 84, 281, 282, 283, 284, 688, 689, 690, 691, 692, 693, 694, 695, 696, 697, 698, 699, 700, 701, 702, 703, 704, 705, 706, 707] (by decide +kernel) (by decide +kernel)
set_option maxRecDepth 20000 in
theorem gL_law_X5_carriedLoad : GoodIn wsL_law (wsV RL 43 RX5 yX5_carriedLoad wsX5_carriedLoad) := goodIn_app (goodIn_of _ (by decide +kernel)) ggL_law_X5_carriedLoad
