set_option maxRecDepth 20000 in
theorem ggL_law_X4_fitTotals : GoodIn wsL_law wsX4_fitTotals := goodIn_r _ [584, 29, 21, 585, 586, 2, 587, 588, 589, 590, 28, 591, 60, 61, 592, 593, 594, 595, 596, 597, 598, 599, 568, 569, 159, 160, 600, 601, 602, 603, 572, 573, 574, 575, 604, 605, 606, 607, 683, 684, 685, 686, 687, 728, 729, 716, 717, 718, 719] (by decide +kernel) (by decide +kernel)
set_option maxRecDepth 20000 in
theorem gL_law_X4_fitTotals : GoodIn wsL_law (wsV RL 110 RX4 yX4_fitTotals wsX4_fitTotals) := goodIn_app (goodIn_of _ (by decide +kernel)) ggL_law_X4_fitTotals
set_option maxRecDepth 20000 in
theorem ggL_law_X5_fitTotals : GoodIn wsL_law wsX5_fitTotals := goodIn_r _ [611, 97, 86, 87, 116, 117, 5, 118, 612, 613, 614, 615, 96, 90, 219, 220, 221, 222, 91, 223, 115, 82, 81, 92, 224, 225, 226, 227, 83, 228, 229, 230, 231, 232, 233, 234, 235, 236, 237, 238, 239, 240, 241, 242, 243, 616, 617, 618, 619, 580, 620, 621, 622, 623, 624, 625, 626, 627, 281, 282, 283, 284, 628, 629, 630, 631, 688, 689, 690, 691, 692, 693, 694, 695, 696, 697, 698, 699, 700, 701, 702, 703, 704, 705, 706, 707] (by decide +kernel) (by decide +kernel)
set_option maxRecDepth 20000 in
theorem gL_law_X5_fitTotals : GoodIn wsL_law (wsV RL 113 RX5 yX5_fitTotals wsX5_fitTotals) := goodIn_app (goodIn_of _ (by decide +kernel)) ggL_law_X5_fitTotals
set_option maxRecDepth 20000 in
theorem ggL_law_X4_fitLinks : GoodIn wsL_law wsX4_fitLinks := goodIn_r _ [635, 29, 15, 21, 585, 586, 2, 587, 588, 589, 590, 28, 591, 60, 61, 592, 593, 594, 595, 636, 637, 638, 639, 640, 641, 642, 643, 644, 645, 646, 647, 648, 649, 650, 270, 271, 14, 272, 36, 38, 572, 573, 574, 575, 604, 605, 606, 607, 683, 684, 685, 686, 687, 728, 729, 708, 709, 710, 711, 712, 713, 714, 715, 716, 717, 718, 719] (by decide +kernel) (by decide +kernel)
set_option maxRecDepth 20000 in
theorem gL_law_X4_fitLinks : GoodIn wsL_law (wsV RL 114 RX4 yX4_fitLinks wsX4_fitLinks) := goodIn_app (goodIn_of _ (by decide +kernel)) ggL_law_X4_fitLinks
set_option maxRecDepth 20000 in
theorem ggL_law_X5_fitLinks : GoodIn wsL_law wsX5_fitLinks := goodIn_r _ [654, 115, 85, 116, 117, 5, 118, 612, 613, 614, 615, 96, 90, 219, 220, 221, 222, 91, 223, 97, 82, 81, 92, 224, 225, 226, 227, 83, 228, 229, 230, 231, 232, 233, 234, 235, 236, 237, 238, 239, 240, 241, 242, 243, 616, 617, 618, 619, 580, 620, 621, 622, 623, 624, 625, 626, 627, 281, 282, 283, 284, 628, 629, 630, 631, 688, 689, 690, 691, 692, 693, 694, 695, 696, 697, 698, 699, 700, 701, 702, 703, 704, 705, 706, 707] (by decide +kernel) (by decide +kernel)
set_option maxRecDepth 20000 in
theorem gL_law_X5_fitLinks : GoodIn wsL_law (wsV RL 117 RX5 yX5_fitLinks wsX5_fitLinks) := goodIn_app (goodIn_of _ (by decide +kernel)) ggL_law_X5_fitLinks
set_option maxRecDepth 20000 in
theorem ggL_law_X4_estimate : GoodIn wsL_law wsX4_estimate := goodIn_r _ [658, 496, 29, 659, 123, 124, 125, 2, 126, 15, 127, 128, 129, 14, 130, 66, 206, 159, 160, 683, 684, 685, 686, 687, 728, 729, 708, 709, 710, 711, 712, 713, 714, 715] (by decide +kernel) (by decide +kernel)
set_option maxRecDepth 20000 in
theorem gL_law_X4_estimate : GoodIn wsL_law (wsV RL 118 RX4 yX4_estimate wsX4_estimate) := goodIn_app (goodIn_of _ (by decide +kernel)) ggL_law_X4_estimate
set_option maxRecDepth 20000 in
theorem ggL_law_X5_estimate : GoodIn wsL_law wsX5_estimate := goodIn_r _ [663, 520, 90, 169, 170, 171, 5, 172, 173, 174, 175, 176, 97, 116, 117, 118, 688, 689, 690, 691, 692, 693, 694, 695, 696, 697, 698, 699, 700, 701, 702, 703, 704, 705, 706, 707] (by decide +kernel) (by decide +kernel)
set_option maxRecDepth 20000 in
theorem gL_law_X5_estimate : GoodIn wsL_law (wsV RL 121 RX5 yX5_estimate wsX5_estimate) := goodIn_app (goodIn_of _ (by decide +kernel)) ggL_law_X5_estimate
set_option maxRecDepth 20000 in
theorem ggL_law_X4_residual : GoodIn wsL_law wsX4_residual := goodIn_r _ [667, 15, 496, 29, 668, 21, 309, 181, 182, 183, 14, 184, 67, 669, 647, 648, 28, 649, 60, 650, 270, 271, 272, 36, 38, 683, 684, 685, 686, 687, 716, 717, 718, 719, 708, 709, 710, 711, 712, 713, 714, 715, 728, 729] (by decide +kernel) (by decide +kernel)
set_option maxRecDepth 20000 in
theorem gL_law_X4_residual : GoodIn wsL_law (wsV RL 122 RX4 yX4_residual wsX4_residual) := goodIn_app (goodIn_of _ (by decide +kernel)) ggL_law_X4_residual
set_option maxRecDepth 20000 in
theorem ggL_law_X5_residual : GoodIn wsL_law wsX5_residual := goodIn_r _ [673, 520, 580, 85, 193, 194, 195, 5, 196, 115, 116, 117, 118, 219, 220, 221, 222, 91, 223, 97, 82, 81, 92, 224, 225, 226, 227, 83, 228, 229, 230, 231, 232, 233, 234, 235, 236, 237, 238, 239, 620, 621, 622, 623, 90, 624, 625, 626, 627, 281, 282, 283, 284, 688, 689, 690, 691, 692, 693, 694, 695, 696, 697, 698, 699, 700, 701, 702, 703, 704, 705, 706, 707] (by decide +kernel) (by decide +kernel)
set_option maxRecDepth 20000 in
theorem gL_law_X5_residual : GoodIn wsL_law (wsV RL 126 RX5 yX5_residual wsX5_residual) := goodIn_app (goodIn_of _ (by decide +kernel)) ggL_law_X5_residual
