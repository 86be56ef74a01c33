set_option maxRecDepth 20000 in
theorem ggL_law_X4_totalError : GoodIn wsL_law wsX4_totalError := goodIn_r _ [677, 15, 29, 659, 668, 17, 678, 510, 149, 511, 207, 208, 209, 14, 210, 36, 683, 684, 685, 686, 687, 728, 729, 708, 709, 710, 711, 712, 713, 714, 715] (by decide +kernel) (by decide +kernel)
set_option maxRecDepth 20000 in
theorem gL_law_X4_totalError : GoodIn wsL_law (wsV RL 127 RX4 yX4_totalError wsX4_totalError) := goodIn_app (goodIn_of _ (by decide +kernel)) ggL_law_X4_totalError
set_option maxRecDepth 20000 in
theorem ggL_law_X5_totalError : GoodIn wsL_law wsX5_totalError := goodIn_r _ [682, 90, 580, 84, 219, 220, 221, 5, 222, 91, 223, 115, 97, 82, 81, 92, 224, 225, 226, 227, 83, 228, 229, 230, 231, 232, 233, 234, 235, 236, 237, 238, 239, 240, 241, 242, 243, 688, 689, 690, 691, 692, 693, 694, 695, 696, 697, 698, 699, 700, 701, 702, 703, 704, 705, 706, 707] (by decide +kernel) (by decide +kernel)
set_option maxRecDepth 20000 in
theorem gL_law_X5_totalError : GoodIn wsL_law (wsV RL 131 RX5 yX5_totalError wsX5_totalError) := goodIn_app (goodIn_of _ (by decide +kernel)) ggL_law_X5_totalError
