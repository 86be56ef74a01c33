set_option maxRecDepth 20000 in
theorem ggL_law_X4_inTotal : GoodIn wsL_law wsX4_inTotal := goodIn_r _ [335, 15, 21, 336, 127, 128, 129, 14, 130, 66, 683, 684, 685, 686, 687, 716, 717, 718, 719, 708, 709, 710, 711, 712, 713, 714, 715] (by decide +kernel) (by decide +kernel)
set_option maxRecDepth 20000 in
theorem gL_law_X4_inTotal : GoodIn wsL_law (wsV RL 61 RX4 yX4_inTotal wsX4_inTotal) := goodIn_app (goodIn_of _ (by decide +kernel)) ggL_law_X4_inTotal
set_option maxRecDepth 20000 in
theorem ggL_law_X5_inTotal : GoodIn wsL_law wsX5_inTotal := goodIn_r _ [340, 87, 173, 174, 175, 5, 176, 97, 116, 117, 118, 688, 689, 690, 691, 692, 693, 694, 695, 696, 697, 698, 699, 700, 701, 702, 703, 704, 705, 706, 707] (by decide +kernel) (by decide +kernel)
set_option maxRecDepth 20000 in
theorem gL_law_X5_inTotal : GoodIn wsL_law (wsV RL 64 RX5 yX5_inTotal wsX5_inTotal) := goodIn_app (goodIn_of _ (by decide +kernel)) ggL_law_X5_inTotal
set_option maxRecDepth 20000 in
theorem ggL_law_X4_measurePair : GoodIn wsL_law wsX4_measurePair := goodIn_r _ [344, 21, 345, 17, 202, 203, 204, 2, 205, 15, 123, 124, 125, 126, 127, 128, 129, 14, 130, 66, 206, 159, 160, 207, 208, 209, 210, 36, 683, 684, 685, 686, 687, 716, 717, 718, 719, 708, 709, 710, 711, 712, 713, 714, 715] (by decide +kernel) (by decide +kernel)
set_option maxRecDepth 20000 in
theorem gL_law_X4_measurePair : GoodIn wsL_law (wsV RL 65 RX4 yX4_measurePair wsX4_measurePair) := goodIn_app (goodIn_of _ (by decide +kernel)) ggL_law_X4_measurePair
set_option maxRecDepth 20000 in
theorem ggL_law_X5_measurePair : GoodIn wsL_law wsX5_measurePair := goodIn_r _ [349, 88, 89, 84, 215, 216, 217, 5, 218, 169, 170, 171, 172, 173, 174, 175, 176, 97, 116, 117, 118, 219, 220, 221, 222, 91, 223, 115, 82, 81, 92, 224, 225, 226, 227, 83, 228, 229, 230, 231, 232, 233, 234, 235, 236, 237, 238, 239, 240, 241, 242, 243, 688, 689, 690, 691, 692, 693, 694, 695, 696, 697, 698, 699, 700, 701, 702, 703, 704, 705, 706, 707] (by decide +kernel) (by decide +kernel)
set_option maxRecDepth 20000 in
theorem gL_law_X5_measurePair : GoodIn wsL_law (wsV RL 68 RX5 yX5_measurePair wsX5_measurePair) := goodIn_app (goodIn_of _ (by decide +kernel)) ggL_law_X5_measurePair
set_option maxRecDepth 20000 in
theorem ggL_law_X4_forgetPair : GoodIn wsL_law wsX4_forgetPair := goodIn_r _ [353, 21, 345, 123, 124, 125, 2, 126, 15, 127, 128, 129, 14, 130, 66, 206, 159, 160, 354, 355, 356, 20, 357, 46, 683, 684, 685, 686, 687, 716, 717, 718, 719, 708, 709, 710, 711, 712, 713, 714, 715] (by decide +kernel) (by decide +kernel)
set_option maxRecDepth 20000 in
theorem gL_law_X4_forgetPair : GoodIn wsL_law (wsV RL 69 RX4 yX4_forgetPair wsX4_forgetPair) := goodIn_app (goodIn_of _ (by decide +kernel)) ggL_law_X4_forgetPair
set_option maxRecDepth 20000 in
theorem ggL_law_X5_forgetPair : GoodIn wsL_law wsX5_forgetPair := goodIn_r _ [361, 88, 89, 169, 170, 171, 5, 172, 173, 174, 175, 176, 97, 116, 117, 118, 688, 689, 690, 691, 692, 693, 694, 695, 696, 697, 698, 699, 700, 701, 702, 703, 704, 705, 706, 707] (by decide +kernel) (by decide +kernel)
set_option maxRecDepth 20000 in
theorem gL_law_X5_forgetPair : GoodIn wsL_law (wsV RL 72 RX5 yX5_forgetPair wsX5_forgetPair) := goodIn_app (goodIn_of _ (by decide +kernel)) ggL_law_X5_forgetPair
set_option maxRecDepth 20000 in
theorem ggL_law_X4_rank : GoodIn wsL_law wsX4_rank := goodIn_r _ [365, 25, 15, 21, 366, 367, 368, 369, 370, 24, 371, 372, 373, 374, 375, 376, 377, 378, 56, 379, 208, 209, 14, 210, 36, 380, 355, 356, 20, 357, 46, 381, 382, 383, 384, 52, 385, 386, 387, 109, 70, 110, 388, 270, 271, 272, 38, 389, 390, 391, 392, 393, 394, 53, 54, 395, 69, 71, 396, 397, 398, 399, 400, 401, 402, 403, 404, 405, 406, 407, 408, 409, 410, 683, 684, 685, 686, 687, 720, 721, 722, 723, 724, 725, 726, 727, 708, 709, 710, 711, 712, 713, 714, 715, 716, 717, 718, 719] (by decide +kernel) (by decide +kernel)
set_option maxRecDepth 20000 in
theorem gL_law_X4_rank : GoodIn wsL_law (wsV RL 73 RX4 yX4_rank wsX4_rank) := goodIn_app (goodIn_of _ (by decide +kernel)) ggL_law_X4_rank
set_option maxRecDepth 20000 in
theorem ggL_law_X5_rank : GoodIn wsL_law wsX5_rank := goodIn_r _ [414, 415, 416, 219, 220, 221, 5, 222, 91, 223, 115, 97, 82, 81, 92, 224, 225, 226, 227, 83, 228, 229, 230, 231, 232, 233, 234, 235, 236, 237, 238, 239, 417, 418, 419, 420, 93, 94, 421, 422, 423, 424, 88, 85, 89, 240, 241, 242, 243, 281, 282, 283, 284, 425, 426, 427, 428, 429, 430, 431, 432, 433, 434, 435, 436, 437, 438, 439, 688, 689, 690, 691, 692, 693, 694, 695, 696, 697, 698, 699, 700, 701, 702, 703, 704, 705, 706, 707] (by decide +kernel) (by decide +kernel)
set_option maxRecDepth 20000 in
theorem gL_law_X5_rank : GoodIn wsL_law (wsV RL 76 RX5 yX5_rank wsX5_rank) := goodIn_app (goodIn_of _ (by decide +kernel)) ggL_law_X5_rank
