set_option maxRecDepth 20000 in
theorem ggL_law_X4_identifiedDenominator : GoodIn wsL_law wsX4_identifiedDenominator := goodIn_r _ [525, 496, 25, 497, 498, 499, 2, 500, 15, 21, 202, 203, 204, 205, 123, 124, 125, 126, 127, 128, 129, 14, 130, 66, 206, 159, 160, 207, 208, 209, 210, 36, 368, 369, 370, 24, 371, 372, 373, 374, 375, 376, 377, 378, 56, 379, 380, 355, 356, 20, 357, 46, 381, 382, 383, 384, 52, 385, 386, 387, 109, 70, 110, 388, 270, 271, 272, 38, 389, 390, 391, 392, 393, 394, 53, 54, 395, 69, 71, 396, 397, 398, 399, 400, 401, 402, 403, 404, 405, 406, 407, 408, 409, 410, 460, 461, 462, 463, 464, 465, 466, 467, 468, 469, 470, 471, 444, 445, 446, 447, 526, 527, 528, 529, 509, 510, 149, 511, 505, 506, 507, 508, 683, 684, 685, 686, 687, 708, 709, 710, 711, 712, 713, 714, 715, 720, 721, 722, 723, 724, 725, 726, 727, 716, 717, 718, 719] (by decide +kernel) (by decide +kernel)
set_option maxRecDepth 20000 in
theorem gL_law_X4_identifiedDenominator : GoodIn wsL_law (wsV RL 94 RX4 yX4_identifiedDenominator wsX4_identifiedDenominator) := goodIn_app (goodIn_of _ (by decide +kernel)) ggL_law_X4_identifiedDenominator
set_option maxRecDepth 20000 in
theorem ggL_law_X5_identifiedDenominator : GoodIn wsL_law wsX5_identifiedDenominator := goodIn_r _ [533, 516, 517, 518, 5, 519, 520, 88, 89, 93, 94, 521, 215, 216, 217, 218, 169, 170, 171, 172, 173, 174, 175, 176, 97, 116, 117, 118, 219, 220, 221, 222, 91, 223, 115, 82, 81, 92, 224, 225, 226, 227, 83, 228, 229, 230, 231, 232, 233, 234, 235, 236, 237, 238, 239, 240, 241, 242, 243, 417, 418, 419, 420, 416, 421, 422, 423, 424, 415, 85, 281, 282, 283, 284, 425, 426, 427, 428, 429, 430, 431, 432, 433, 434, 435, 436, 437, 438, 439, 476, 477, 478, 479, 452, 453, 454, 455, 688, 689, 690, 691, 692, 693, 694, 695, 696, 697, 698, 699, 700, 701, 702, 703, 704, 705, 706, 707] (by decide +kernel) (by decide +kernel)
set_option maxRecDepth 20000 in
theorem gL_law_X5_identifiedDenominator : GoodIn wsL_law (wsV RL 97 RX5 yX5_identifiedDenominator wsX5_identifiedDenominator) := goodIn_app (goodIn_of _ (by decide +kernel)) ggL_law_X5_identifiedDenominator
set_option maxRecDepth 20000 in
theorem ggL_law_X4_bestPair : GoodIn wsL_law wsX4_bestPair := goodIn_r _ [537, 25, 15, 21, 368, 369, 370, 24, 371, 372, 373, 374, 375, 376, 377, 378, 56, 379, 208, 209, 14, 210, 36, 380, 355, 356, 20, 357, 46, 381, 382, 383, 384, 52, 385, 386, 387, 109, 70, 110, 388, 270, 271, 272, 38, 389, 390, 391, 392, 393, 394, 53, 54, 395, 69, 71, 396, 397, 398, 399, 400, 401, 402, 403, 404, 405, 406, 407, 408, 409, 410, 207, 460, 461, 462, 463, 464, 465, 466, 467, 468, 469, 470, 471, 538, 539, 540, 2, 541, 542, 543, 544, 545, 546, 683, 684, 685, 686, 687, 708, 709, 710, 711, 712, 713, 714, 715, 720, 721, 722, 723, 724, 725, 726, 727, 716, 717, 718, 719] (by decide +kernel) (by decide +kernel)
set_option maxRecDepth 20000 in
theorem gL_law_X4_bestPair : GoodIn wsL_law (wsV RL 98 RX4 yX4_bestPair wsX4_bestPair) := goodIn_app (goodIn_of _ (by decide +kernel)) ggL_law_X4_bestPair
set_option maxRecDepth 20000 in
theorem ggL_law_X5_bestPair : GoodIn wsL_law wsX5_bestPair := goodIn_r _ [550, 95, 219, 220, 221, 5, 222, 91, 223, 115, 97, 82, 81, 92, 224, 225, 226, 227, 83, 228, 229, 230, 231, 232, 233, 234, 235, 236, 237, 238, 239, 417, 418, 419, 420, 416, 93, 94, 421, 422, 423, 424, 415, 88, 85, 89, 240, 241, 242, 243, 281, 282, 283, 284, 425, 426, 427, 428, 429, 430, 431, 432, 433, 434, 435, 436, 437, 438, 439, 476, 477, 478, 479, 488, 489, 490, 491, 688, 689, 690, 691, 692, 693, 694, 695, 696, 697, 698, 699, 700, 701, 702, 703, 704, 705, 706, 707] (by decide +kernel) (by decide +kernel)
set_option maxRecDepth 20000 in
theorem gL_law_X5_bestPair : GoodIn wsL_law (wsV RL 101 RX5 yX5_bestPair wsX5_bestPair) := goodIn_app (goodIn_of _ (by decide +kernel)) ggL_law_X5_bestPair
set_option maxRecDepth 20000 in
theorem ggL_law_X4_pairsOnLink : GoodIn wsL_law wsX4_pairsOnLink := goodIn_r _ [554, 15, 181, 182, 183, 14, 184, 67, 555, 270, 271, 272, 36, 38, 683, 684, 685, 686, 687, 708, 709, 710, 711, 712, 713, 714, 715] (by decide +kernel) (by decide +kernel)
set_option maxRecDepth 20000 in
theorem gL_law_X4_pairsOnLink : GoodIn wsL_law (wsV RL 102 RX4 yX4_pairsOnLink wsX4_pairsOnLink) := goodIn_app (goodIn_of _ (by decide +kernel)) ggL_law_X4_pairsOnLink
set_option maxRecDepth 20000 in
theorem ggL_law_X5_pairsOnLink : GoodIn wsL_law wsX5_pairsOnLink := goodIn_r _ [559, 193, 194, 195, 5, 196, 115, 116, 117, 118, 219, 220, 221, 222, 91, 223, 97, 82, 81, 92, 224, 225, 226, 227, 83, 228, 229, 230, 231, 232, 233, 234, 235, 236, 237, 238, 239, 281, 282, 283, 284, 688, 689, 690, 691, 692, 693, 694, 695, 696, 697, 698, 699, 700, 701, 702, 703, 704, 705, 706, 707] (by decide +kernel) (by decide +kernel)
set_option maxRecDepth 20000 in
theorem gL_law_X5_pairsOnLink : GoodIn wsL_law (wsV RL 105 RX5 yX5_pairsOnLink wsX5_pairsOnLink) := goodIn_app (goodIn_of _ (by decide +kernel)) ggL_law_X5_pairsOnLink
set_option maxRecDepth 20000 in
theorem ggL_law_X4_applyGravity : GoodIn wsL_law wsX4_applyGravity := goodIn_r _ [563, 29, 15, 21, 564, 565, 566, 28, 567, 60, 568, 569, 570, 297, 298, 20, 299, 44, 571, 208, 209, 14, 210, 36, 572, 573, 574, 575, 683, 684, 685, 686, 687, 728, 729, 716, 717, 718, 719, 708, 709, 710, 711, 712, 713, 714, 715] (by decide +kernel) (by decide +kernel)
set_option maxRecDepth 20000 in
theorem gL_law_X4_applyGravity : GoodIn wsL_law (wsV RL 106 RX4 yX4_applyGravity wsX4_applyGravity) := goodIn_app (goodIn_of _ (by decide +kernel)) ggL_law_X4_applyGravity
set_option maxRecDepth 20000 in
theorem ggL_law_X5_applyGravity : GoodIn wsL_law wsX5_applyGravity := goodIn_r _ [579, 97, 86, 90, 87, 580, 219, 220, 221, 5, 222, 91, 223, 115, 82, 81, 92, 224, 225, 226, 227, 83, 228, 229, 230, 231, 232, 233, 234, 235, 236, 237, 238, 239, 240, 241, 242, 243, 688, 689, 690, 691, 692, 693, 694, 695, 696, 697, 698, 699, 700, 701, 702, 703, 704, 705, 706, 707] (by decide +kernel) (by decide +kernel)
set_option maxRecDepth 20000 in
theorem gL_law_X5_applyGravity : GoodIn wsL_law (wsV RL 109 RX5 yX5_applyGravity wsX5_applyGravity) := goodIn_app (goodIn_of _ (by decide +kernel)) ggL_law_X5_applyGravity
