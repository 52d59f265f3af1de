set_option maxRecDepth 20000 in
theorem ggL_law_X5_outputWord : GoodIn wsL_law wsX5_outputWord := goodIn_r _ [499, 23, 31, 193, 22, 194, 195, 159, 500, 501, 502, 503, 504, 505, 506, 160, 507, 30, 508, 509, 510, 511, 512, 513, 66, 61, 62, 514, 515, 516, 517, 518, 519, 520, 521, 522, 463, 464, 465, 49, 523, 524, 525, 526, 466, 467, 468, 50, 368, 369, 370, 48, 365, 366, 367, 51, 527, 528, 529, 530, 490, 2, 491, 713, 714, 715, 716, 717, 738, 739, 740, 741, 742, 743, 744, 745, 746, 747, 751, 752, 753, 754, 755, 756] (by decide +kernel) (by decide +kernel)
set_option maxRecDepth 20000 in
theorem gL_law_X5_outputWord : GoodIn wsL_law (wsV RL 94 RX5 yX5_outputWord wsX5_outputWord) := goodIn_app (goodIn_of _ (by decide +kernel)) ggL_law_X5_outputWord
set_option maxRecDepth 20000 in
theorem ggL_law_X6_outputWord : GoodIn wsL_law wsX6_outputWord := goodIn_r _ [534, 407, 408, 409, 5, 410, 411, 412, 413, 414, 213, 233, 234, 235, 535, 536, 537, 538, 287, 288, 289, 539, 540, 541, 542, 217, 543, 544, 545, 546, 473, 474, 475, 476, 454, 455, 456, 457, 718, 719, 720, 721, 722, 723, 724, 725, 726, 727, 728] (by decide +kernel) (by decide +kernel)
set_option maxRecDepth 20000 in
theorem gL_law_X6_outputWord : GoodIn wsL_law (wsV RL 97 RX6 yX6_outputWord wsX6_outputWord) := goodIn_app (goodIn_of _ (by decide +kernel)) ggL_law_X6_outputWord
set_option maxRecDepth 20000 in
theorem ggL_law_X5_isCodeWord : GoodIn wsL_law wsX5_isCodeWord := goodIn_r _ [550, 23, 31, 551, 30, 552, 553, 62, 514, 515, 516, 554, 555, 556, 557, 66, 522, 558, 559, 560, 561, 562, 563, 564, 565, 64, 566, 567, 568, 569, 570, 571, 572, 573, 574, 575, 576, 577, 578, 579, 580, 581, 713, 714, 715, 716, 717, 738, 739, 740, 741, 742, 743, 744, 745, 746, 747, 751, 752, 753, 754, 755, 756] (by decide +kernel) (by decide +kernel)
set_option maxRecDepth 20000 in
theorem gL_law_X5_isCodeWord : GoodIn wsL_law (wsV RL 98 RX5 yX5_isCodeWord wsX5_isCodeWord) := goodIn_app (goodIn_of _ (by decide +kernel)) ggL_law_X5_isCodeWord
set_option maxRecDepth 20000 in
theorem ggL_law_X6_isCodeWord : GoodIn wsL_law wsX6_isCodeWord := goodIn_r _ [585, 213, 233, 234, 5, 235, 586, 587, 588, 589, 590, 591, 592, 718, 719, 720, 721, 722, 723, 724, 725, 726, 727, 728] (by decide +kernel) (by decide +kernel)
set_option maxRecDepth 20000 in
theorem gL_law_X6_isCodeWord : GoodIn wsL_law (wsV RL 101 RX6 yX6_isCodeWord wsX6_isCodeWord) := goodIn_app (goodIn_of _ (by decide +kernel)) ggL_law_X6_isCodeWord
set_option maxRecDepth 20000 in
theorem ggL_law_X5_errorKind : GoodIn wsL_law wsX5_errorKind := goodIn_r _ [596, 23, 31, 193, 22, 194, 195, 159, 500, 501, 502, 503, 504, 505, 506, 160, 507, 30, 508, 509, 510, 511, 512, 513, 66, 61, 62, 514, 515, 516, 517, 518, 519, 520, 521, 522, 463, 464, 465, 49, 523, 524, 525, 526, 466, 467, 468, 50, 368, 369, 370, 48, 365, 366, 367, 51, 527, 528, 529, 530, 490, 2, 491, 713, 714, 715, 716, 717, 738, 739, 740, 741, 742, 743, 744, 745, 746, 747, 751, 752, 753, 754, 755, 756] (by decide +kernel) (by decide +kernel)
set_option maxRecDepth 20000 in
theorem gL_law_X5_errorKind : GoodIn wsL_law (wsV RL 102 RX5 yX5_errorKind wsX5_errorKind) := goodIn_app (goodIn_of _ (by decide +kernel)) ggL_law_X5_errorKind
