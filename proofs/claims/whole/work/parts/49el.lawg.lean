set_option maxRecDepth 20000 in
theorem ggL_law_X6_isCodeDisjoint : GoodIn wsL_law wsX6_isCodeDisjoint := goodIn_r _ [669, 213, 411, 412, 413, 5, 414, 539, 540, 541, 542, 217, 287, 288, 289, 543, 544, 545, 546, 473, 474, 475, 476, 454, 455, 456, 457, 586, 587, 588, 589, 590, 591, 592, 718, 719, 720, 721, 722, 723, 724, 725, 726, 727, 728] (by decide +kernel) (by decide +kernel)
set_option maxRecDepth 20000 in
theorem gL_law_X6_isCodeDisjoint : GoodIn wsL_law (wsV RL 125 RX6 yX6_isCodeDisjoint wsX6_isCodeDisjoint) := goodIn_app (goodIn_of _ (by decide +kernel)) ggL_law_X6_isCodeDisjoint
set_option maxRecDepth 20000 in
theorem ggL_law_X5_isUnordered : GoodIn wsL_law wsX5_isUnordered := goodIn_r _ [673, 31, 674, 30, 675, 676, 66, 510, 511, 512, 513, 61, 62, 514, 515, 516, 517, 518, 519, 520, 521, 522, 463, 22, 464, 465, 49, 523, 524, 525, 526, 466, 467, 468, 50, 368, 369, 370, 48, 365, 366, 367, 51, 490, 2, 491, 527, 528, 529, 530, 677, 678, 679, 489, 680, 681, 682, 713, 714, 715, 716, 717, 751, 752, 753, 754, 755, 756, 738, 739, 740, 741, 742, 743, 744, 745, 746, 747] (by decide +kernel) (by decide +kernel)
set_option maxRecDepth 20000 in
theorem gL_law_X5_isUnordered : GoodIn wsL_law (wsV RL 126 RX5 yX5_isUnordered wsX5_isUnordered) := goodIn_app (goodIn_of _ (by decide +kernel)) ggL_law_X5_isUnordered
set_option maxRecDepth 20000 in
theorem ggL_law_X6_isUnordered : GoodIn wsL_law wsX6_isUnordered := goodIn_r _ [686, 213, 411, 412, 413, 5, 414, 539, 540, 541, 542, 217, 287, 288, 289, 543, 544, 545, 546, 473, 474, 475, 476, 454, 455, 456, 457, 718, 719, 720, 721, 722, 723, 724, 725, 726, 727, 728] (by decide +kernel) (by decide +kernel)
set_option maxRecDepth 20000 in
theorem gL_law_X6_isUnordered : GoodIn wsL_law (wsV RL 129 RX6 yX6_isUnordered wsX6_isUnordered) := goodIn_app (goodIn_of _ (by decide +kernel)) ggL_law_X6_isUnordered
set_option maxRecDepth 20000 in
theorem ggL_law_X5_greedyTest : GoodIn wsL_law wsX5_greedyTest := goodIn_r _ [690, 31, 691, 30, 692, 693, 66, 65, 522, 694, 695, 696, 697, 504, 22, 505, 506, 160, 698, 605, 606, 607, 510, 511, 512, 513, 61, 62, 514, 515, 516, 517, 518, 519, 520, 521, 463, 464, 465, 49, 523, 524, 525, 526, 466, 467, 468, 50, 368, 369, 370, 48, 365, 366, 367, 51, 554, 555, 556, 557, 558, 559, 560, 561, 562, 563, 564, 565, 64, 566, 567, 568, 569, 570, 571, 572, 573, 574, 575, 576, 577, 578, 579, 580, 581, 699, 700, 701, 702, 490, 2, 491, 703, 704, 705, 706, 707, 397, 398, 399, 400, 401, 402, 713, 714, 715, 716, 717, 751, 752, 753, 754, 755, 756, 738, 739, 740, 741, 742, 743, 744, 745, 746, 747] (by decide +kernel) (by decide +kernel)
set_option maxRecDepth 20000 in
theorem gL_law_X5_greedyTest : GoodIn wsL_law (wsV RL 130 RX5 yX5_greedyTest wsX5_greedyTest) := goodIn_app (goodIn_of _ (by decide +kernel)) ggL_law_X5_greedyTest
set_option maxRecDepth 20000 in
theorem ggL_law_X6_greedyTest : GoodIn wsL_law wsX6_greedyTest := goodIn_r _ [711, 218, 213, 712, 411, 412, 413, 5, 414, 287, 288, 289, 619, 620, 621, 622, 539, 540, 541, 542, 217, 543, 544, 545, 546, 473, 474, 475, 476, 454, 455, 456, 457, 586, 587, 588, 589, 590, 591, 592, 718, 719, 720, 721, 722, 723, 724, 725, 726, 727, 728] (by decide +kernel) (by decide +kernel)
set_option maxRecDepth 20000 in
theorem gL_law_X6_greedyTest : GoodIn wsL_law (wsV RL 133 RX6 yX6_greedyTest wsX6_greedyTest) := goodIn_app (goodIn_of _ (by decide +kernel)) ggL_law_X6_greedyTest
