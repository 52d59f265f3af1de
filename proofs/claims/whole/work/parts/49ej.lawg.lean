set_option maxRecDepth 20000 in
theorem ggL_law_X6_errorKind : GoodIn wsL_law wsX6_errorKind := goodIn_r _ [600, 407, 408, 409, 5, 410, 411, 412, 413, 414, 213, 233, 234, 235, 535, 536, 537, 538, 287, 288, 289, 539, 540, 541, 542, 217, 543, 544, 545, 546, 473, 474, 475, 476, 454, 455, 456, 457, 718, 719, 720, 721, 722, 723, 724, 725, 726, 727, 728] (by decide +kernel) (by decide +kernel)
set_option maxRecDepth 20000 in
theorem gL_law_X6_errorKind : GoodIn wsL_law (wsV RL 105 RX6 yX6_errorKind wsX6_errorKind) := goodIn_app (goodIn_of _ (by decide +kernel)) ggL_law_X6_errorKind
set_option maxRecDepth 20000 in
theorem ggL_law_X5_firstTest : GoodIn wsL_law wsX5_firstTest := goodIn_r _ [604, 23, 31, 500, 22, 501, 502, 503, 504, 505, 506, 160, 605, 30, 606, 607, 66, 522, 510, 511, 512, 513, 61, 62, 514, 515, 516, 517, 518, 519, 520, 521, 463, 464, 465, 49, 523, 524, 525, 526, 466, 467, 468, 50, 368, 369, 370, 48, 365, 366, 367, 51, 554, 555, 556, 557, 558, 559, 560, 561, 562, 563, 564, 565, 64, 566, 567, 568, 569, 570, 571, 572, 573, 574, 575, 576, 577, 578, 579, 580, 581, 608, 609, 2, 610, 489, 490, 491, 713, 714, 715, 716, 717, 738, 739, 740, 741, 742, 743, 744, 745, 746, 747, 751, 752, 753, 754, 755, 756] (by decide +kernel) (by decide +kernel)
set_option maxRecDepth 20000 in
theorem gL_law_X5_firstTest : GoodIn wsL_law (wsV RL 106 RX5 yX5_firstTest wsX5_firstTest) := goodIn_app (goodIn_of _ (by decide +kernel)) ggL_law_X5_firstTest
set_option maxRecDepth 20000 in
theorem ggL_law_X6_firstTest : GoodIn wsL_law wsX6_firstTest := goodIn_r _ [614, 535, 536, 537, 5, 538, 213, 287, 288, 289, 233, 234, 235, 615, 616, 617, 618, 411, 412, 413, 414, 619, 620, 621, 622, 539, 540, 541, 542, 217, 543, 544, 545, 546, 473, 474, 475, 476, 454, 455, 456, 457, 586, 587, 588, 589, 590, 591, 592, 718, 719, 720, 721, 722, 723, 724, 725, 726, 727, 728] (by decide +kernel) (by decide +kernel)
set_option maxRecDepth 20000 in
theorem gL_law_X6_firstTest : GoodIn wsL_law (wsV RL 109 RX6 yX6_firstTest wsX6_firstTest) := goodIn_app (goodIn_of _ (by decide +kernel)) ggL_law_X6_firstTest
set_option maxRecDepth 20000 in
theorem ggL_law_X5_firstUnsafe : GoodIn wsL_law wsX5_firstUnsafe := goodIn_r _ [626, 23, 31, 500, 22, 501, 502, 503, 504, 505, 506, 160, 627, 30, 628, 629, 62, 63, 630, 204, 205, 206, 66, 510, 511, 512, 513, 61, 514, 515, 516, 517, 518, 519, 520, 521, 522, 463, 464, 465, 49, 523, 524, 525, 526, 466, 467, 468, 50, 368, 369, 370, 48, 365, 366, 367, 51, 554, 555, 556, 557, 558, 559, 560, 561, 562, 563, 564, 565, 64, 566, 567, 568, 569, 570, 571, 572, 573, 574, 575, 576, 577, 578, 579, 580, 581, 608, 609, 2, 610, 489, 490, 491, 713, 714, 715, 716, 717, 738, 739, 740, 741, 742, 743, 744, 745, 746, 747, 751, 752, 753, 754, 755, 756] (by decide +kernel) (by decide +kernel)
set_option maxRecDepth 20000 in
theorem gL_law_X5_firstUnsafe : GoodIn wsL_law (wsV RL 110 RX5 yX5_firstUnsafe wsX5_firstUnsafe) := goodIn_app (goodIn_of _ (by decide +kernel)) ggL_law_X5_firstUnsafe
set_option maxRecDepth 20000 in
theorem ggL_law_X6_firstUnsafe : GoodIn wsL_law wsX6_firstUnsafe := goodIn_r _ [634, 535, 536, 537, 5, 538, 213, 287, 288, 289, 233, 234, 235, 635, 636, 637, 638, 411, 412, 413, 414, 639, 640, 641, 642, 539, 540, 541, 542, 217, 543, 544, 545, 546, 473, 474, 475, 476, 454, 455, 456, 457, 586, 587, 588, 589, 590, 591, 592, 718, 719, 720, 721, 722, 723, 724, 725, 726, 727, 728] (by decide +kernel) (by decide +kernel)
set_option maxRecDepth 20000 in
theorem gL_law_X6_firstUnsafe : GoodIn wsL_law (wsV RL 113 RX6 yX6_firstUnsafe wsX6_firstUnsafe) := goodIn_app (goodIn_of _ (by decide +kernel)) ggL_law_X6_firstUnsafe
