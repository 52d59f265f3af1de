set_option maxRecDepth 20000 in
theorem ggL_law_X6_setNormal : GoodIn wsL_law wsX6_setNormal := goodIn_r _ [406, 213, 407, 408, 409, 5, 410, 411, 412, 413, 414, 233, 234, 235, 337, 338, 339, 340, 310, 215, 718, 719, 720, 721, 722, 723, 724, 725, 726, 727, 728] (by decide +kernel) (by decide +kernel)
set_option maxRecDepth 20000 in
theorem gL_law_X6_setNormal : GoodIn wsL_law (wsV RL 65 RX6 yX6_setNormal wsX6_setNormal) := goodIn_app (goodIn_of _ (by decide +kernel)) ggL_law_X6_setNormal
set_option maxRecDepth 20000 in
theorem ggL_law_X5_setCode : GoodIn wsL_law wsX5_setCode := goodIn_r _ [418, 23, 27, 315, 26, 316, 317, 318, 319, 320, 321, 322, 323, 324, 325, 326, 327, 56, 200, 22, 201, 202, 48, 203, 204, 205, 206, 49, 50, 51, 159, 160, 161, 162, 207, 208, 713, 714, 715, 716, 717, 738, 739, 740, 741, 742, 743, 744, 745, 746, 747, 748, 749, 750] (by decide +kernel) (by decide +kernel)
set_option maxRecDepth 20000 in
theorem gL_law_X5_setCode : GoodIn wsL_law (wsV RL 66 RX5 yX5_setCode wsX5_setCode) := goodIn_app (goodIn_of _ (by decide +kernel)) ggL_law_X5_setCode
set_option maxRecDepth 20000 in
theorem ggL_law_X6_setCode : GoodIn wsL_law wsX6_setCode := goodIn_r _ [422, 423, 263, 213, 233, 234, 5, 235, 337, 338, 339, 340, 310, 215, 718, 719, 720, 721, 722, 723, 724, 725, 726, 727, 728] (by decide +kernel) (by decide +kernel)
set_option maxRecDepth 20000 in
theorem gL_law_X6_setCode : GoodIn wsL_law (wsV RL 69 RX6 yX6_setCode wsX6_setCode) := goodIn_app (goodIn_of _ (by decide +kernel)) ggL_law_X6_setCode
set_option maxRecDepth 20000 in
theorem ggL_law_X5_undo : GoodIn wsL_law wsX5_undo := goodIn_r _ [427, 27, 23, 428, 26, 429, 430, 318, 319, 431, 432, 322, 433, 324, 325, 326, 327, 56, 200, 22, 201, 202, 48, 203, 204, 205, 206, 49, 50, 51, 159, 160, 161, 162, 207, 208, 713, 714, 715, 716, 717, 748, 749, 750, 738, 739, 740, 741, 742, 743, 744, 745, 746, 747] (by decide +kernel) (by decide +kernel)
set_option maxRecDepth 20000 in
theorem gL_law_X5_undo : GoodIn wsL_law (wsV RL 70 RX5 yX5_undo wsX5_undo) := goodIn_app (goodIn_of _ (by decide +kernel)) ggL_law_X5_undo
set_option maxRecDepth 20000 in
theorem ggL_law_X6_undo : GoodIn wsL_law wsX6_undo := goodIn_r _ [437, 310, 213, 215, 718, 719, 720, 721, 722, 723, 724, 725, 726, 727, 728] (by decide +kernel) (by decide +kernel)
set_option maxRecDepth 20000 in
theorem gL_law_X6_undo : GoodIn wsL_law (wsV RL 73 RX6 yX6_undo wsX6_undo) := goodIn_app (goodIn_of _ (by decide +kernel)) ggL_law_X6_undo
