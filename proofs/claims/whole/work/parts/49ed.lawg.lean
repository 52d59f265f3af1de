set_option maxRecDepth 20000 in
theorem ggL_law_X6_addTwoRailCell : GoodIn wsL_law wsX6_addTwoRailCell := goodIn_r _ [348, 213, 333, 334, 335, 5, 336, 287, 288, 289, 233, 234, 235, 337, 338, 339, 340, 310, 215, 219, 220, 221, 718, 719, 720, 721, 722, 723, 724, 725, 726, 727, 728] (by decide +kernel) (by decide +kernel)
set_option maxRecDepth 20000 in
theorem gL_law_X6_addTwoRailCell : GoodIn wsL_law (wsV RL 44 RX6 yX6_addTwoRailCell wsX6_addTwoRailCell) := goodIn_app (goodIn_of _ (by decide +kernel)) ggL_law_X6_addTwoRailCell
set_option maxRecDepth 20000 in
theorem ggL_law_X5_addComparator : GoodIn wsL_law wsX5_addComparator := goodIn_r _ [352, 23, 27, 169, 22, 170, 171, 160, 172, 173, 174, 175, 176, 177, 178, 159, 315, 26, 316, 317, 318, 319, 320, 321, 322, 323, 324, 325, 326, 327, 56, 200, 201, 202, 48, 203, 204, 205, 206, 49, 50, 51, 161, 162, 207, 208, 179, 180, 181, 713, 714, 715, 716, 717, 738, 739, 740, 741, 742, 743, 744, 745, 746, 747, 748, 749, 750] (by decide +kernel) (by decide +kernel)
set_option maxRecDepth 20000 in
theorem gL_law_X5_addComparator : GoodIn wsL_law (wsV RL 45 RX5 yX5_addComparator wsX5_addComparator) := goodIn_app (goodIn_of _ (by decide +kernel)) ggL_law_X5_addComparator
set_option maxRecDepth 20000 in
theorem ggL_law_X6_addComparator : GoodIn wsL_law wsX6_addComparator := goodIn_r _ [356, 213, 333, 334, 335, 5, 336, 287, 288, 289, 233, 234, 235, 337, 338, 339, 340, 310, 215, 219, 220, 221, 718, 719, 720, 721, 722, 723, 724, 725, 726, 727, 728] (by decide +kernel) (by decide +kernel)
set_option maxRecDepth 20000 in
theorem gL_law_X6_addComparator : GoodIn wsL_law (wsV RL 49 RX6 yX6_addComparator wsX6_addComparator) := goodIn_app (goodIn_of _ (by decide +kernel)) ggL_law_X6_addComparator
set_option maxRecDepth 20000 in
theorem ggL_law_X5_removeGate : GoodIn wsL_law wsX5_removeGate := goodIn_r _ [360, 23, 27, 176, 22, 177, 178, 160, 159, 361, 362, 363, 161, 364, 365, 366, 367, 51, 315, 26, 316, 317, 318, 319, 320, 321, 322, 323, 324, 325, 326, 327, 56, 200, 201, 202, 48, 203, 204, 205, 206, 49, 50, 162, 207, 208, 368, 369, 370, 713, 714, 715, 716, 717, 738, 739, 740, 741, 742, 743, 744, 745, 746, 747, 748, 749, 750] (by decide +kernel) (by decide +kernel)
set_option maxRecDepth 20000 in
theorem gL_law_X5_removeGate : GoodIn wsL_law (wsV RL 50 RX5 yX5_removeGate wsX5_removeGate) := goodIn_app (goodIn_of _ (by decide +kernel)) ggL_law_X5_removeGate
set_option maxRecDepth 20000 in
theorem ggL_law_X6_removeGate : GoodIn wsL_law wsX6_removeGate := goodIn_r _ [374, 213, 287, 288, 5, 289, 337, 338, 339, 340, 310, 215, 718, 719, 720, 721, 722, 723, 724, 725, 726, 727, 728] (by decide +kernel) (by decide +kernel)
set_option maxRecDepth 20000 in
theorem gL_law_X6_removeGate : GoodIn wsL_law (wsV RL 53 RX6 yX6_removeGate wsX6_removeGate) := goodIn_app (goodIn_of _ (by decide +kernel)) ggL_law_X6_removeGate
