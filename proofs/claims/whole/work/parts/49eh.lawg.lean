set_option maxRecDepth 20000 in
theorem ggL_law_X6_operandOf : GoodIn wsL_law wsX6_operandOf := goodIn_r _ [472, 333, 334, 335, 5, 336, 213, 287, 288, 289, 233, 234, 235, 454, 455, 456, 457, 473, 474, 475, 476, 718, 719, 720, 721, 722, 723, 724, 725, 726, 727, 728] (by decide +kernel) (by decide +kernel)
set_option maxRecDepth 20000 in
theorem gL_law_X6_operandOf : GoodIn wsL_law (wsV RL 85 RX6 yX6_operandOf wsX6_operandOf) := goodIn_app (goodIn_of _ (by decide +kernel)) ggL_law_X6_operandOf
set_option maxRecDepth 20000 in
theorem ggL_law_X5_outputNode : GoodIn wsL_law wsX5_outputNode := goodIn_r _ [480, 23, 365, 22, 366, 367, 51, 713, 714, 715, 716, 717, 738, 739, 740, 741, 742, 743, 744, 745, 746, 747] (by decide +kernel) (by decide +kernel)
set_option maxRecDepth 20000 in
theorem gL_law_X5_outputNode : GoodIn wsL_law (wsV RL 86 RX5 yX5_outputNode wsX5_outputNode) := goodIn_app (goodIn_of _ (by decide +kernel)) ggL_law_X5_outputNode
set_option maxRecDepth 20000 in
theorem ggL_law_X6_outputNode : GoodIn wsL_law wsX6_outputNode := goodIn_r _ [484, 213, 233, 234, 5, 235, 718, 719, 720, 721, 722, 723, 724, 725, 726, 727, 728] (by decide +kernel) (by decide +kernel)
set_option maxRecDepth 20000 in
theorem gL_law_X6_outputNode : GoodIn wsL_law (wsV RL 89 RX6 yX6_outputNode wsX6_outputNode) := goodIn_app (goodIn_of _ (by decide +kernel)) ggL_law_X6_outputNode
set_option maxRecDepth 20000 in
theorem ggL_law_X5_isNormal : GoodIn wsL_law wsX5_isNormal := goodIn_r _ [488, 23, 193, 22, 194, 195, 159, 489, 490, 2, 491, 713, 714, 715, 716, 717, 738, 739, 740, 741, 742, 743, 744, 745, 746, 747] (by decide +kernel) (by decide +kernel)
set_option maxRecDepth 20000 in
theorem gL_law_X5_isNormal : GoodIn wsL_law (wsV RL 90 RX5 yX5_isNormal wsX5_isNormal) := goodIn_app (goodIn_of _ (by decide +kernel)) ggL_law_X5_isNormal
set_option maxRecDepth 20000 in
theorem ggL_law_X6_isNormal : GoodIn wsL_law wsX6_isNormal := goodIn_r _ [495, 213, 407, 408, 409, 5, 410, 411, 412, 413, 414, 233, 234, 235, 718, 719, 720, 721, 722, 723, 724, 725, 726, 727, 728] (by decide +kernel) (by decide +kernel)
set_option maxRecDepth 20000 in
theorem gL_law_X6_isNormal : GoodIn wsL_law (wsV RL 93 RX6 yX6_isNormal wsX6_isNormal) := goodIn_app (goodIn_of _ (by decide +kernel)) ggL_law_X6_isNormal
