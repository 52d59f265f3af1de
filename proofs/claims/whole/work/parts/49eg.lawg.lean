set_option maxRecDepth 20000 in
theorem ggL_law_X5_nodeCount : GoodIn wsL_law wsX5_nodeCount := goodIn_r _ [441, 23, 713, 714, 715, 716, 717, 738, 739, 740, 741, 742, 743, 744, 745, 746, 747] (by decide +kernel) (by decide +kernel)
set_option maxRecDepth 20000 in
theorem gL_law_X5_nodeCount : GoodIn wsL_law (wsV RL 74 RX5 yX5_nodeCount wsX5_nodeCount) := goodIn_app (goodIn_of _ (by decide +kernel)) ggL_law_X5_nodeCount
set_option maxRecDepth 20000 in
theorem ggL_law_X6_nodeCount : GoodIn wsL_law wsX6_nodeCount := goodIn_r _ [445, 213, 287, 288, 5, 289, 718, 719, 720, 721, 722, 723, 724, 725, 726, 727, 728] (by decide +kernel) (by decide +kernel)
set_option maxRecDepth 20000 in
theorem gL_law_X6_nodeCount : GoodIn wsL_law (wsV RL 77 RX6 yX6_nodeCount wsX6_nodeCount) := goodIn_app (goodIn_of _ (by decide +kernel)) ggL_law_X6_nodeCount
set_option maxRecDepth 20000 in
theorem ggL_law_X5_typeOf : GoodIn wsL_law wsX5_typeOf := goodIn_r _ [449, 23, 169, 22, 170, 171, 160, 368, 369, 370, 48, 713, 714, 715, 716, 717, 738, 739, 740, 741, 742, 743, 744, 745, 746, 747] (by decide +kernel) (by decide +kernel)
set_option maxRecDepth 20000 in
theorem gL_law_X5_typeOf : GoodIn wsL_law (wsV RL 78 RX5 yX5_typeOf wsX5_typeOf) := goodIn_app (goodIn_of _ (by decide +kernel)) ggL_law_X5_typeOf
set_option maxRecDepth 20000 in
theorem ggL_law_X6_typeOf : GoodIn wsL_law wsX6_typeOf := goodIn_r _ [453, 333, 334, 335, 5, 336, 213, 287, 288, 289, 233, 234, 235, 454, 455, 456, 457, 718, 719, 720, 721, 722, 723, 724, 725, 726, 727, 728] (by decide +kernel) (by decide +kernel)
set_option maxRecDepth 20000 in
theorem gL_law_X6_typeOf : GoodIn wsL_law (wsV RL 81 RX6 yX6_typeOf wsX6_typeOf) := goodIn_app (goodIn_of _ (by decide +kernel)) ggL_law_X6_typeOf
set_option maxRecDepth 20000 in
theorem ggL_law_X5_operandOf : GoodIn wsL_law wsX5_operandOf := goodIn_r _ [461, 23, 169, 22, 170, 171, 160, 368, 369, 370, 48, 462, 167, 2, 168, 463, 464, 465, 49, 466, 467, 468, 50, 713, 714, 715, 716, 717, 738, 739, 740, 741, 742, 743, 744, 745, 746, 747] (by decide +kernel) (by decide +kernel)
set_option maxRecDepth 20000 in
theorem gL_law_X5_operandOf : GoodIn wsL_law (wsV RL 82 RX5 yX5_operandOf wsX5_operandOf) := goodIn_app (goodIn_of _ (by decide +kernel)) ggL_law_X5_operandOf
