set_option maxRecDepth 20000 in
theorem ggL_law_X5_addOutput : GoodIn wsL_law wsX5_addOutput := goodIn_r _ [378, 23, 27, 169, 22, 170, 171, 160, 315, 26, 316, 317, 318, 319, 320, 321, 322, 323, 324, 325, 326, 327, 56, 200, 201, 202, 48, 203, 204, 205, 206, 49, 50, 51, 159, 161, 162, 207, 208, 186, 187, 188, 713, 714, 715, 716, 717, 738, 739, 740, 741, 742, 743, 744, 745, 746, 747, 748, 749, 750] (by decide +kernel) (by decide +kernel)
set_option maxRecDepth 20000 in
theorem gL_law_X5_addOutput : GoodIn wsL_law (wsV RL 54 RX5 yX5_addOutput wsX5_addOutput) := goodIn_app (goodIn_of _ (by decide +kernel)) ggL_law_X5_addOutput
set_option maxRecDepth 20000 in
theorem ggL_law_X6_addOutput : GoodIn wsL_law wsX6_addOutput := goodIn_r _ [382, 213, 333, 334, 335, 5, 336, 287, 288, 289, 233, 234, 235, 337, 338, 339, 340, 310, 215, 718, 719, 720, 721, 722, 723, 724, 725, 726, 727, 728] (by decide +kernel) (by decide +kernel)
set_option maxRecDepth 20000 in
theorem gL_law_X6_addOutput : GoodIn wsL_law (wsV RL 57 RX6 yX6_addOutput wsX6_addOutput) := goodIn_app (goodIn_of _ (by decide +kernel)) ggL_law_X6_addOutput
set_option maxRecDepth 20000 in
theorem ggL_law_X5_clearOutputs : GoodIn wsL_law wsX5_clearOutputs := goodIn_r _ [386, 23, 27, 315, 26, 316, 317, 318, 319, 320, 321, 322, 323, 324, 325, 326, 327, 56, 200, 22, 201, 202, 48, 203, 204, 205, 206, 49, 50, 51, 159, 160, 161, 162, 207, 208, 713, 714, 715, 716, 717, 738, 739, 740, 741, 742, 743, 744, 745, 746, 747, 748, 749, 750] (by decide +kernel) (by decide +kernel)
set_option maxRecDepth 20000 in
theorem gL_law_X5_clearOutputs : GoodIn wsL_law (wsV RL 58 RX5 yX5_clearOutputs wsX5_clearOutputs) := goodIn_app (goodIn_of _ (by decide +kernel)) ggL_law_X5_clearOutputs
set_option maxRecDepth 20000 in
theorem ggL_law_X6_clearOutputs : GoodIn wsL_law wsX6_clearOutputs := goodIn_r _ [390, 213, 337, 338, 339, 5, 340, 310, 215, 718, 719, 720, 721, 722, 723, 724, 725, 726, 727, 728] (by decide +kernel) (by decide +kernel)
set_option maxRecDepth 20000 in
theorem gL_law_X6_clearOutputs : GoodIn wsL_law (wsV RL 61 RX6 yX6_clearOutputs wsX6_clearOutputs) := goodIn_app (goodIn_of _ (by decide +kernel)) ggL_law_X6_clearOutputs
set_option maxRecDepth 20000 in
theorem ggL_law_X5_setNormal : GoodIn wsL_law wsX5_setNormal := goodIn_r _ [394, 23, 27, 395, 193, 22, 194, 195, 159, 315, 26, 316, 317, 318, 319, 320, 321, 322, 323, 324, 325, 326, 327, 56, 200, 201, 202, 48, 203, 204, 205, 206, 49, 50, 51, 160, 161, 162, 207, 208, 396, 397, 398, 399, 400, 401, 402, 713, 714, 715, 716, 717, 738, 739, 740, 741, 742, 743, 744, 745, 746, 747, 748, 749, 750] (by decide +kernel) (by decide +kernel)
set_option maxRecDepth 20000 in
theorem gL_law_X5_setNormal : GoodIn wsL_law (wsV RL 62 RX5 yX5_setNormal wsX5_setNormal) := goodIn_app (goodIn_of _ (by decide +kernel)) ggL_law_X5_setNormal
