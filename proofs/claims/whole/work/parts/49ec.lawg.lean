set_option maxRecDepth 20000 in
theorem ggL_law_X5_configure : GoodIn wsL_law wsX5_configure := goodIn_r _ [305, 120, 121, 122, 2, 123, 19, 15, 23, 27, 124, 18, 125, 126, 127, 128, 129, 44, 41, 130, 131, 132, 133, 134, 43, 135, 14, 136, 137, 119, 36, 138, 139, 140, 141, 142, 143, 144, 145, 146, 147, 148, 149, 150, 151, 152, 153, 154, 155, 156, 22, 157, 158, 159, 160, 161, 162, 48, 163, 164, 165, 166, 167, 168, 169, 170, 171, 172, 173, 174, 175, 176, 177, 178, 179, 180, 181, 49, 50, 182, 183, 184, 185, 186, 187, 188, 51, 189, 190, 191, 192, 193, 194, 195, 196, 197, 198, 199, 200, 201, 202, 203, 204, 205, 206, 207, 208, 713, 714, 715, 716, 717, 729, 730, 731, 732, 733, 734, 735, 736, 737, 738, 739, 740, 741, 742, 743, 744, 745, 746, 747, 748, 749, 750] (by decide +kernel) (by decide +kernel)
set_option maxRecDepth 20000 in
theorem gL_law_X5_configure : GoodIn wsL_law (wsV RL 31 RX5 yX5_configure wsX5_configure) := goodIn_app (goodIn_of _ (by decide +kernel)) ggL_law_X5_configure
set_option maxRecDepth 20000 in
theorem ggL_law_X6_configure : GoodIn wsL_law wsX6_configure := goodIn_r _ [309, 232, 214, 213, 258, 310, 252, 253, 254, 5, 255, 256, 257, 259, 260, 261, 262, 263, 264, 265, 266, 267, 216, 268, 269, 270, 271, 272, 273, 274, 275, 276, 277, 278, 233, 234, 235, 279, 280, 281, 282, 283, 284, 285, 286, 287, 288, 289, 290, 291, 292, 293, 219, 220, 221, 718, 719, 720, 721, 722, 723, 724, 725, 726, 727, 728] (by decide +kernel) (by decide +kernel)
set_option maxRecDepth 20000 in
theorem gL_law_X6_configure : GoodIn wsL_law (wsV RL 34 RX6 yX6_configure wsX6_configure) := goodIn_app (goodIn_of _ (by decide +kernel)) ggL_law_X6_configure
set_option maxRecDepth 20000 in
theorem ggL_law_X5_addGate : GoodIn wsL_law wsX5_addGate := goodIn_r _ [314, 23, 27, 169, 22, 170, 171, 160, 172, 173, 174, 175, 176, 177, 178, 159, 315, 26, 316, 317, 318, 319, 320, 321, 322, 323, 324, 325, 326, 327, 56, 200, 201, 202, 48, 203, 204, 205, 206, 49, 50, 51, 161, 162, 207, 208, 179, 180, 181, 713, 714, 715, 716, 717, 738, 739, 740, 741, 742, 743, 744, 745, 746, 747, 748, 749, 750] (by decide +kernel) (by decide +kernel)
set_option maxRecDepth 20000 in
theorem gL_law_X5_addGate : GoodIn wsL_law (wsV RL 35 RX5 yX5_addGate wsX5_addGate) := goodIn_app (goodIn_of _ (by decide +kernel)) ggL_law_X5_addGate
set_option maxRecDepth 20000 in
theorem ggL_law_X6_addGate : GoodIn wsL_law wsX6_addGate := goodIn_r _ [331, 332, 213, 233, 234, 5, 235, 333, 334, 335, 336, 287, 288, 289, 337, 338, 339, 340, 310, 215, 219, 220, 221, 718, 719, 720, 721, 722, 723, 724, 725, 726, 727, 728] (by decide +kernel) (by decide +kernel)
set_option maxRecDepth 20000 in
theorem gL_law_X6_addGate : GoodIn wsL_law (wsV RL 39 RX6 yX6_addGate wsX6_addGate) := goodIn_app (goodIn_of _ (by decide +kernel)) ggL_law_X6_addGate
set_option maxRecDepth 20000 in
theorem ggL_law_X5_addTwoRailCell : GoodIn wsL_law wsX5_addTwoRailCell := goodIn_r _ [344, 23, 27, 169, 22, 170, 171, 160, 172, 173, 174, 175, 176, 177, 178, 159, 315, 26, 316, 317, 318, 319, 320, 321, 322, 323, 324, 325, 326, 327, 56, 200, 201, 202, 48, 203, 204, 205, 206, 49, 50, 51, 161, 162, 207, 208, 179, 180, 181, 713, 714, 715, 716, 717, 738, 739, 740, 741, 742, 743, 744, 745, 746, 747, 748, 749, 750] (by decide +kernel) (by decide +kernel)
set_option maxRecDepth 20000 in
theorem gL_law_X5_addTwoRailCell : GoodIn wsL_law (wsV RL 40 RX5 yX5_addTwoRailCell wsX5_addTwoRailCell) := goodIn_app (goodIn_of _ (by decide +kernel)) ggL_law_X5_addTwoRailCell
