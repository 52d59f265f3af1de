set_option maxRecDepth 20000 in
theorem ggL_law_X6_clearText : GoodIn wsL_law wsX6_clearText := goodIn_r _ [243, 232, 718, 719, 720, 721, 722, 723, 724, 725, 726, 727, 728] (by decide +kernel) (by decide +kernel)
set_option maxRecDepth 20000 in
theorem gL_law_X6_clearText : GoodIn wsL_law (wsV RL 22 RX6 yX6_clearText wsX6_clearText) := goodIn_app (goodIn_of _ (by decide +kernel)) ggL_law_X6_clearText
set_option maxRecDepth 20000 in
theorem ggL_law_X5_firstError : GoodIn wsL_law wsX5_firstError := goodIn_r _ [247, 19, 124, 18, 125, 126, 127, 128, 129, 44, 41, 130, 131, 132, 133, 134, 43, 135, 14, 136, 137, 119, 36, 138, 139, 140, 141, 142, 143, 144, 145, 146, 147, 148, 149, 150, 151, 152, 153, 154, 155, 156, 22, 157, 158, 159, 160, 161, 162, 48, 163, 164, 165, 166, 167, 2, 168, 169, 170, 171, 172, 173, 174, 175, 176, 177, 178, 179, 180, 181, 49, 50, 182, 183, 184, 185, 186, 187, 188, 51, 189, 190, 191, 192, 193, 194, 195, 196, 197, 198, 199, 713, 714, 715, 716, 717, 731, 732, 733, 734, 735, 736, 737, 729, 730, 738, 739, 740, 741, 742, 743, 744, 745, 746, 747] (by decide +kernel) (by decide +kernel)
set_option maxRecDepth 20000 in
theorem gL_law_X5_firstError : GoodIn wsL_law (wsV RL 23 RX5 yX5_firstError wsX5_firstError) := goodIn_app (goodIn_of _ (by decide +kernel)) ggL_law_X5_firstError
set_option maxRecDepth 20000 in
theorem ggL_law_X6_firstError : GoodIn wsL_law wsX6_firstError := goodIn_r _ [251, 252, 253, 254, 5, 255, 214, 256, 257, 258, 232, 259, 260, 261, 262, 263, 264, 265, 266, 267, 216, 268, 269, 270, 271, 272, 273, 274, 275, 276, 277, 278, 233, 234, 235, 279, 280, 281, 282, 283, 284, 285, 286, 287, 288, 289, 290, 291, 292, 293, 219, 220, 221, 718, 719, 720, 721, 722, 723, 724, 725, 726, 727, 728] (by decide +kernel) (by decide +kernel)
set_option maxRecDepth 20000 in
theorem gL_law_X6_firstError : GoodIn wsL_law (wsV RL 26 RX6 yX6_firstError wsX6_firstError) := goodIn_app (goodIn_of _ (by decide +kernel)) ggL_law_X6_firstError
set_option maxRecDepth 20000 in
theorem ggL_law_X5_errorReason : GoodIn wsL_law wsX5_errorReason := goodIn_r _ [297, 19, 124, 18, 125, 126, 127, 128, 129, 44, 41, 130, 131, 132, 133, 134, 43, 135, 14, 136, 137, 119, 36, 138, 139, 140, 141, 142, 143, 144, 145, 146, 147, 148, 149, 150, 151, 152, 153, 154, 155, 156, 22, 157, 158, 159, 160, 161, 162, 48, 163, 164, 165, 166, 167, 2, 168, 169, 170, 171, 172, 173, 174, 175, 176, 177, 178, 179, 180, 181, 49, 50, 182, 183, 184, 185, 186, 187, 188, 51, 189, 190, 191, 192, 193, 194, 195, 196, 197, 198, 199, 713, 714, 715, 716, 717, 731, 732, 733, 734, 735, 736, 737, 729, 730, 738, 739, 740, 741, 742, 743, 744, 745, 746, 747] (by decide +kernel) (by decide +kernel)
set_option maxRecDepth 20000 in
theorem gL_law_X5_errorReason : GoodIn wsL_law (wsV RL 27 RX5 yX5_errorReason wsX5_errorReason) := goodIn_app (goodIn_of _ (by decide +kernel)) ggL_law_X5_errorReason
set_option maxRecDepth 20000 in
theorem ggL_law_X6_errorReason : GoodIn wsL_law wsX6_errorReason := goodIn_r _ [301, 257, 252, 253, 254, 5, 255, 214, 256, 258, 232, 259, 260, 261, 262, 263, 264, 265, 266, 267, 216, 268, 269, 270, 271, 272, 273, 274, 275, 276, 277, 278, 233, 234, 235, 279, 280, 281, 282, 283, 284, 285, 286, 287, 288, 289, 290, 291, 292, 293, 219, 220, 221, 718, 719, 720, 721, 722, 723, 724, 725, 726, 727, 728] (by decide +kernel) (by decide +kernel)
set_option maxRecDepth 20000 in
theorem gL_law_X6_errorReason : GoodIn wsL_law (wsV RL 30 RX6 yX6_errorReason wsX6_errorReason) := goodIn_app (goodIn_of _ (by decide +kernel)) ggL_law_X6_errorReason
