set_option maxRecDepth 20000 in
theorem ggL_law_X5_testableFaults : GoodIn wsL_law wsX5_testableFaults := goodIn_r _ [646, 23, 31, 504, 22, 505, 506, 160, 605, 30, 606, 607, 66, 522, 510, 511, 512, 513, 61, 62, 514, 515, 516, 517, 518, 519, 520, 521, 463, 464, 465, 49, 523, 524, 525, 526, 466, 467, 468, 50, 368, 369, 370, 48, 365, 366, 367, 51, 554, 555, 556, 557, 558, 559, 560, 561, 562, 563, 564, 565, 64, 566, 567, 568, 569, 570, 571, 572, 573, 574, 575, 576, 577, 578, 579, 580, 581, 713, 714, 715, 716, 717, 738, 739, 740, 741, 742, 743, 744, 745, 746, 747, 751, 752, 753, 754, 755, 756] (by decide +kernel) (by decide +kernel)
set_option maxRecDepth 20000 in
theorem gL_law_X5_testableFaults : GoodIn wsL_law (wsV RL 114 RX5 yX5_testableFaults wsX5_testableFaults) := goodIn_app (goodIn_of _ (by decide +kernel)) ggL_law_X5_testableFaults
set_option maxRecDepth 20000 in
theorem ggL_law_X6_testableFaults : GoodIn wsL_law wsX6_testableFaults := goodIn_r _ [650, 213, 287, 288, 5, 289, 615, 616, 617, 618, 411, 412, 413, 414, 619, 620, 621, 622, 539, 540, 541, 542, 217, 543, 544, 545, 546, 473, 474, 475, 476, 454, 455, 456, 457, 586, 587, 588, 589, 590, 591, 592, 718, 719, 720, 721, 722, 723, 724, 725, 726, 727, 728] (by decide +kernel) (by decide +kernel)
set_option maxRecDepth 20000 in
theorem gL_law_X6_testableFaults : GoodIn wsL_law (wsV RL 117 RX6 yX6_testableFaults wsX6_testableFaults) := goodIn_app (goodIn_of _ (by decide +kernel)) ggL_law_X6_testableFaults
set_option maxRecDepth 20000 in
theorem ggL_law_X5_secureFaults : GoodIn wsL_law wsX5_secureFaults := goodIn_r _ [654, 23, 31, 504, 22, 505, 506, 160, 627, 30, 628, 629, 62, 63, 630, 204, 205, 206, 66, 510, 511, 512, 513, 61, 514, 515, 516, 517, 518, 519, 520, 521, 522, 463, 464, 465, 49, 523, 524, 525, 526, 466, 467, 468, 50, 368, 369, 370, 48, 365, 366, 367, 51, 554, 555, 556, 557, 558, 559, 560, 561, 562, 563, 564, 565, 64, 566, 567, 568, 569, 570, 571, 572, 573, 574, 575, 576, 577, 578, 579, 580, 581, 713, 714, 715, 716, 717, 738, 739, 740, 741, 742, 743, 744, 745, 746, 747, 751, 752, 753, 754, 755, 756] (by decide +kernel) (by decide +kernel)
set_option maxRecDepth 20000 in
theorem gL_law_X5_secureFaults : GoodIn wsL_law (wsV RL 118 RX5 yX5_secureFaults wsX5_secureFaults) := goodIn_app (goodIn_of _ (by decide +kernel)) ggL_law_X5_secureFaults
set_option maxRecDepth 20000 in
theorem ggL_law_X6_secureFaults : GoodIn wsL_law wsX6_secureFaults := goodIn_r _ [658, 213, 287, 288, 5, 289, 635, 636, 637, 638, 411, 412, 413, 414, 639, 640, 641, 642, 539, 540, 541, 542, 217, 543, 544, 545, 546, 473, 474, 475, 476, 454, 455, 456, 457, 586, 587, 588, 589, 590, 591, 592, 718, 719, 720, 721, 722, 723, 724, 725, 726, 727, 728] (by decide +kernel) (by decide +kernel)
set_option maxRecDepth 20000 in
theorem gL_law_X6_secureFaults : GoodIn wsL_law (wsV RL 121 RX6 yX6_secureFaults wsX6_secureFaults) := goodIn_app (goodIn_of _ (by decide +kernel)) ggL_law_X6_secureFaults
set_option maxRecDepth 20000 in
theorem ggL_law_X5_isCodeDisjoint : GoodIn wsL_law wsX5_isCodeDisjoint := goodIn_r _ [662, 31, 663, 30, 664, 665, 66, 510, 511, 512, 513, 61, 62, 514, 515, 516, 517, 518, 519, 520, 521, 522, 463, 22, 464, 465, 49, 523, 524, 525, 526, 466, 467, 468, 50, 368, 369, 370, 48, 365, 366, 367, 51, 554, 555, 556, 557, 558, 559, 560, 561, 562, 563, 564, 565, 64, 566, 567, 568, 569, 570, 571, 572, 573, 574, 575, 576, 577, 578, 579, 580, 581, 196, 197, 198, 199, 159, 713, 714, 715, 716, 717, 751, 752, 753, 754, 755, 756, 738, 739, 740, 741, 742, 743, 744, 745, 746, 747] (by decide +kernel) (by decide +kernel)
set_option maxRecDepth 20000 in
theorem gL_law_X5_isCodeDisjoint : GoodIn wsL_law (wsV RL 122 RX5 yX5_isCodeDisjoint wsX5_isCodeDisjoint) := goodIn_app (goodIn_of _ (by decide +kernel)) ggL_law_X5_isCodeDisjoint
