set_option maxRecDepth 20000 in
theorem ggL_law_X7_undo : GoodIn wsL_law wsX7_undo := goodIn_r _ [583, 40, 584, 28, 585, 586, 587, 39, 588, 96, 102, 529, 530, 531, 27, 532, 74, 241, 233, 234, 235, 75, 76, 77, 78, 840, 841, 842, 843, 844, 845, 846, 847, 848, 849, 906, 907, 895, 896, 897, 898, 899] (by decide +kernel) (by decide +kernel)
set_option maxRecDepth 20000 in
theorem gL_law_X7_undo : GoodIn wsL_law (wsV RL 61 RX7 yX7_undo wsX7_undo) := goodIn_app (goodIn_of _ (by decide +kernel)) ggL_law_X7_undo
set_option maxRecDepth 20000 in
theorem ggL_law_X8_undo : GoodIn wsL_law wsX8_undo := goodIn_r _ [592, 332, 295, 296, 335, 336, 5, 337, 850, 851, 852, 853, 854, 855, 856, 857, 858, 859, 860, 861, 862, 863, 864, 865, 866, 867, 868, 869, 870, 871, 872, 873, 874, 875, 876, 877, 878] (by decide +kernel) (by decide +kernel)
set_option maxRecDepth 20000 in
theorem gL_law_X8_undo : GoodIn wsL_law (wsV RL 64 RX8 yX8_undo wsX8_undo) := goodIn_app (goodIn_of _ (by decide +kernel)) ggL_law_X8_undo
set_option maxRecDepth 20000 in
theorem ggL_law_X7_shutOut : GoodIn wsL_law wsX7_shutOut := goodIn_r _ [596, 28, 226, 597, 598, 599, 2, 600, 24, 225, 489, 545, 270, 271, 840, 841, 842, 843, 844, 845, 846, 847, 848, 849, 895, 896, 897, 898, 899, 881, 882, 883, 884, 885, 886, 887, 888, 889, 890] (by decide +kernel) (by decide +kernel)
set_option maxRecDepth 20000 in
theorem gL_law_X7_shutOut : GoodIn wsL_law (wsV RL 65 RX7 yX7_shutOut wsX7_shutOut) := goodIn_app (goodIn_of _ (by decide +kernel)) ggL_law_X7_shutOut
set_option maxRecDepth 20000 in
theorem ggL_law_X8_shutOut : GoodIn wsL_law wsX8_shutOut := goodIn_r _ [604, 468, 469, 470, 5, 471, 305, 295, 335, 336, 337, 605, 606, 607, 608, 329, 609, 610, 611, 612, 293, 350, 351, 352, 850, 851, 852, 853, 854, 855, 856, 857, 858, 859, 860, 861, 862, 863, 864, 865, 866, 867, 868, 869, 870, 871, 872, 873, 874, 875, 876, 877, 878] (by decide +kernel) (by decide +kernel)
set_option maxRecDepth 20000 in
theorem gL_law_X8_shutOut : GoodIn wsL_law (wsV RL 68 RX8 yX8_shutOut wsX8_shutOut) := goodIn_app (goodIn_of _ (by decide +kernel)) ggL_law_X8_shutOut
set_option maxRecDepth 20000 in
theorem ggL_law_X7_knowsBy : GoodIn wsL_law wsX7_knowsBy := goodIn_r _ [616, 32, 28, 226, 491, 492, 493, 2, 494, 24, 225, 617, 618, 619, 31, 620, 621, 556, 557, 558, 83, 255, 256, 270, 271, 261, 262, 263, 264, 265, 266, 267, 268, 84, 269, 193, 194, 840, 841, 842, 843, 844, 845, 846, 847, 848, 849, 895, 896, 897, 898, 899, 881, 882, 883, 884, 885, 886, 887, 888, 889, 890, 900, 901] (by decide +kernel) (by decide +kernel)
set_option maxRecDepth 20000 in
theorem gL_law_X7_knowsBy : GoodIn wsL_law (wsV RL 69 RX7 yX7_knowsBy wsX7_knowsBy) := goodIn_app (goodIn_of _ (by decide +kernel)) ggL_law_X7_knowsBy
set_option maxRecDepth 20000 in
theorem ggL_law_X8_knowsBy : GoodIn wsL_law wsX8_knowsBy := goodIn_r _ [625, 509, 510, 511, 5, 512, 329, 367, 368, 369, 468, 469, 470, 471, 305, 295, 335, 336, 337, 626, 627, 628, 629, 568, 569, 570, 571, 328, 292, 350, 351, 352, 346, 347, 348, 349, 353, 354, 355, 356, 850, 851, 852, 853, 854, 855, 856, 857, 858, 859, 860, 861, 862, 863, 864, 865, 866, 867, 868, 869, 870, 871, 872, 873, 874, 875, 876, 877, 878] (by decide +kernel) (by decide +kernel)
set_option maxRecDepth 20000 in
theorem gL_law_X8_knowsBy : GoodIn wsL_law (wsV RL 72 RX8 yX8_knowsBy wsX8_knowsBy) := goodIn_app (goodIn_of _ (by decide +kernel)) ggL_law_X8_knowsBy
