set_option maxRecDepth 20000 in
theorem ggL_law_X7_when : GoodIn wsL_law wsX7_when := goodIn_r _ [633, 28, 226, 32, 444, 445, 446, 2, 447, 24, 448, 491, 492, 493, 494, 225, 545, 270, 271, 555, 556, 557, 31, 558, 83, 255, 256, 261, 262, 263, 264, 265, 266, 267, 268, 84, 269, 193, 194, 840, 841, 842, 843, 844, 845, 846, 847, 848, 849, 895, 896, 897, 898, 899, 881, 882, 883, 884, 885, 886, 887, 888, 889, 890, 900, 901] (by decide +kernel) (by decide +kernel)
set_option maxRecDepth 20000 in
theorem gL_law_X7_when : GoodIn wsL_law (wsV RL 73 RX7 yX7_when wsX7_when) := goodIn_app (goodIn_of _ (by decide +kernel)) ggL_law_X7_when
set_option maxRecDepth 20000 in
theorem ggL_law_X8_when : GoodIn wsL_law wsX8_when := goodIn_r _ [637, 305, 464, 465, 466, 5, 467, 328, 367, 368, 369, 509, 510, 511, 512, 329, 468, 469, 470, 471, 295, 335, 336, 337, 350, 351, 352, 568, 569, 570, 571, 292, 346, 347, 348, 349, 353, 354, 355, 356, 850, 851, 852, 853, 854, 855, 856, 857, 858, 859, 860, 861, 862, 863, 864, 865, 866, 867, 868, 869, 870, 871, 872, 873, 874, 875, 876, 877, 878] (by decide +kernel) (by decide +kernel)
set_option maxRecDepth 20000 in
theorem gL_law_X8_when : GoodIn wsL_law (wsV RL 76 RX8 yX8_when wsX8_when) := goodIn_app (goodIn_of _ (by decide +kernel)) ggL_law_X8_when
set_option maxRecDepth 20000 in
theorem ggL_law_X7_lets : GoodIn wsL_law wsX7_lets := goodIn_r _ [641, 24, 489, 491, 492, 493, 2, 494, 225, 642, 643, 644, 645, 448, 32, 247, 248, 249, 31, 250, 251, 252, 253, 254, 83, 255, 256, 257, 258, 259, 260, 261, 262, 263, 264, 265, 266, 267, 268, 84, 269, 193, 194, 270, 271, 272, 273, 274, 275, 617, 618, 619, 620, 621, 556, 557, 558, 545, 840, 841, 842, 843, 844, 845, 846, 847, 848, 849, 881, 882, 883, 884, 885, 886, 887, 888, 889, 890, 900, 901, 895, 896, 897, 898, 899] (by decide +kernel) (by decide +kernel)
set_option maxRecDepth 20000 in
theorem gL_law_X7_lets : GoodIn wsL_law (wsV RL 77 RX7 yX7_lets wsX7_lets) := goodIn_app (goodIn_of _ (by decide +kernel)) ggL_law_X7_lets
set_option maxRecDepth 20000 in
theorem ggL_law_X8_lets : GoodIn wsL_law wsX8_lets := goodIn_r _ [649, 293, 509, 510, 511, 5, 512, 329, 367, 368, 369, 650, 651, 652, 653, 328, 468, 469, 470, 471, 305, 295, 335, 336, 337, 338, 339, 340, 341, 342, 343, 344, 345, 292, 346, 347, 348, 349, 350, 351, 352, 353, 354, 355, 356, 626, 627, 628, 629, 568, 569, 570, 571, 850, 851, 852, 853, 854, 855, 856, 857, 858, 859, 860, 861, 862, 863, 864, 865, 866, 867, 868, 869, 870, 871, 872, 873, 874, 875, 876, 877, 878] (by decide +kernel) (by decide +kernel)
set_option maxRecDepth 20000 in
theorem gL_law_X8_lets : GoodIn wsL_law (wsV RL 80 RX8 yX8_lets wsX8_lets) := goodIn_app (goodIn_of _ (by decide +kernel)) ggL_law_X8_lets
set_option maxRecDepth 20000 in
theorem ggL_law_X7_keeps : GoodIn wsL_law wsX7_keeps := goodIn_r _ [657, 32, 444, 445, 446, 2, 447, 24, 448, 491, 492, 493, 494, 225, 658, 262, 263, 31, 264, 83, 255, 642, 643, 644, 645, 247, 248, 249, 250, 251, 252, 253, 254, 256, 257, 258, 259, 260, 261, 265, 266, 267, 268, 84, 269, 193, 194, 270, 271, 272, 273, 274, 275, 617, 618, 619, 620, 621, 556, 557, 558, 545, 840, 841, 842, 843, 844, 845, 846, 847, 848, 849, 881, 882, 883, 884, 885, 886, 887, 888, 889, 890, 900, 901, 895, 896, 897, 898, 899] (by decide +kernel) (by decide +kernel)
set_option maxRecDepth 20000 in
theorem gL_law_X7_keeps : GoodIn wsL_law (wsV RL 81 RX7 yX7_keeps wsX7_keeps) := goodIn_app (goodIn_of _ (by decide +kernel)) ggL_law_X7_keeps
set_option maxRecDepth 20000 in
theorem ggL_law_X8_keeps : GoodIn wsL_law wsX8_keeps := goodIn_r _ [662, 328, 464, 465, 466, 5, 467, 367, 368, 369, 509, 510, 511, 512, 329, 650, 651, 652, 653, 468, 469, 470, 471, 305, 295, 335, 336, 337, 338, 339, 340, 341, 342, 343, 344, 345, 292, 346, 347, 348, 349, 350, 351, 352, 353, 354, 355, 356, 626, 627, 628, 629, 568, 569, 570, 571, 850, 851, 852, 853, 854, 855, 856, 857, 858, 859, 860, 861, 862, 863, 864, 865, 866, 867, 868, 869, 870, 871, 872, 873, 874, 875, 876, 877, 878] (by decide +kernel) (by decide +kernel)
set_option maxRecDepth 20000 in
theorem gL_law_X8_keeps : GoodIn wsL_law (wsV RL 84 RX8 yX8_keeps wsX8_keeps) := goodIn_app (goodIn_of _ (by decide +kernel)) ggL_law_X8_keeps
