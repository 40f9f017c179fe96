set_option maxRecDepth 20000 in
theorem ggL_law_X7_forget : GoodIn wsL_law wsX7_forget := goodIn_r _ [702, 36, 690, 276, 277, 278, 35, 279, 91, 840, 841, 842, 843, 844, 845, 846, 847, 848, 849, 902, 903, 904, 905] (by decide +kernel) (by decide +kernel)
set_option maxRecDepth 20000 in
theorem gL_law_X7_forget : GoodIn wsL_law (wsV RL 97 RX7 yX7_forget wsX7_forget) := goodIn_app (goodIn_of _ (by decide +kernel)) ggL_law_X7_forget
set_option maxRecDepth 20000 in
theorem ggL_law_X8_forget : GoodIn wsL_law wsX8_forget := goodIn_r _ [706, 334, 850, 851, 852, 853, 854, 855, 856, 857, 858, 859, 860, 861, 862, 863, 864, 865, 866, 867, 868, 869, 870, 871, 872, 873, 874, 875, 876, 877, 878] (by decide +kernel) (by decide +kernel)
set_option maxRecDepth 20000 in
theorem gL_law_X8_forget : GoodIn wsL_law (wsV RL 100 RX8 yX8_forget wsX8_forget) := goodIn_app (goodIn_of _ (by decide +kernel)) ggL_law_X8_forget
set_option maxRecDepth 20000 in
theorem ggL_law_X7_called : GoodIn wsL_law wsX7_called := goodIn_r _ [710, 36, 24, 448, 32, 491, 492, 493, 2, 494, 225, 711, 712, 713, 35, 714, 91, 89, 88, 715, 716, 717, 718, 90, 247, 248, 249, 31, 250, 251, 252, 253, 254, 83, 255, 256, 257, 258, 259, 260, 261, 262, 263, 264, 265, 266, 267, 268, 84, 269, 193, 194, 270, 271, 272, 273, 274, 275, 840, 841, 842, 843, 844, 845, 846, 847, 848, 849, 881, 882, 883, 884, 885, 886, 887, 888, 889, 890, 902, 903, 904, 905, 900, 901, 895, 896, 897, 898, 899] (by decide +kernel) (by decide +kernel)
set_option maxRecDepth 20000 in
theorem gL_law_X7_called : GoodIn wsL_law (wsV RL 101 RX7 yX7_called wsX7_called) := goodIn_app (goodIn_of _ (by decide +kernel)) ggL_law_X7_called
set_option maxRecDepth 20000 in
theorem ggL_law_X8_called : GoodIn wsL_law wsX8_called := goodIn_r _ [722, 328, 334, 298, 509, 510, 511, 5, 512, 329, 367, 368, 369, 468, 469, 470, 471, 305, 295, 335, 336, 337, 342, 343, 344, 345, 292, 346, 347, 348, 349, 350, 351, 352, 353, 354, 355, 356, 850, 851, 852, 853, 854, 855, 856, 857, 858, 859, 860, 861, 862, 863, 864, 865, 866, 867, 868, 869, 870, 871, 872, 873, 874, 875, 876, 877, 878] (by decide +kernel) (by decide +kernel)
set_option maxRecDepth 20000 in
theorem gL_law_X8_called : GoodIn wsL_law (wsV RL 104 RX8 yX8_called wsX8_called) := goodIn_app (goodIn_of _ (by decide +kernel)) ggL_law_X8_called
set_option maxRecDepth 20000 in
theorem ggL_law_X7_guess : GoodIn wsL_law wsX7_guess := goodIn_r _ [726, 24, 727, 728, 729, 730, 18, 731, 61, 57, 840, 841, 842, 843, 844, 845, 846, 847, 848, 849, 881, 882, 883, 884, 885, 886, 887, 888, 889, 890] (by decide +kernel) (by decide +kernel)
set_option maxRecDepth 20000 in
theorem gL_law_X7_guess : GoodIn wsL_law (wsV RL 105 RX7 yX7_guess wsX7_guess) := goodIn_app (goodIn_of _ (by decide +kernel)) ggL_law_X7_guess
set_option maxRecDepth 20000 in
theorem ggL_law_X8_guess : GoodIn wsL_law wsX8_guess := goodIn_r _ [735, 330, 736, 737, 738, 5, 739, 294, 850, 851, 852, 853, 854, 855, 856, 857, 858, 859, 860, 861, 862, 863, 864, 865, 866, 867, 868, 869, 870, 871, 872, 873, 874, 875, 876, 877, 878] (by decide +kernel) (by decide +kernel)
set_option maxRecDepth 20000 in
theorem gL_law_X8_guess : GoodIn wsL_law (wsV RL 108 RX8 yX8_guess wsX8_guess) := goodIn_app (goodIn_of _ (by decide +kernel)) ggL_law_X8_guess
