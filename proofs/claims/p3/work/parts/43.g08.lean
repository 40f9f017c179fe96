set_option maxRecDepth 20000 in
theorem ggL_law_X7_mean : GoodIn wsL_law wsX7_mean := goodIn_r _ [743, 24, 727, 744, 449, 450, 2, 451, 728, 729, 730, 18, 731, 61, 57, 745, 746, 747, 748, 749, 750, 751, 752, 753, 754, 755, 756, 757, 840, 841, 842, 843, 844, 845, 846, 847, 848, 849, 881, 882, 883, 884, 885, 886, 887, 888, 889, 890] (by decide +kernel) (by decide +kernel)
set_option maxRecDepth 20000 in
theorem gL_law_X7_mean : GoodIn wsL_law (wsV RL 109 RX7 yX7_mean wsX7_mean) := goodIn_app (goodIn_of _ (by decide +kernel)) ggL_law_X7_mean
set_option maxRecDepth 20000 in
theorem ggL_law_X8_mean : GoodIn wsL_law wsX8_mean := goodIn_r _ [761, 330, 294, 367, 368, 5, 369, 736, 737, 738, 739, 762, 763, 764, 765, 766, 767, 768, 850, 851, 852, 853, 854, 855, 856, 857, 858, 859, 860, 861, 862, 863, 864, 865, 866, 867, 868, 869, 870, 871, 872, 873, 874, 875, 876, 877, 878] (by decide +kernel) (by decide +kernel)
set_option maxRecDepth 20000 in
theorem gL_law_X8_mean : GoodIn wsL_law (wsV RL 112 RX8 yX8_mean wsX8_mean) := goodIn_app (goodIn_of _ (by decide +kernel)) ggL_law_X8_mean
set_option maxRecDepth 20000 in
theorem ggL_law_X7_inTime : GoodIn wsL_law wsX7_inTime := goodIn_r _ [772, 24, 727, 504, 744, 449, 450, 2, 451, 728, 729, 730, 18, 731, 61, 57, 745, 746, 747, 748, 749, 750, 751, 752, 753, 754, 755, 756, 757, 840, 841, 842, 843, 844, 845, 846, 847, 848, 849, 881, 882, 883, 884, 885, 886, 887, 888, 889, 890] (by decide +kernel) (by decide +kernel)
set_option maxRecDepth 20000 in
theorem gL_law_X7_inTime : GoodIn wsL_law (wsV RL 113 RX7 yX7_inTime wsX7_inTime) := goodIn_app (goodIn_of _ (by decide +kernel)) ggL_law_X7_inTime
set_option maxRecDepth 20000 in
theorem ggL_law_X8_inTime : GoodIn wsL_law wsX8_inTime := goodIn_r _ [776, 330, 331, 294, 367, 368, 5, 369, 736, 737, 738, 739, 762, 763, 764, 765, 766, 767, 768, 850, 851, 852, 853, 854, 855, 856, 857, 858, 859, 860, 861, 862, 863, 864, 865, 866, 867, 868, 869, 870, 871, 872, 873, 874, 875, 876, 877, 878] (by decide +kernel) (by decide +kernel)
set_option maxRecDepth 20000 in
theorem gL_law_X8_inTime : GoodIn wsL_law (wsV RL 116 RX8 yX8_inTime wsX8_inTime) := goodIn_app (goodIn_of _ (by decide +kernel)) ggL_law_X8_inTime
set_option maxRecDepth 20000 in
theorem ggL_law_X7_likely : GoodIn wsL_law wsX7_likely := goodIn_r _ [780, 24, 448, 489, 491, 492, 493, 2, 494, 225, 449, 450, 451, 781, 782, 783, 784, 28, 226, 32, 785, 786, 787, 755, 756, 757, 545, 270, 271, 247, 248, 249, 31, 250, 251, 252, 253, 254, 83, 255, 256, 257, 258, 259, 260, 261, 262, 263, 264, 265, 266, 267, 268, 84, 269, 193, 194, 272, 273, 274, 275, 555, 556, 557, 558, 749, 750, 751, 752, 753, 754, 840, 841, 842, 843, 844, 845, 846, 847, 848, 849, 881, 882, 883, 884, 885, 886, 887, 888, 889, 890, 895, 896, 897, 898, 899, 900, 901] (by decide +kernel) (by decide +kernel)
set_option maxRecDepth 20000 in
theorem gL_law_X7_likely : GoodIn wsL_law (wsV RL 117 RX7 yX7_likely wsX7_likely) := goodIn_app (goodIn_of _ (by decide +kernel)) ggL_law_X7_likely
set_option maxRecDepth 20000 in
theorem ggL_law_X8_likely : GoodIn wsL_law wsX8_likely := goodIn_r _ [791, 328, 305, 509, 510, 511, 5, 512, 329, 367, 368, 369, 468, 469, 470, 471, 295, 335, 336, 337, 350, 351, 352, 338, 339, 340, 341, 342, 343, 344, 345, 292, 346, 347, 348, 349, 353, 354, 355, 356, 568, 569, 570, 571, 609, 610, 611, 612, 293, 766, 767, 768, 850, 851, 852, 853, 854, 855, 856, 857, 858, 859, 860, 861, 862, 863, 864, 865, 866, 867, 868, 869, 870, 871, 872, 873, 874, 875, 876, 877, 878] (by decide +kernel) (by decide +kernel)
set_option maxRecDepth 20000 in
theorem gL_law_X8_likely : GoodIn wsL_law (wsV RL 120 RX8 yX8_likely wsX8_likely) := goodIn_app (goodIn_of _ (by decide +kernel)) ggL_law_X8_likely
