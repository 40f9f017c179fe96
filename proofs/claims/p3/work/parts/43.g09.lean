set_option maxRecDepth 20000 in
theorem ggL_law_X7_street : GoodIn wsL_law wsX7_street := goodIn_r _ [795, 28, 226, 43, 796, 233, 234, 235, 449, 450, 2, 451, 797, 798, 799, 800, 801, 802, 803, 804, 805, 806, 807, 24, 225, 32, 448, 785, 786, 787, 491, 492, 493, 494, 247, 248, 249, 31, 250, 251, 252, 253, 254, 83, 255, 256, 257, 258, 259, 260, 261, 262, 263, 264, 265, 266, 267, 268, 84, 269, 193, 194, 270, 271, 272, 273, 274, 275, 555, 556, 557, 558, 597, 598, 599, 600, 489, 545, 840, 841, 842, 843, 844, 845, 846, 847, 848, 849, 895, 896, 897, 898, 899, 881, 882, 883, 884, 885, 886, 887, 888, 889, 890, 900, 901] (by decide +kernel) (by decide +kernel)
set_option maxRecDepth 20000 in
theorem gL_law_X7_street : GoodIn wsL_law (wsV RL 121 RX7 yX7_street wsX7_street) := goodIn_app (goodIn_of _ (by decide +kernel)) ggL_law_X7_street
set_option maxRecDepth 20000 in
theorem ggL_law_X8_street : GoodIn wsL_law wsX8_street := goodIn_r _ [811, 812, 813, 814, 815, 328, 329, 367, 368, 5, 369, 468, 469, 470, 471, 305, 295, 335, 336, 337, 338, 339, 340, 341, 342, 343, 344, 345, 292, 346, 347, 348, 349, 350, 351, 352, 353, 354, 355, 356, 564, 565, 566, 567, 568, 569, 570, 571, 605, 606, 607, 608, 609, 610, 611, 612, 293, 850, 851, 852, 853, 854, 855, 856, 857, 858, 859, 860, 861, 862, 863, 864, 865, 866, 867, 868, 869, 870, 871, 872, 873, 874, 875, 876, 877, 878] (by decide +kernel) (by decide +kernel)
set_option maxRecDepth 20000 in
theorem gL_law_X8_street : GoodIn wsL_law (wsV RL 124 RX8 yX8_street wsX8_street) := goodIn_app (goodIn_of _ (by decide +kernel)) ggL_law_X8_street
set_option maxRecDepth 20000 in
theorem ggL_law_X7_keep : GoodIn wsL_law wsX7_keep := goodIn_r _ [819, 41, 584, 28, 521, 522, 523, 39, 524, 96, 102, 525, 526, 527, 528, 529, 530, 531, 27, 532, 74, 241, 233, 234, 235, 75, 76, 77, 78, 840, 841, 842, 843, 844, 845, 846, 847, 848, 849, 906, 907, 895, 896, 897, 898, 899] (by decide +kernel) (by decide +kernel)
set_option maxRecDepth 20000 in
theorem gL_law_X7_keep : GoodIn wsL_law (wsV RL 125 RX7 yX7_keep wsX7_keep) := goodIn_app (goodIn_of _ (by decide +kernel)) ggL_law_X7_keep
set_option maxRecDepth 20000 in
theorem ggL_law_X8_keep : GoodIn wsL_law wsX8_keep := goodIn_r _ [823, 333, 297, 295, 335, 336, 5, 337, 850, 851, 852, 853, 854, 855, 856, 857, 858, 859, 860, 861, 862, 863, 864, 865, 866, 867, 868, 869, 870, 871, 872, 873, 874, 875, 876, 877, 878] (by decide +kernel) (by decide +kernel)
set_option maxRecDepth 20000 in
theorem gL_law_X8_keep : GoodIn wsL_law (wsV RL 128 RX8 yX8_keep wsX8_keep) := goodIn_app (goodIn_of _ (by decide +kernel)) ggL_law_X8_keep
set_option maxRecDepth 20000 in
theorem ggL_law_X7_back : GoodIn wsL_law wsX7_back := goodIn_r _ [827, 41, 584, 28, 40, 585, 586, 587, 39, 588, 96, 102, 529, 530, 531, 27, 532, 74, 241, 233, 234, 235, 75, 76, 77, 78, 280, 281, 282, 283, 840, 841, 842, 843, 844, 845, 846, 847, 848, 849, 906, 907, 895, 896, 897, 898, 899] (by decide +kernel) (by decide +kernel)
set_option maxRecDepth 20000 in
theorem gL_law_X7_back : GoodIn wsL_law (wsV RL 129 RX7 yX7_back wsX7_back) := goodIn_app (goodIn_of _ (by decide +kernel)) ggL_law_X7_back
set_option maxRecDepth 20000 in
theorem ggL_law_X8_back : GoodIn wsL_law wsX8_back := goodIn_r _ [831, 333, 295, 297, 332, 335, 336, 5, 337, 850, 851, 852, 853, 854, 855, 856, 857, 858, 859, 860, 861, 862, 863, 864, 865, 866, 867, 868, 869, 870, 871, 872, 873, 874, 875, 876, 877, 878] (by decide +kernel) (by decide +kernel)
set_option maxRecDepth 20000 in
theorem gL_law_X8_back : GoodIn wsL_law (wsV RL 132 RX8 yX8_back wsX8_back) := goodIn_app (goodIn_of _ (by decide +kernel)) ggL_law_X8_back
