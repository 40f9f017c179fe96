set_option maxRecDepth 20000 in
theorem ggL_law_X7_allIn : GoodIn wsL_law wsX7_allIn := goodIn_r _ [666, 28, 226, 24, 489, 597, 598, 599, 2, 600, 225, 545, 270, 271, 453, 454, 455, 456, 457, 458, 459, 491, 492, 493, 494, 642, 643, 644, 645, 448, 32, 247, 248, 249, 31, 250, 251, 252, 253, 254, 83, 255, 256, 257, 258, 259, 260, 261, 262, 263, 264, 265, 266, 267, 268, 84, 269, 193, 194, 272, 273, 274, 275, 617, 618, 619, 620, 621, 556, 557, 558, 667, 668, 669, 670, 671, 672, 673, 840, 841, 842, 843, 844, 845, 846, 847, 848, 849, 895, 896, 897, 898, 899, 881, 882, 883, 884, 885, 886, 887, 888, 889, 890, 900, 901] (by decide +kernel) (by decide +kernel)
set_option maxRecDepth 20000 in
theorem gL_law_X7_allIn : GoodIn wsL_law (wsV RL 85 RX7 yX7_allIn wsX7_allIn) := goodIn_app (goodIn_of _ (by decide +kernel)) ggL_law_X7_allIn
set_option maxRecDepth 20000 in
theorem ggL_law_X8_allIn : GoodIn wsL_law wsX8_allIn := goodIn_r _ [677, 329, 293, 367, 368, 5, 369, 468, 469, 470, 471, 305, 295, 335, 336, 337, 605, 606, 607, 608, 609, 610, 611, 612, 350, 351, 352, 472, 473, 474, 650, 651, 652, 653, 328, 338, 339, 340, 341, 342, 343, 344, 345, 292, 346, 347, 348, 349, 353, 354, 355, 356, 626, 627, 628, 629, 568, 569, 570, 571, 850, 851, 852, 853, 854, 855, 856, 857, 858, 859, 860, 861, 862, 863, 864, 865, 866, 867, 868, 869, 870, 871, 872, 873, 874, 875, 876, 877, 878] (by decide +kernel) (by decide +kernel)
set_option maxRecDepth 20000 in
theorem gL_law_X8_allIn : GoodIn wsL_law (wsV RL 88 RX8 yX8_allIn wsX8_allIn) := goodIn_app (goodIn_of _ (by decide +kernel)) ggL_law_X8_allIn
set_option maxRecDepth 20000 in
theorem ggL_law_X7_friend : GoodIn wsL_law wsX7_friend := goodIn_r _ [681, 24, 448, 28, 479, 444, 445, 446, 2, 447, 449, 450, 451, 480, 193, 194, 840, 841, 842, 843, 844, 845, 846, 847, 848, 849, 881, 882, 883, 884, 885, 886, 887, 888, 889, 890, 895, 896, 897, 898, 899] (by decide +kernel) (by decide +kernel)
set_option maxRecDepth 20000 in
theorem gL_law_X7_friend : GoodIn wsL_law (wsV RL 89 RX7 yX7_friend wsX7_friend) := goodIn_app (goodIn_of _ (by decide +kernel)) ggL_law_X7_friend
set_option maxRecDepth 20000 in
theorem ggL_law_X8_friend : GoodIn wsL_law wsX8_friend := goodIn_r _ [685, 328, 295, 464, 465, 466, 5, 467, 367, 368, 369, 850, 851, 852, 853, 854, 855, 856, 857, 858, 859, 860, 861, 862, 863, 864, 865, 866, 867, 868, 869, 870, 871, 872, 873, 874, 875, 876, 877, 878] (by decide +kernel) (by decide +kernel)
set_option maxRecDepth 20000 in
theorem gL_law_X8_friend : GoodIn wsL_law (wsV RL 92 RX8 yX8_friend wsX8_friend) := goodIn_app (goodIn_of _ (by decide +kernel)) ggL_law_X8_friend
set_option maxRecDepth 20000 in
theorem ggL_law_X7_seen : GoodIn wsL_law wsX7_seen := goodIn_r _ [689, 36, 690, 444, 445, 446, 2, 447, 24, 448, 491, 492, 493, 494, 225, 449, 450, 451, 691, 692, 693, 35, 694, 91, 88, 89, 90, 840, 841, 842, 843, 844, 845, 846, 847, 848, 849, 902, 903, 904, 905, 881, 882, 883, 884, 885, 886, 887, 888, 889, 890] (by decide +kernel) (by decide +kernel)
set_option maxRecDepth 20000 in
theorem gL_law_X7_seen : GoodIn wsL_law (wsV RL 93 RX7 yX7_seen wsX7_seen) := goodIn_app (goodIn_of _ (by decide +kernel)) ggL_law_X7_seen
set_option maxRecDepth 20000 in
theorem ggL_law_X8_seen : GoodIn wsL_law wsX8_seen := goodIn_r _ [698, 334, 298, 464, 465, 466, 5, 467, 328, 367, 368, 369, 509, 510, 511, 512, 329, 850, 851, 852, 853, 854, 855, 856, 857, 858, 859, 860, 861, 862, 863, 864, 865, 866, 867, 868, 869, 870, 871, 872, 873, 874, 875, 876, 877, 878] (by decide +kernel) (by decide +kernel)
set_option maxRecDepth 20000 in
theorem gL_law_X8_seen : GoodIn wsL_law (wsV RL 96 RX8 yX8_seen wsX8_seen) := goodIn_app (goodIn_of _ (by decide +kernel)) ggL_law_X8_seen
