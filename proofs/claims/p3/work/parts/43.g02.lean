set_option maxRecDepth 20000 in
theorem ggL_law_X7_likes : GoodIn wsL_law wsX7_likes := goodIn_r _ [478, 28, 479, 444, 445, 446, 2, 447, 24, 448, 480, 193, 194, 840, 841, 842, 843, 844, 845, 846, 847, 848, 849, 895, 896, 897, 898, 899, 881, 882, 883, 884, 885, 886, 887, 888, 889, 890] (by decide +kernel) (by decide +kernel)
set_option maxRecDepth 20000 in
theorem gL_law_X7_likes : GoodIn wsL_law (wsV RL 36 RX7 yX7_likes wsX7_likes) := goodIn_app (goodIn_of _ (by decide +kernel)) ggL_law_X7_likes
set_option maxRecDepth 20000 in
theorem ggL_law_X8_likes : GoodIn wsL_law wsX8_likes := goodIn_r _ [484, 295, 464, 465, 466, 5, 467, 328, 367, 368, 369, 850, 851, 852, 853, 854, 855, 856, 857, 858, 859, 860, 861, 862, 863, 864, 865, 866, 867, 868, 869, 870, 871, 872, 873, 874, 875, 876, 877, 878] (by decide +kernel) (by decide +kernel)
set_option maxRecDepth 20000 in
theorem gL_law_X8_likes : GoodIn wsL_law (wsV RL 39 RX8 yX8_likes wsX8_likes) := goodIn_app (goodIn_of _ (by decide +kernel)) ggL_law_X8_likes
set_option maxRecDepth 20000 in
theorem ggL_law_X7_door : GoodIn wsL_law wsX7_door := goodIn_r _ [488, 24, 489, 28, 490, 226, 491, 492, 493, 2, 494, 225, 495, 496, 497, 498, 448, 499, 500, 501, 502, 503, 504, 480, 193, 194, 840, 841, 842, 843, 844, 845, 846, 847, 848, 849, 881, 882, 883, 884, 885, 886, 887, 888, 889, 890, 895, 896, 897, 898, 899] (by decide +kernel) (by decide +kernel)
set_option maxRecDepth 20000 in
theorem gL_law_X7_door : GoodIn wsL_law (wsV RL 40 RX7 yX7_door wsX7_door) := goodIn_app (goodIn_of _ (by decide +kernel)) ggL_law_X7_door
set_option maxRecDepth 20000 in
theorem ggL_law_X8_door : GoodIn wsL_law wsX8_door := goodIn_r _ [508, 293, 295, 509, 510, 511, 5, 512, 329, 367, 368, 369, 513, 514, 515, 516, 328, 331, 850, 851, 852, 853, 854, 855, 856, 857, 858, 859, 860, 861, 862, 863, 864, 865, 866, 867, 868, 869, 870, 871, 872, 873, 874, 875, 876, 877, 878] (by decide +kernel) (by decide +kernel)
set_option maxRecDepth 20000 in
theorem gL_law_X8_door : GoodIn wsL_law (wsV RL 43 RX8 yX8_door wsX8_door) := goodIn_app (goodIn_of _ (by decide +kernel)) ggL_law_X8_door
set_option maxRecDepth 20000 in
theorem ggL_law_X7_call : GoodIn wsL_law wsX7_call := goodIn_r _ [520, 40, 28, 490, 226, 32, 444, 445, 446, 2, 447, 24, 448, 491, 492, 493, 494, 225, 521, 522, 523, 39, 524, 96, 102, 525, 526, 527, 528, 529, 530, 531, 27, 532, 74, 241, 233, 234, 235, 75, 76, 77, 78, 247, 248, 249, 31, 250, 251, 252, 253, 254, 83, 255, 256, 257, 258, 259, 260, 261, 262, 263, 264, 265, 266, 267, 268, 84, 269, 193, 194, 270, 271, 272, 273, 274, 275, 453, 454, 455, 456, 457, 458, 459, 840, 841, 842, 843, 844, 845, 846, 847, 848, 849, 895, 896, 897, 898, 899, 881, 882, 883, 884, 885, 886, 887, 888, 889, 890, 906, 907, 900, 901] (by decide +kernel) (by decide +kernel)
set_option maxRecDepth 20000 in
theorem gL_law_X7_call : GoodIn wsL_law (wsV RL 44 RX7 yX7_call wsX7_call) := goodIn_app (goodIn_of _ (by decide +kernel)) ggL_law_X7_call
set_option maxRecDepth 20000 in
theorem ggL_law_X8_call : GoodIn wsL_law wsX8_call := goodIn_r _ [536, 295, 305, 464, 465, 466, 5, 467, 328, 367, 368, 369, 509, 510, 511, 512, 329, 537, 538, 539, 540, 332, 296, 335, 336, 337, 468, 469, 470, 471, 338, 339, 340, 341, 342, 343, 344, 345, 292, 346, 347, 348, 349, 350, 351, 352, 353, 354, 355, 356, 472, 473, 474, 850, 851, 852, 853, 854, 855, 856, 857, 858, 859, 860, 861, 862, 863, 864, 865, 866, 867, 868, 869, 870, 871, 872, 873, 874, 875, 876, 877, 878] (by decide +kernel) (by decide +kernel)
set_option maxRecDepth 20000 in
theorem gL_law_X8_call : GoodIn wsL_law (wsV RL 47 RX8 yX8_call wsX8_call) := goodIn_app (goodIn_of _ (by decide +kernel)) ggL_law_X8_call
