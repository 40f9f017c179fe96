set_option maxRecDepth 20000 in
theorem ggL_law_X7_tries : GoodIn wsL_law wsX7_tries := goodIn_r _ [544, 40, 28, 226, 503, 444, 445, 446, 2, 447, 24, 448, 491, 492, 493, 494, 225, 499, 500, 501, 502, 504, 480, 193, 194, 521, 522, 523, 39, 524, 96, 102, 525, 526, 527, 528, 529, 530, 531, 27, 532, 74, 241, 233, 234, 235, 75, 76, 77, 78, 545, 270, 271, 840, 841, 842, 843, 844, 845, 846, 847, 848, 849, 895, 896, 897, 898, 899, 881, 882, 883, 884, 885, 886, 887, 888, 889, 890, 906, 907] (by decide +kernel) (by decide +kernel)
set_option maxRecDepth 20000 in
theorem gL_law_X7_tries : GoodIn wsL_law (wsV RL 48 RX7 yX7_tries wsX7_tries) := goodIn_app (goodIn_of _ (by decide +kernel)) ggL_law_X7_tries
set_option maxRecDepth 20000 in
theorem ggL_law_X8_tries : GoodIn wsL_law wsX8_tries := goodIn_r _ [549, 295, 464, 465, 466, 5, 467, 328, 367, 368, 369, 509, 510, 511, 512, 329, 513, 514, 515, 516, 331, 350, 351, 352, 537, 538, 539, 540, 332, 296, 335, 336, 337, 850, 851, 852, 853, 854, 855, 856, 857, 858, 859, 860, 861, 862, 863, 864, 865, 866, 867, 868, 869, 870, 871, 872, 873, 874, 875, 876, 877, 878] (by decide +kernel) (by decide +kernel)
set_option maxRecDepth 20000 in
theorem gL_law_X8_tries : GoodIn wsL_law (wsV RL 51 RX8 yX8_tries wsX8_tries) := goodIn_app (goodIn_of _ (by decide +kernel)) ggL_law_X8_tries
set_option maxRecDepth 20000 in
theorem ggL_law_X7_day : GoodIn wsL_law wsX7_day := goodIn_r _ [553, 40, 28, 24, 225, 226, 32, 554, 521, 522, 523, 39, 524, 96, 102, 525, 526, 527, 528, 529, 530, 531, 27, 532, 74, 241, 233, 234, 235, 75, 76, 77, 78, 555, 556, 557, 31, 558, 83, 255, 256, 270, 2, 271, 261, 262, 263, 264, 265, 266, 267, 268, 84, 269, 193, 194, 559, 244, 245, 246, 840, 841, 842, 843, 844, 845, 846, 847, 848, 849, 881, 882, 883, 884, 885, 886, 887, 888, 889, 890, 895, 896, 897, 898, 899, 906, 907, 900, 901] (by decide +kernel) (by decide +kernel)
set_option maxRecDepth 20000 in
theorem gL_law_X7_day : GoodIn wsL_law (wsV RL 52 RX7 yX7_day wsX7_day) := goodIn_app (goodIn_of _ (by decide +kernel)) ggL_law_X7_day
set_option maxRecDepth 20000 in
theorem ggL_law_X8_day : GoodIn wsL_law wsX8_day := goodIn_r _ [563, 295, 305, 537, 538, 539, 5, 540, 332, 296, 335, 336, 337, 468, 469, 470, 471, 564, 565, 566, 567, 329, 568, 569, 570, 571, 328, 292, 350, 351, 352, 346, 347, 348, 349, 353, 354, 355, 356, 850, 851, 852, 853, 854, 855, 856, 857, 858, 859, 860, 861, 862, 863, 864, 865, 866, 867, 868, 869, 870, 871, 872, 873, 874, 875, 876, 877, 878] (by decide +kernel) (by decide +kernel)
set_option maxRecDepth 20000 in
theorem gL_law_X8_day : GoodIn wsL_law (wsV RL 55 RX8 yX8_day wsX8_day) := goodIn_app (goodIn_of _ (by decide +kernel)) ggL_law_X8_day
set_option maxRecDepth 20000 in
theorem ggL_law_X7_alter : GoodIn wsL_law wsX7_alter := goodIn_r _ [575, 40, 28, 479, 444, 445, 446, 2, 447, 24, 448, 521, 522, 523, 39, 524, 96, 102, 525, 526, 527, 528, 529, 530, 531, 27, 532, 74, 241, 233, 234, 235, 75, 76, 77, 78, 480, 193, 194, 840, 841, 842, 843, 844, 845, 846, 847, 848, 849, 895, 896, 897, 898, 899, 881, 882, 883, 884, 885, 886, 887, 888, 889, 890, 906, 907] (by decide +kernel) (by decide +kernel)
set_option maxRecDepth 20000 in
theorem gL_law_X7_alter : GoodIn wsL_law (wsV RL 56 RX7 yX7_alter wsX7_alter) := goodIn_app (goodIn_of _ (by decide +kernel)) ggL_law_X7_alter
set_option maxRecDepth 20000 in
theorem ggL_law_X8_alter : GoodIn wsL_law wsX8_alter := goodIn_r _ [579, 295, 464, 465, 466, 5, 467, 328, 367, 368, 369, 537, 538, 539, 540, 332, 296, 335, 336, 337, 850, 851, 852, 853, 854, 855, 856, 857, 858, 859, 860, 861, 862, 863, 864, 865, 866, 867, 868, 869, 870, 871, 872, 873, 874, 875, 876, 877, 878] (by decide +kernel) (by decide +kernel)
set_option maxRecDepth 20000 in
theorem gL_law_X8_alter : GoodIn wsL_law (wsV RL 60 RX8 yX8_alter wsX8_alter) := goodIn_app (goodIn_of _ (by decide +kernel)) ggL_law_X8_alter
