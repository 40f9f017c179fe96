set_option maxRecDepth 20000 in
theorem ggL_law_X7_init : GoodIn wsL_law wsX7_init := goodIn_r _ [8, 9, 10, 11, 12, 13, 14, 15, 16, 17, 18, 19, 20, 21, 22, 23, 24, 25, 26, 27, 28, 29, 30, 31, 32, 33, 34, 35, 36, 37, 38, 39, 40, 41, 42, 43, 44, 45, 46, 47, 48, 49, 50, 51, 52, 53, 54, 55, 56, 57, 58, 59, 60, 61, 62, 63, 64, 65, 66, 67, 68, 69, 70, 71, 72, 73, 74, 75, 76, 77, 78, 79, 80, 81, 82, 83, 84, 85, 86, 87, 88, 89, 90, 91, 92, 93, 94, 95, 96, 97, 98, 99, 100, 101, 102, 103, 104, 105, 106, 107, 108, 109, 110, 111, 112, 113, 114, 115, 116, 117, 118, 119, 120, 121, 122, 123, 124, 125, 126, 127, 128, 129, 130, 131, 132, 133, 134, 135, 136, 137, 138, 139, 140, 141, 142, 143, 144, 145, 146, 147, 148, 149, 150, 151, 152, 153, 154, 155, 156, 157, 158, 159, 160, 161, 162, 163, 164, 165, 166, 167, 168, 169, 170, 171, 172, 173, 174, 175, 176, 177, 178, 179, 180, 181, 182, 183, 184, 185, 186, 187, 188, 189, 190, 191, 192, 193, 2, 194, 195, 196, 197, 198, 199, 200, 201, 202, 203, 204, 205, 206, 207, 208, 209, 210, 211, 212, 213, 214, 215, 216, 217, 218, 219, 220, 221, 222, 223, 224, 225, 226, 227, 228, 229, 230, 231, 232, 233, 234, 235, 236, 237, 238, 239, 240, 241, 242, 243, 244, 245, 246, 247, 248, 249, 250, 251, 252, 253, 254, 255, 256, 257, 258, 259, 260, 261, 262, 263, 264, 265, 266, 267, 268, 269, 270, 271, 272, 273, 274, 275, 276, 277, 278, 279, 280, 281, 282, 283, 284, 285, 286, 287, 879, 880, 840, 841, 842, 843, 844, 845, 846, 847, 848, 849, 881, 882, 883, 884, 885, 886, 887, 888, 889, 890, 891, 892, 893, 894, 895, 896, 897, 898, 899, 900, 901, 902, 903, 904, 905, 906, 907] (by decide +kernel) (by decide +kernel)
set_option maxRecDepth 20000 in
theorem gL_law_X7_init : GoodIn wsL_law (wsX7_init) := ggL_law_X7_init
set_option maxRecDepth 20000 in
theorem ggL_law_X8_init : GoodIn wsL_law wsX8_init := goodIn_r _ [290, 291, 10, 11, 42, 292, 293, 294, 295, 296, 297, 298, 299, 300, 301, 302, 303, 304, 305, 306, 307, 308, 309, 310, 311, 5, 312, 313, 314, 315, 316, 317, 318, 319, 320, 321, 322, 323, 324, 325, 326, 327, 328, 329, 330, 331, 332, 333, 334, 335, 336, 337, 338, 339, 340, 341, 342, 343, 344, 345, 346, 347, 348, 349, 350, 351, 352, 353, 354, 355, 356, 850, 851, 852, 853, 854, 855, 856, 857, 858, 859, 860, 861, 862, 863, 864, 865, 866, 867, 868, 869, 870, 871, 872, 873, 874, 875, 876, 877, 878] (by decide +kernel) (by decide +kernel)
set_option maxRecDepth 20000 in
theorem gL_law_X8_init : GoodIn wsL_law (wsX8_init) := ggL_law_X8_init
set_option maxRecDepth 20000 in
theorem ggL_law_X7_write : GoodIn wsL_law wsX7_write := goodIn_r _ [360, 15, 361, 152, 153, 154, 14, 155, 49, 48, 840, 841, 842, 843, 844, 845, 846, 847, 848, 849, 879, 880] (by decide +kernel) (by decide +kernel)
set_option maxRecDepth 20000 in
theorem gL_law_X7_write : GoodIn wsL_law (wsV RL 13 RX7 yX7_write wsX7_write) := goodIn_app (goodIn_of _ (by decide +kernel)) ggL_law_X7_write
set_option maxRecDepth 20000 in
theorem ggL_law_X8_write : GoodIn wsL_law wsX8_write := goodIn_r _ [365, 366, 299, 367, 368, 5, 369, 850, 851, 852, 853, 854, 855, 856, 857, 858, 859, 860, 861, 862, 863, 864, 865, 866, 867, 868, 869, 870, 871, 872, 873, 874, 875, 876, 877, 878] (by decide +kernel) (by decide +kernel)
set_option maxRecDepth 20000 in
theorem gL_law_X8_write : GoodIn wsL_law (wsV RL 17 RX8 yX8_write wsX8_write) := goodIn_app (goodIn_of _ (by decide +kernel)) ggL_law_X8_write
set_option maxRecDepth 20000 in
theorem ggL_law_X7_wipe : GoodIn wsL_law wsX7_wipe := goodIn_r _ [373, 15, 361, 284, 285, 286, 14, 287, 49, 840, 841, 842, 843, 844, 845, 846, 847, 848, 849, 879, 880] (by decide +kernel) (by decide +kernel)
set_option maxRecDepth 20000 in
theorem gL_law_X7_wipe : GoodIn wsL_law (wsV RL 18 RX7 yX7_wipe wsX7_wipe) := goodIn_app (goodIn_of _ (by decide +kernel)) ggL_law_X7_wipe
set_option maxRecDepth 20000 in
theorem ggL_law_X8_wipe : GoodIn wsL_law wsX8_wipe := goodIn_r _ [377, 366, 850, 851, 852, 853, 854, 855, 856, 857, 858, 859, 860, 861, 862, 863, 864, 865, 866, 867, 868, 869, 870, 871, 872, 873, 874, 875, 876, 877, 878] (by decide +kernel) (by decide +kernel)
set_option maxRecDepth 20000 in
theorem gL_law_X8_wipe : GoodIn wsL_law (wsV RL 22 RX8 yX8_wipe wsX8_wipe) := goodIn_app (goodIn_of _ (by decide +kernel)) ggL_law_X8_wipe
set_option maxRecDepth 20000 in
theorem ggL_law_X7_fault : GoodIn wsL_law wsX7_fault := goodIn_r _ [381, 23, 156, 157, 158, 22, 159, 70, 67, 68, 69, 160, 161, 162, 163, 18, 164, 58, 59, 60, 61, 62, 165, 166, 167, 14, 168, 49, 48, 169, 170, 171, 172, 173, 174, 175, 176, 177, 178, 179, 180, 181, 182, 183, 184, 185, 186, 187, 188, 189, 190, 191, 192, 193, 2, 194, 195, 196, 197, 198, 199, 200, 201, 202, 203, 204, 205, 206, 207, 208, 209, 210, 211, 212, 213, 214, 215, 216, 217, 218, 219, 220, 840, 841, 842, 843, 844, 845, 846, 847, 848, 849, 891, 892, 893, 894, 879, 880, 881, 882, 883, 884, 885, 886, 887, 888, 889, 890] (by decide +kernel) (by decide +kernel)
set_option maxRecDepth 20000 in
theorem gL_law_X7_fault : GoodIn wsL_law (wsV RL 23 RX7 yX7_fault wsX7_fault) := goodIn_app (goodIn_of _ (by decide +kernel)) ggL_law_X7_fault
set_option maxRecDepth 20000 in
theorem ggL_law_X8_fault : GoodIn wsL_law wsX8_fault := goodIn_r _ [385, 386, 366, 309, 310, 311, 5, 312, 313, 306, 314, 315, 307, 308, 304, 387, 388, 389, 390, 391, 392, 393, 394, 299, 395, 396, 397, 398, 300, 399, 400, 401, 402, 403, 404, 405, 367, 368, 369, 406, 407, 408, 409, 410, 411, 412, 413, 301, 414, 415, 416, 417, 320, 321, 322, 323, 302, 418, 419, 420, 421, 303, 422, 423, 424, 425, 850, 851, 852, 853, 854, 855, 856, 857, 858, 859, 860, 861, 862, 863, 864, 865, 866, 867, 868, 869, 870, 871, 872, 873, 874, 875, 876, 877, 878] (by decide +kernel) (by decide +kernel)
set_option maxRecDepth 20000 in
theorem gL_law_X8_fault : GoodIn wsL_law (wsV RL 26 RX8 yX8_fault wsX8_fault) := goodIn_app (goodIn_of _ (by decide +kernel)) ggL_law_X8_fault
set_option maxRecDepth 20000 in
theorem ggL_law_X7_lay : GoodIn wsL_law wsX7_lay := goodIn_r _ [429, 23, 19, 24, 225, 156, 157, 158, 22, 159, 70, 67, 68, 69, 160, 161, 162, 163, 18, 164, 58, 59, 60, 61, 62, 165, 166, 167, 14, 168, 49, 48, 169, 170, 171, 172, 173, 174, 175, 176, 177, 178, 179, 180, 181, 182, 183, 184, 185, 186, 187, 188, 189, 190, 191, 192, 193, 2, 194, 195, 196, 197, 198, 199, 200, 201, 202, 203, 204, 205, 206, 207, 208, 209, 210, 211, 212, 213, 214, 215, 216, 217, 218, 219, 220, 430, 431, 432, 433, 221, 222, 223, 224, 28, 226, 32, 227, 36, 40, 41, 228, 229, 230, 231, 53, 232, 233, 234, 235, 54, 55, 56, 57, 236, 237, 238, 27, 239, 240, 74, 241, 242, 75, 78, 243, 244, 245, 246, 77, 247, 248, 249, 31, 250, 251, 252, 253, 254, 83, 255, 256, 257, 258, 259, 260, 261, 262, 263, 264, 265, 266, 267, 268, 84, 269, 270, 271, 272, 273, 274, 275, 276, 277, 278, 35, 279, 91, 280, 281, 282, 39, 283, 96, 840, 841, 842, 843, 844, 845, 846, 847, 848, 849, 881, 882, 883, 884, 885, 886, 887, 888, 889, 890, 891, 892, 893, 894, 879, 880, 895, 896, 897, 898, 899, 900, 901, 902, 903, 904, 905, 906, 907] (by decide +kernel) (by decide +kernel)
set_option maxRecDepth 20000 in
theorem gL_law_X7_lay : GoodIn wsL_law (wsV RL 27 RX7 yX7_lay wsX7_lay) := goodIn_app (goodIn_of _ (by decide +kernel)) ggL_law_X7_lay
set_option maxRecDepth 20000 in
theorem ggL_law_X8_lay : GoodIn wsL_law wsX8_lay := goodIn_r _ [437, 314, 306, 315, 329, 438, 383, 384, 5, 385, 386, 366, 309, 310, 311, 312, 313, 307, 308, 304, 387, 388, 389, 390, 391, 392, 393, 394, 299, 395, 396, 397, 398, 300, 399, 400, 401, 402, 403, 404, 405, 367, 368, 369, 406, 407, 408, 409, 410, 411, 412, 413, 301, 414, 415, 416, 417, 320, 321, 322, 323, 302, 418, 419, 420, 421, 303, 422, 423, 424, 425, 324, 325, 326, 327, 328, 292, 293, 330, 294, 331, 305, 295, 332, 333, 334, 335, 336, 337, 338, 339, 340, 341, 342, 343, 344, 345, 346, 347, 348, 349, 350, 351, 352, 353, 354, 355, 356, 850, 851, 852, 853, 854, 855, 856, 857, 858, 859, 860, 861, 862, 863, 864, 865, 866, 867, 868, 869, 870, 871, 872, 873, 874, 875, 876, 877, 878] (by decide +kernel) (by decide +kernel)
set_option maxRecDepth 20000 in
theorem gL_law_X8_lay : GoodIn wsL_law (wsV RL 30 RX8 yX8_lay wsX8_lay) := goodIn_app (goodIn_of _ (by decide +kernel)) ggL_law_X8_lay
set_option maxRecDepth 20000 in
theorem ggL_law_X7_person : GoodIn wsL_law wsX7_person := goodIn_r _ [442, 24, 443, 32, 444, 445, 446, 2, 447, 448, 449, 450, 451, 452, 252, 253, 31, 254, 83, 255, 256, 257, 258, 259, 260, 261, 262, 263, 264, 265, 266, 267, 268, 84, 269, 193, 194, 270, 271, 272, 273, 274, 275, 453, 454, 455, 456, 457, 458, 459, 840, 841, 842, 843, 844, 845, 846, 847, 848, 849, 881, 882, 883, 884, 885, 886, 887, 888, 889, 890, 900, 901, 895, 896, 897, 898, 899] (by decide +kernel) (by decide +kernel)
set_option maxRecDepth 20000 in
theorem gL_law_X7_person : GoodIn wsL_law (wsV RL 31 RX7 yX7_person wsX7_person) := goodIn_app (goodIn_of _ (by decide +kernel)) ggL_law_X7_person
set_option maxRecDepth 20000 in
theorem ggL_law_X8_person : GoodIn wsL_law wsX8_person := goodIn_r _ [463, 292, 464, 465, 466, 5, 467, 328, 367, 368, 369, 468, 469, 470, 471, 305, 295, 335, 336, 337, 342, 343, 344, 345, 346, 347, 348, 349, 350, 351, 352, 353, 354, 355, 356, 472, 473, 474, 850, 851, 852, 853, 854, 855, 856, 857, 858, 859, 860, 861, 862, 863, 864, 865, 866, 867, 868, 869, 870, 871, 872, 873, 874, 875, 876, 877, 878] (by decide +kernel) (by decide +kernel)
set_option maxRecDepth 20000 in
theorem gL_law_X8_person : GoodIn wsL_law (wsV RL 35 RX8 yX8_person wsX8_person) := goodIn_app (goodIn_of _ (by decide +kernel)) ggL_law_X8_person
set_option maxRecDepth 20000 in
theorem ggL_law_X7_likes : GoodIn wsL_law wsX7_likes := goodIn_r _ [478, 28, 479, 444, 445, 446, 2, 447, 24, 448, 480, 193, 194, 840, 841, 842, 843, 844, 845, 846, 847, 848, 849, 895, 896, 897, 898, 899, 881, 882, 883, 884, 885, 886, 887, 888, 889, 890] (by decide +kernel) (by decide +kernel)
set_option maxRecDepth 20000 in
theorem gL_law_X7_likes : GoodIn wsL_law (wsV RL 36 RX7 yX7_likes wsX7_likes) := goodIn_app (goodIn_of _ (by decide +kernel)) ggL_law_X7_likes
set_option maxRecDepth 20000 in
theorem ggL_law_X8_likes : GoodIn wsL_law wsX8_likes := goodIn_r _ [484, 295, 464, 465, 466, 5, 467, 328, 367, 368, 369, 850, 851, 852, 853, 854, 855, 856, 857, 858, 859, 860, 861, 862, 863, 864, 865, 866, 867, 868, 869, 870, 871, 872, 873, 874, 875, 876, 877, 878] (by decide +kernel) (by decide +kernel)
set_option maxRecDepth 20000 in
theorem gL_law_X8_likes : GoodIn wsL_law (wsV RL 39 RX8 yX8_likes wsX8_likes) := goodIn_app (goodIn_of _ (by decide +kernel)) ggL_law_X8_likes
set_option maxRecDepth 20000 in
theorem ggL_law_X7_door : GoodIn wsL_law wsX7_door := goodIn_r _ [488, 24, 489, 28, 490, 226, 491, 492, 493, 2, 494, 225, 495, 496, 497, 498, 448, 499, 500, 501, 502, 503, 504, 480, 193, 194, 840, 841, 842, 843, 844, 845, 846, 847, 848, 849, 881, 882, 883, 884, 885, 886, 887, 888, 889, 890, 895, 896, 897, 898, 899] (by decide +kernel) (by decide +kernel)
set_option maxRecDepth 20000 in
theorem gL_law_X7_door : GoodIn wsL_law (wsV RL 40 RX7 yX7_door wsX7_door) := goodIn_app (goodIn_of _ (by decide +kernel)) ggL_law_X7_door
set_option maxRecDepth 20000 in
theorem ggL_law_X8_door : GoodIn wsL_law wsX8_door := goodIn_r _ [508, 293, 295, 509, 510, 511, 5, 512, 329, 367, 368, 369, 513, 514, 515, 516, 328, 331, 850, 851, 852, 853, 854, 855, 856, 857, 858, 859, 860, 861, 862, 863, 864, 865, 866, 867, 868, 869, 870, 871, 872, 873, 874, 875, 876, 877, 878] (by decide +kernel) (by decide +kernel)
set_option maxRecDepth 20000 in
theorem gL_law_X8_door : GoodIn wsL_law (wsV RL 43 RX8 yX8_door wsX8_door) := goodIn_app (goodIn_of _ (by decide +kernel)) ggL_law_X8_door
set_option maxRecDepth 20000 in
theorem ggL_law_X7_call : GoodIn wsL_law wsX7_call := goodIn_r _ [520, 40, 28, 490, 226, 32, 444, 445, 446, 2, 447, 24, 448, 491, 492, 493, 494, 225, 521, 522, 523, 39, 524, 96, 102, 525, 526, 527, 528, 529, 530, 531, 27, 532, 74, 241, 233, 234, 235, 75, 76, 77, 78, 247, 248, 249, 31, 250, 251, 252, 253, 254, 83, 255, 256, 257, 258, 259, 260, 261, 262, 263, 264, 265, 266, 267, 268, 84, 269, 193, 194, 270, 271, 272, 273, 274, 275, 453, 454, 455, 456, 457, 458, 459, 840, 841, 842, 843, 844, 845, 846, 847, 848, 849, 895, 896, 897, 898, 899, 881, 882, 883, 884, 885, 886, 887, 888, 889, 890, 906, 907, 900, 901] (by decide +kernel) (by decide +kernel)
set_option maxRecDepth 20000 in
theorem gL_law_X7_call : GoodIn wsL_law (wsV RL 44 RX7 yX7_call wsX7_call) := goodIn_app (goodIn_of _ (by decide +kernel)) ggL_law_X7_call
set_option maxRecDepth 20000 in
theorem ggL_law_X8_call : GoodIn wsL_law wsX8_call := goodIn_r _ [536, 295, 305, 464, 465, 466, 5, 467, 328, 367, 368, 369, 509, 510, 511, 512, 329, 537, 538, 539, 540, 332, 296, 335, 336, 337, 468, 469, 470, 471, 338, 339, 340, 341, 342, 343, 344, 345, 292, 346, 347, 348, 349, 350, 351, 352, 353, 354, 355, 356, 472, 473, 474, 850, 851, 852, 853, 854, 855, 856, 857, 858, 859, 860, 861, 862, 863, 864, 865, 866, 867, 868, 869, 870, 871, 872, 873, 874, 875, 876, 877, 878] (by decide +kernel) (by decide +kernel)
set_option maxRecDepth 20000 in
theorem gL_law_X8_call : GoodIn wsL_law (wsV RL 47 RX8 yX8_call wsX8_call) := goodIn_app (goodIn_of _ (by decide +kernel)) ggL_law_X8_call
set_option maxRecDepth 20000 in
theorem ggL_law_X7_tries : GoodIn wsL_law wsX7_tries := goodIn_r _ [544, 40, 28, 226, 503, 444, 445, 446, 2, 447, 24, 448, 491, 492, 493, 494, 225, 499, 500, 501, 502, 504, 480, 193, 194, 521, 522, 523, 39, 524, 96, 102, 525, 526, 527, 528, 529, 530, 531, 27, 532, 74, 241, 233, 234, 235, 75, 76, 77, 78, 545, 270, 271, 840, 841, 842, 843, 844, 845, 846, 847, 848, 849, 895, 896, 897, 898, 899, 881, 882, 883, 884, 885, 886, 887, 888, 889, 890, 906, 907] (by decide +kernel) (by decide +kernel)
set_option maxRecDepth 20000 in
theorem gL_law_X7_tries : GoodIn wsL_law (wsV RL 48 RX7 yX7_tries wsX7_tries) := goodIn_app (goodIn_of _ (by decide +kernel)) ggL_law_X7_tries
set_option maxRecDepth 20000 in
theorem ggL_law_X8_tries : GoodIn wsL_law wsX8_tries := goodIn_r _ [549, 295, 464, 465, 466, 5, 467, 328, 367, 368, 369, 509, 510, 511, 512, 329, 513, 514, 515, 516, 331, 350, 351, 352, 537, 538, 539, 540, 332, 296, 335, 336, 337, 850, 851, 852, 853, 854, 855, 856, 857, 858, 859, 860, 861, 862, 863, 864, 865, 866, 867, 868, 869, 870, 871, 872, 873, 874, 875, 876, 877, 878] (by decide +kernel) (by decide +kernel)
set_option maxRecDepth 20000 in
theorem gL_law_X8_tries : GoodIn wsL_law (wsV RL 51 RX8 yX8_tries wsX8_tries) := goodIn_app (goodIn_of _ (by decide +kernel)) ggL_law_X8_tries
set_option maxRecDepth 20000 in
theorem ggL_law_X7_day : GoodIn wsL_law wsX7_day := goodIn_r _ [553, 40, 28, 24, 225, 226, 32, 554, 521, 522, 523, 39, 524, 96, 102, 525, 526, 527, 528, 529, 530, 531, 27, 532, 74, 241, 233, 234, 235, 75, 76, 77, 78, 555, 556, 557, 31, 558, 83, 255, 256, 270, 2, 271, 261, 262, 263, 264, 265, 266, 267, 268, 84, 269, 193, 194, 559, 244, 245, 246, 840, 841, 842, 843, 844, 845, 846, 847, 848, 849, 881, 882, 883, 884, 885, 886, 887, 888, 889, 890, 895, 896, 897, 898, 899, 906, 907, 900, 901] (by decide +kernel) (by decide +kernel)
set_option maxRecDepth 20000 in
theorem gL_law_X7_day : GoodIn wsL_law (wsV RL 52 RX7 yX7_day wsX7_day) := goodIn_app (goodIn_of _ (by decide +kernel)) ggL_law_X7_day
set_option maxRecDepth 20000 in
theorem ggL_law_X8_day : GoodIn wsL_law wsX8_day := goodIn_r _ [563, 295, 305, 537, 538, 539, 5, 540, 332, 296, 335, 336, 337, 468, 469, 470, 471, 564, 565, 566, 567, 329, 568, 569, 570, 571, 328, 292, 350, 351, 352, 346, 347, 348, 349, 353, 354, 355, 356, 850, 851, 852, 853, 854, 855, 856, 857, 858, 859, 860, 861, 862, 863, 864, 865, 866, 867, 868, 869, 870, 871, 872, 873, 874, 875, 876, 877, 878] (by decide +kernel) (by decide +kernel)
set_option maxRecDepth 20000 in
theorem gL_law_X8_day : GoodIn wsL_law (wsV RL 55 RX8 yX8_day wsX8_day) := goodIn_app (goodIn_of _ (by decide +kernel)) ggL_law_X8_day
set_option maxRecDepth 20000 in
theorem ggL_law_X7_alter : GoodIn wsL_law wsX7_alter := goodIn_r _ [575, 40, 28, 479, 444, 445, 446, 2, 447, 24, 448, 521, 522, 523, 39, 524, 96, 102, 525, 526, 527, 528, 529, 530, 531, 27, 532, 74, 241, 233, 234, 235, 75, 76, 77, 78, 480, 193, 194, 840, 841, 842, 843, 844, 845, 846, 847, 848, 849, 895, 896, 897, 898, 899, 881, 882, 883, 884, 885, 886, 887, 888, 889, 890, 906, 907] (by decide +kernel) (by decide +kernel)
set_option maxRecDepth 20000 in
theorem gL_law_X7_alter : GoodIn wsL_law (wsV RL 56 RX7 yX7_alter wsX7_alter) := goodIn_app (goodIn_of _ (by decide +kernel)) ggL_law_X7_alter
set_option maxRecDepth 20000 in
theorem ggL_law_X8_alter : GoodIn wsL_law wsX8_alter := goodIn_r _ [579, 295, 464, 465, 466, 5, 467, 328, 367, 368, 369, 537, 538, 539, 540, 332, 296, 335, 336, 337, 850, 851, 852, 853, 854, 855, 856, 857, 858, 859, 860, 861, 862, 863, 864, 865, 866, 867, 868, 869, 870, 871, 872, 873, 874, 875, 876, 877, 878] (by decide +kernel) (by decide +kernel)
set_option maxRecDepth 20000 in
theorem gL_law_X8_alter : GoodIn wsL_law (wsV RL 60 RX8 yX8_alter wsX8_alter) := goodIn_app (goodIn_of _ (by decide +kernel)) ggL_law_X8_alter
set_option maxRecDepth 20000 in
theorem ggL_law_X7_undo : GoodIn wsL_law wsX7_undo := goodIn_r _ [583, 40, 584, 28, 585, 586, 587, 39, 588, 96, 102, 529, 530, 531, 27, 532, 74, 241, 233, 234, 235, 75, 76, 77, 78, 840, 841, 842, 843, 844, 845, 846, 847, 848, 849, 906, 907, 895, 896, 897, 898, 899] (by decide +kernel) (by decide +kernel)
set_option maxRecDepth 20000 in
theorem gL_law_X7_undo : GoodIn wsL_law (wsV RL 61 RX7 yX7_undo wsX7_undo) := goodIn_app (goodIn_of _ (by decide +kernel)) ggL_law_X7_undo
set_option maxRecDepth 20000 in
theorem ggL_law_X8_undo : GoodIn wsL_law wsX8_undo := goodIn_r _ [592, 332, 295, 296, 335, 336, 5, 337, 850, 851, 852, 853, 854, 855, 856, 857, 858, 859, 860, 861, 862, 863, 864, 865, 866, 867, 868, 869, 870, 871, 872, 873, 874, 875, 876, 877, 878] (by decide +kernel) (by decide +kernel)
set_option maxRecDepth 20000 in
theorem gL_law_X8_undo : GoodIn wsL_law (wsV RL 64 RX8 yX8_undo wsX8_undo) := goodIn_app (goodIn_of _ (by decide +kernel)) ggL_law_X8_undo
set_option maxRecDepth 20000 in
theorem ggL_law_X7_shutOut : GoodIn wsL_law wsX7_shutOut := goodIn_r _ [596, 28, 226, 597, 598, 599, 2, 600, 24, 225, 489, 545, 270, 271, 840, 841, 842, 843, 844, 845, 846, 847, 848, 849, 895, 896, 897, 898, 899, 881, 882, 883, 884, 885, 886, 887, 888, 889, 890] (by decide +kernel) (by decide +kernel)
set_option maxRecDepth 20000 in
theorem gL_law_X7_shutOut : GoodIn wsL_law (wsV RL 65 RX7 yX7_shutOut wsX7_shutOut) := goodIn_app (goodIn_of _ (by decide +kernel)) ggL_law_X7_shutOut
set_option maxRecDepth 20000 in
theorem ggL_law_X8_shutOut : GoodIn wsL_law wsX8_shutOut := goodIn_r _ [604, 468, 469, 470, 5, 471, 305, 295, 335, 336, 337, 605, 606, 607, 608, 329, 609, 610, 611, 612, 293, 350, 351, 352, 850, 851, 852, 853, 854, 855, 856, 857, 858, 859, 860, 861, 862, 863, 864, 865, 866, 867, 868, 869, 870, 871, 872, 873, 874, 875, 876, 877, 878] (by decide +kernel) (by decide +kernel)
set_option maxRecDepth 20000 in
theorem gL_law_X8_shutOut : GoodIn wsL_law (wsV RL 68 RX8 yX8_shutOut wsX8_shutOut) := goodIn_app (goodIn_of _ (by decide +kernel)) ggL_law_X8_shutOut
set_option maxRecDepth 20000 in
theorem ggL_law_X7_knowsBy : GoodIn wsL_law wsX7_knowsBy := goodIn_r _ [616, 32, 28, 226, 491, 492, 493, 2, 494, 24, 225, 617, 618, 619, 31, 620, 621, 556, 557, 558, 83, 255, 256, 270, 271, 261, 262, 263, 264, 265, 266, 267, 268, 84, 269, 193, 194, 840, 841, 842, 843, 844, 845, 846, 847, 848, 849, 895, 896, 897, 898, 899, 881, 882, 883, 884, 885, 886, 887, 888, 889, 890, 900, 901] (by decide +kernel) (by decide +kernel)
set_option maxRecDepth 20000 in
theorem gL_law_X7_knowsBy : GoodIn wsL_law (wsV RL 69 RX7 yX7_knowsBy wsX7_knowsBy) := goodIn_app (goodIn_of _ (by decide +kernel)) ggL_law_X7_knowsBy
set_option maxRecDepth 20000 in
theorem ggL_law_X8_knowsBy : GoodIn wsL_law wsX8_knowsBy := goodIn_r _ [625, 509, 510, 511, 5, 512, 329, 367, 368, 369, 468, 469, 470, 471, 305, 295, 335, 336, 337, 626, 627, 628, 629, 568, 569, 570, 571, 328, 292, 350, 351, 352, 346, 347, 348, 349, 353, 354, 355, 356, 850, 851, 852, 853, 854, 855, 856, 857, 858, 859, 860, 861, 862, 863, 864, 865, 866, 867, 868, 869, 870, 871, 872, 873, 874, 875, 876, 877, 878] (by decide +kernel) (by decide +kernel)
set_option maxRecDepth 20000 in
theorem gL_law_X8_knowsBy : GoodIn wsL_law (wsV RL 72 RX8 yX8_knowsBy wsX8_knowsBy) := goodIn_app (goodIn_of _ (by decide +kernel)) ggL_law_X8_knowsBy
set_option maxRecDepth 20000 in
theorem ggL_law_X7_when : GoodIn wsL_law wsX7_when := goodIn_r _ [633, 28, 226, 32, 444, 445, 446, 2, 447, 24, 448, 491, 492, 493, 494, 225, 545, 270, 271, 555, 556, 557, 31, 558, 83, 255, 256, 261, 262, 263, 264, 265, 266, 267, 268, 84, 269, 193, 194, 840, 841, 842, 843, 844, 845, 846, 847, 848, 849, 895, 896, 897, 898, 899, 881, 882, 883, 884, 885, 886, 887, 888, 889, 890, 900, 901] (by decide +kernel) (by decide +kernel)
set_option maxRecDepth 20000 in
theorem gL_law_X7_when : GoodIn wsL_law (wsV RL 73 RX7 yX7_when wsX7_when) := goodIn_app (goodIn_of _ (by decide +kernel)) ggL_law_X7_when
set_option maxRecDepth 20000 in
theorem ggL_law_X8_when : GoodIn wsL_law wsX8_when := goodIn_r _ [637, 305, 464, 465, 466, 5, 467, 328, 367, 368, 369, 509, 510, 511, 512, 329, 468, 469, 470, 471, 295, 335, 336, 337, 350, 351, 352, 568, 569, 570, 571, 292, 346, 347, 348, 349, 353, 354, 355, 356, 850, 851, 852, 853, 854, 855, 856, 857, 858, 859, 860, 861, 862, 863, 864, 865, 866, 867, 868, 869, 870, 871, 872, 873, 874, 875, 876, 877, 878] (by decide +kernel) (by decide +kernel)
set_option maxRecDepth 20000 in
theorem gL_law_X8_when : GoodIn wsL_law (wsV RL 76 RX8 yX8_when wsX8_when) := goodIn_app (goodIn_of _ (by decide +kernel)) ggL_law_X8_when
set_option maxRecDepth 20000 in
theorem ggL_law_X7_lets : GoodIn wsL_law wsX7_lets := goodIn_r _ [641, 24, 489, 491, 492, 493, 2, 494, 225, 642, 643, 644, 645, 448, 32, 247, 248, 249, 31, 250, 251, 252, 253, 254, 83, 255, 256, 257, 258, 259, 260, 261, 262, 263, 264, 265, 266, 267, 268, 84, 269, 193, 194, 270, 271, 272, 273, 274, 275, 617, 618, 619, 620, 621, 556, 557, 558, 545, 840, 841, 842, 843, 844, 845, 846, 847, 848, 849, 881, 882, 883, 884, 885, 886, 887, 888, 889, 890, 900, 901, 895, 896, 897, 898, 899] (by decide +kernel) (by decide +kernel)
set_option maxRecDepth 20000 in
theorem gL_law_X7_lets : GoodIn wsL_law (wsV RL 77 RX7 yX7_lets wsX7_lets) := goodIn_app (goodIn_of _ (by decide +kernel)) ggL_law_X7_lets
set_option maxRecDepth 20000 in
theorem ggL_law_X8_lets : GoodIn wsL_law wsX8_lets := goodIn_r _ [649, 293, 509, 510, 511, 5, 512, 329, 367, 368, 369, 650, 651, 652, 653, 328, 468, 469, 470, 471, 305, 295, 335, 336, 337, 338, 339, 340, 341, 342, 343, 344, 345, 292, 346, 347, 348, 349, 350, 351, 352, 353, 354, 355, 356, 626, 627, 628, 629, 568, 569, 570, 571, 850, 851, 852, 853, 854, 855, 856, 857, 858, 859, 860, 861, 862, 863, 864, 865, 866, 867, 868, 869, 870, 871, 872, 873, 874, 875, 876, 877, 878] (by decide +kernel) (by decide +kernel)
set_option maxRecDepth 20000 in
theorem gL_law_X8_lets : GoodIn wsL_law (wsV RL 80 RX8 yX8_lets wsX8_lets) := goodIn_app (goodIn_of _ (by decide +kernel)) ggL_law_X8_lets
set_option maxRecDepth 20000 in
theorem ggL_law_X7_keeps : GoodIn wsL_law wsX7_keeps := goodIn_r _ [657, 32, 444, 445, 446, 2, 447, 24, 448, 491, 492, 493, 494, 225, 658, 262, 263, 31, 264, 83, 255, 642, 643, 644, 645, 247, 248, 249, 250, 251, 252, 253, 254, 256, 257, 258, 259, 260, 261, 265, 266, 267, 268, 84, 269, 193, 194, 270, 271, 272, 273, 274, 275, 617, 618, 619, 620, 621, 556, 557, 558, 545, 840, 841, 842, 843, 844, 845, 846, 847, 848, 849, 881, 882, 883, 884, 885, 886, 887, 888, 889, 890, 900, 901, 895, 896, 897, 898, 899] (by decide +kernel) (by decide +kernel)
set_option maxRecDepth 20000 in
theorem gL_law_X7_keeps : GoodIn wsL_law (wsV RL 81 RX7 yX7_keeps wsX7_keeps) := goodIn_app (goodIn_of _ (by decide +kernel)) ggL_law_X7_keeps
set_option maxRecDepth 20000 in
theorem ggL_law_X8_keeps : GoodIn wsL_law wsX8_keeps := goodIn_r _ [662, 328, 464, 465, 466, 5, 467, 367, 368, 369, 509, 510, 511, 512, 329, 650, 651, 652, 653, 468, 469, 470, 471, 305, 295, 335, 336, 337, 338, 339, 340, 341, 342, 343, 344, 345, 292, 346, 347, 348, 349, 350, 351, 352, 353, 354, 355, 356, 626, 627, 628, 629, 568, 569, 570, 571, 850, 851, 852, 853, 854, 855, 856, 857, 858, 859, 860, 861, 862, 863, 864, 865, 866, 867, 868, 869, 870, 871, 872, 873, 874, 875, 876, 877, 878] (by decide +kernel) (by decide +kernel)
set_option maxRecDepth 20000 in
theorem gL_law_X8_keeps : GoodIn wsL_law (wsV RL 84 RX8 yX8_keeps wsX8_keeps) := goodIn_app (goodIn_of _ (by decide +kernel)) ggL_law_X8_keeps
set_option maxRecDepth 20000 in
theorem ggL_law_X7_allIn : GoodIn wsL_law wsX7_allIn := goodIn_r _ [666, 28, 226, 24, 489, 597, 598, 599, 2, 600, 225, 545, 270, 271, 453, 454, 455, 456, 457, 458, 459, 491, 492, 493, 494, 642, 643, 644, 645, 448, 32, 247, 248, 249, 31, 250, 251, 252, 253, 254, 83, 255, 256, 257, 258, 259, 260, 261, 262, 263, 264, 265, 266, 267, 268, 84, 269, 193, 194, 272, 273, 274, 275, 617, 618, 619, 620, 621, 556, 557, 558, 667, 668, 669, 670, 671, 672, 673, 840, 841, 842, 843, 844, 845, 846, 847, 848, 849, 895, 896, 897, 898, 899, 881, 882, 883, 884, 885, 886, 887, 888, 889, 890, 900, 901] (by decide +kernel) (by decide +kernel)
set_option maxRecDepth 20000 in
theorem gL_law_X7_allIn : GoodIn wsL_law (wsV RL 85 RX7 yX7_allIn wsX7_allIn) := goodIn_app (goodIn_of _ (by decide +kernel)) ggL_law_X7_allIn
set_option maxRecDepth 20000 in
theorem ggL_law_X8_allIn : GoodIn wsL_law wsX8_allIn := goodIn_r _ [677, 329, 293, 367, 368, 5, 369, 468, 469, 470, 471, 305, 295, 335, 336, 337, 605, 606, 607, 608, 609, 610, 611, 612, 350, 351, 352, 472, 473, 474, 650, 651, 652, 653, 328, 338, 339, 340, 341, 342, 343, 344, 345, 292, 346, 347, 348, 349, 353, 354, 355, 356, 626, 627, 628, 629, 568, 569, 570, 571, 850, 851, 852, 853, 854, 855, 856, 857, 858, 859, 860, 861, 862, 863, 864, 865, 866, 867, 868, 869, 870, 871, 872, 873, 874, 875, 876, 877, 878] (by decide +kernel) (by decide +kernel)
set_option maxRecDepth 20000 in
theorem gL_law_X8_allIn : GoodIn wsL_law (wsV RL 88 RX8 yX8_allIn wsX8_allIn) := goodIn_app (goodIn_of _ (by decide +kernel)) ggL_law_X8_allIn
set_option maxRecDepth 20000 in
theorem ggL_law_X7_friend : GoodIn wsL_law wsX7_friend := goodIn_r _ [681, 24, 448, 28, 479, 444, 445, 446, 2, 447, 449, 450, 451, 480, 193, 194, 840, 841, 842, 843, 844, 845, 846, 847, 848, 849, 881, 882, 883, 884, 885, 886, 887, 888, 889, 890, 895, 896, 897, 898, 899] (by decide +kernel) (by decide +kernel)
set_option maxRecDepth 20000 in
theorem gL_law_X7_friend : GoodIn wsL_law (wsV RL 89 RX7 yX7_friend wsX7_friend) := goodIn_app (goodIn_of _ (by decide +kernel)) ggL_law_X7_friend
set_option maxRecDepth 20000 in
theorem ggL_law_X8_friend : GoodIn wsL_law wsX8_friend := goodIn_r _ [685, 328, 295, 464, 465, 466, 5, 467, 367, 368, 369, 850, 851, 852, 853, 854, 855, 856, 857, 858, 859, 860, 861, 862, 863, 864, 865, 866, 867, 868, 869, 870, 871, 872, 873, 874, 875, 876, 877, 878] (by decide +kernel) (by decide +kernel)
set_option maxRecDepth 20000 in
theorem gL_law_X8_friend : GoodIn wsL_law (wsV RL 92 RX8 yX8_friend wsX8_friend) := goodIn_app (goodIn_of _ (by decide +kernel)) ggL_law_X8_friend
set_option maxRecDepth 20000 in
theorem ggL_law_X7_seen : GoodIn wsL_law wsX7_seen := goodIn_r _ [689, 36, 690, 444, 445, 446, 2, 447, 24, 448, 491, 492, 493, 494, 225, 449, 450, 451, 691, 692, 693, 35, 694, 91, 88, 89, 90, 840, 841, 842, 843, 844, 845, 846, 847, 848, 849, 902, 903, 904, 905, 881, 882, 883, 884, 885, 886, 887, 888, 889, 890] (by decide +kernel) (by decide +kernel)
set_option maxRecDepth 20000 in
theorem gL_law_X7_seen : GoodIn wsL_law (wsV RL 93 RX7 yX7_seen wsX7_seen) := goodIn_app (goodIn_of _ (by decide +kernel)) ggL_law_X7_seen
set_option maxRecDepth 20000 in
theorem ggL_law_X8_seen : GoodIn wsL_law wsX8_seen := goodIn_r _ [698, 334, 298, 464, 465, 466, 5, 467, 328, 367, 368, 369, 509, 510, 511, 512, 329, 850, 851, 852, 853, 854, 855, 856, 857, 858, 859, 860, 861, 862, 863, 864, 865, 866, 867, 868, 869, 870, 871, 872, 873, 874, 875, 876, 877, 878] (by decide +kernel) (by decide +kernel)
set_option maxRecDepth 20000 in
theorem gL_law_X8_seen : GoodIn wsL_law (wsV RL 96 RX8 yX8_seen wsX8_seen) := goodIn_app (goodIn_of _ (by decide +kernel)) ggL_law_X8_seen
set_option maxRecDepth 20000 in
theorem ggL_law_X7_forget : GoodIn wsL_law wsX7_forget := goodIn_r _ [702, 36, 690, 276, 277, 278, 35, 279, 91, 840, 841, 842, 843, 844, 845, 846, 847, 848, 849, 902, 903, 904, 905] (by decide +kernel) (by decide +kernel)
set_option maxRecDepth 20000 in
theorem gL_law_X7_forget : GoodIn wsL_law (wsV RL 97 RX7 yX7_forget wsX7_forget) := goodIn_app (goodIn_of _ (by decide +kernel)) ggL_law_X7_forget
set_option maxRecDepth 20000 in
theorem ggL_law_X8_forget : GoodIn wsL_law wsX8_forget := goodIn_r _ [706, 334, 850, 851, 852, 853, 854, 855, 856, 857, 858, 859, 860, 861, 862, 863, 864, 865, 866, 867, 868, 869, 870, 871, 872, 873, 874, 875, 876, 877, 878] (by decide +kernel) (by decide +kernel)
set_option maxRecDepth 20000 in
theorem gL_law_X8_forget : GoodIn wsL_law (wsV RL 100 RX8 yX8_forget wsX8_forget) := goodIn_app (goodIn_of _ (by decide +kernel)) ggL_law_X8_forget
set_option maxRecDepth 20000 in
theorem ggL_law_X7_called : GoodIn wsL_law wsX7_called := goodIn_r _ [710, 36, 24, 448, 32, 491, 492, 493, 2, 494, 225, 711, 712, 713, 35, 714, 91, 89, 88, 715, 716, 717, 718, 90, 247, 248, 249, 31, 250, 251, 252, 253, 254, 83, 255, 256, 257, 258, 259, 260, 261, 262, 263, 264, 265, 266, 267, 268, 84, 269, 193, 194, 270, 271, 272, 273, 274, 275, 840, 841, 842, 843, 844, 845, 846, 847, 848, 849, 881, 882, 883, 884, 885, 886, 887, 888, 889, 890, 902, 903, 904, 905, 900, 901, 895, 896, 897, 898, 899] (by decide +kernel) (by decide +kernel)
set_option maxRecDepth 20000 in
theorem gL_law_X7_called : GoodIn wsL_law (wsV RL 101 RX7 yX7_called wsX7_called) := goodIn_app (goodIn_of _ (by decide +kernel)) ggL_law_X7_called
set_option maxRecDepth 20000 in
theorem ggL_law_X8_called : GoodIn wsL_law wsX8_called := goodIn_r _ [722, 328, 334, 298, 509, 510, 511, 5, 512, 329, 367, 368, 369, 468, 469, 470, 471, 305, 295, 335, 336, 337, 342, 343, 344, 345, 292, 346, 347, 348, 349, 350, 351, 352, 353, 354, 355, 356, 850, 851, 852, 853, 854, 855, 856, 857, 858, 859, 860, 861, 862, 863, 864, 865, 866, 867, 868, 869, 870, 871, 872, 873, 874, 875, 876, 877, 878] (by decide +kernel) (by decide +kernel)
set_option maxRecDepth 20000 in
theorem gL_law_X8_called : GoodIn wsL_law (wsV RL 104 RX8 yX8_called wsX8_called) := goodIn_app (goodIn_of _ (by decide +kernel)) ggL_law_X8_called
set_option maxRecDepth 20000 in
theorem ggL_law_X7_guess : GoodIn wsL_law wsX7_guess := goodIn_r _ [726, 24, 727, 728, 729, 730, 18, 731, 61, 57, 840, 841, 842, 843, 844, 845, 846, 847, 848, 849, 881, 882, 883, 884, 885, 886, 887, 888, 889, 890] (by decide +kernel) (by decide +kernel)
set_option maxRecDepth 20000 in
theorem gL_law_X7_guess : GoodIn wsL_law (wsV RL 105 RX7 yX7_guess wsX7_guess) := goodIn_app (goodIn_of _ (by decide +kernel)) ggL_law_X7_guess
set_option maxRecDepth 20000 in
theorem ggL_law_X8_guess : GoodIn wsL_law wsX8_guess := goodIn_r _ [735, 330, 736, 737, 738, 5, 739, 294, 850, 851, 852, 853, 854, 855, 856, 857, 858, 859, 860, 861, 862, 863, 864, 865, 866, 867, 868, 869, 870, 871, 872, 873, 874, 875, 876, 877, 878] (by decide +kernel) (by decide +kernel)
set_option maxRecDepth 20000 in
theorem gL_law_X8_guess : GoodIn wsL_law (wsV RL 108 RX8 yX8_guess wsX8_guess) := goodIn_app (goodIn_of _ (by decide +kernel)) ggL_law_X8_guess
set_option maxRecDepth 20000 in
theorem ggL_law_X7_mean : GoodIn wsL_law wsX7_mean := goodIn_r _ [743, 24, 727, 744, 449, 450, 2, 451, 728, 729, 730, 18, 731, 61, 57, 745, 746, 747, 748, 749, 750, 751, 752, 753, 754, 755, 756, 757, 840, 841, 842, 843, 844, 845, 846, 847, 848, 849, 881, 882, 883, 884, 885, 886, 887, 888, 889, 890] (by decide +kernel) (by decide +kernel)
set_option maxRecDepth 20000 in
theorem gL_law_X7_mean : GoodIn wsL_law (wsV RL 109 RX7 yX7_mean wsX7_mean) := goodIn_app (goodIn_of _ (by decide +kernel)) ggL_law_X7_mean
set_option maxRecDepth 20000 in
theorem ggL_law_X8_mean : GoodIn wsL_law wsX8_mean := goodIn_r _ [761, 330, 294, 367, 368, 5, 369, 736, 737, 738, 739, 762, 763, 764, 765, 766, 767, 768, 850, 851, 852, 853, 854, 855, 856, 857, 858, 859, 860, 861, 862, 863, 864, 865, 866, 867, 868, 869, 870, 871, 872, 873, 874, 875, 876, 877, 878] (by decide +kernel) (by decide +kernel)
set_option maxRecDepth 20000 in
theorem gL_law_X8_mean : GoodIn wsL_law (wsV RL 112 RX8 yX8_mean wsX8_mean) := goodIn_app (goodIn_of _ (by decide +kernel)) ggL_law_X8_mean
set_option maxRecDepth 20000 in
theorem ggL_law_X7_inTime : GoodIn wsL_law wsX7_inTime := goodIn_r _ [772, 24, 727, 504, 744, 449, 450, 2, 451, 728, 729, 730, 18, 731, 61, 57, 745, 746, 747, 748, 749, 750, 751, 752, 753, 754, 755, 756, 757, 840, 841, 842, 843, 844, 845, 846, 847, 848, 849, 881, 882, 883, 884, 885, 886, 887, 888, 889, 890] (by decide +kernel) (by decide +kernel)
set_option maxRecDepth 20000 in
theorem gL_law_X7_inTime : GoodIn wsL_law (wsV RL 113 RX7 yX7_inTime wsX7_inTime) := goodIn_app (goodIn_of _ (by decide +kernel)) ggL_law_X7_inTime
set_option maxRecDepth 20000 in
theorem ggL_law_X8_inTime : GoodIn wsL_law wsX8_inTime := goodIn_r _ [776, 330, 331, 294, 367, 368, 5, 369, 736, 737, 738, 739, 762, 763, 764, 765, 766, 767, 768, 850, 851, 852, 853, 854, 855, 856, 857, 858, 859, 860, 861, 862, 863, 864, 865, 866, 867, 868, 869, 870, 871, 872, 873, 874, 875, 876, 877, 878] (by decide +kernel) (by decide +kernel)
set_option maxRecDepth 20000 in
theorem gL_law_X8_inTime : GoodIn wsL_law (wsV RL 116 RX8 yX8_inTime wsX8_inTime) := goodIn_app (goodIn_of _ (by decide +kernel)) ggL_law_X8_inTime
set_option maxRecDepth 20000 in
theorem ggL_law_X7_likely : GoodIn wsL_law wsX7_likely := goodIn_r _ [780, 24, 448, 489, 491, 492, 493, 2, 494, 225, 449, 450, 451, 781, 782, 783, 784, 28, 226, 32, 785, 786, 787, 755, 756, 757, 545, 270, 271, 247, 248, 249, 31, 250, 251, 252, 253, 254, 83, 255, 256, 257, 258, 259, 260, 261, 262, 263, 264, 265, 266, 267, 268, 84, 269, 193, 194, 272, 273, 274, 275, 555, 556, 557, 558, 749, 750, 751, 752, 753, 754, 840, 841, 842, 843, 844, 845, 846, 847, 848, 849, 881, 882, 883, 884, 885, 886, 887, 888, 889, 890, 895, 896, 897, 898, 899, 900, 901] (by decide +kernel) (by decide +kernel)
set_option maxRecDepth 20000 in
theorem gL_law_X7_likely : GoodIn wsL_law (wsV RL 117 RX7 yX7_likely wsX7_likely) := goodIn_app (goodIn_of _ (by decide +kernel)) ggL_law_X7_likely
set_option maxRecDepth 20000 in
theorem ggL_law_X8_likely : GoodIn wsL_law wsX8_likely := goodIn_r _ [791, 328, 305, 509, 510, 511, 5, 512, 329, 367, 368, 369, 468, 469, 470, 471, 295, 335, 336, 337, 350, 351, 352, 338, 339, 340, 341, 342, 343, 344, 345, 292, 346, 347, 348, 349, 353, 354, 355, 356, 568, 569, 570, 571, 609, 610, 611, 612, 293, 766, 767, 768, 850, 851, 852, 853, 854, 855, 856, 857, 858, 859, 860, 861, 862, 863, 864, 865, 866, 867, 868, 869, 870, 871, 872, 873, 874, 875, 876, 877, 878] (by decide +kernel) (by decide +kernel)
set_option maxRecDepth 20000 in
theorem gL_law_X8_likely : GoodIn wsL_law (wsV RL 120 RX8 yX8_likely wsX8_likely) := goodIn_app (goodIn_of _ (by decide +kernel)) ggL_law_X8_likely
set_option maxRecDepth 20000 in
theorem ggL_law_X7_street : GoodIn wsL_law wsX7_street := goodIn_r _ [795, 28, 226, 43, 796, 233, 234, 235, 449, 450, 2, 451, 797, 798, 799, 800, 801, 802, 803, 804, 805, 806, 807, 24, 225, 32, 448, 785, 786, 787, 491, 492, 493, 494, 247, 248, 249, 31, 250, 251, 252, 253, 254, 83, 255, 256, 257, 258, 259, 260, 261, 262, 263, 264, 265, 266, 267, 268, 84, 269, 193, 194, 270, 271, 272, 273, 274, 275, 555, 556, 557, 558, 597, 598, 599, 600, 489, 545, 840, 841, 842, 843, 844, 845, 846, 847, 848, 849, 895, 896, 897, 898, 899, 881, 882, 883, 884, 885, 886, 887, 888, 889, 890, 900, 901] (by decide +kernel) (by decide +kernel)
set_option maxRecDepth 20000 in
theorem gL_law_X7_street : GoodIn wsL_law (wsV RL 121 RX7 yX7_street wsX7_street) := goodIn_app (goodIn_of _ (by decide +kernel)) ggL_law_X7_street
set_option maxRecDepth 20000 in
theorem ggL_law_X8_street : GoodIn wsL_law wsX8_street := goodIn_r _ [811, 812, 813, 814, 815, 328, 329, 367, 368, 5, 369, 468, 469, 470, 471, 305, 295, 335, 336, 337, 338, 339, 340, 341, 342, 343, 344, 345, 292, 346, 347, 348, 349, 350, 351, 352, 353, 354, 355, 356, 564, 565, 566, 567, 568, 569, 570, 571, 605, 606, 607, 608, 609, 610, 611, 612, 293, 850, 851, 852, 853, 854, 855, 856, 857, 858, 859, 860, 861, 862, 863, 864, 865, 866, 867, 868, 869, 870, 871, 872, 873, 874, 875, 876, 877, 878] (by decide +kernel) (by decide +kernel)
set_option maxRecDepth 20000 in
theorem gL_law_X8_street : GoodIn wsL_law (wsV RL 124 RX8 yX8_street wsX8_street) := goodIn_app (goodIn_of _ (by decide +kernel)) ggL_law_X8_street
set_option maxRecDepth 20000 in
theorem ggL_law_X7_keep : GoodIn wsL_law wsX7_keep := goodIn_r _ [819, 41, 584, 28, 521, 522, 523, 39, 524, 96, 102, 525, 526, 527, 528, 529, 530, 531, 27, 532, 74, 241, 233, 234, 235, 75, 76, 77, 78, 840, 841, 842, 843, 844, 845, 846, 847, 848, 849, 906, 907, 895, 896, 897, 898, 899] (by decide +kernel) (by decide +kernel)
set_option maxRecDepth 20000 in
theorem gL_law_X7_keep : GoodIn wsL_law (wsV RL 125 RX7 yX7_keep wsX7_keep) := goodIn_app (goodIn_of _ (by decide +kernel)) ggL_law_X7_keep
set_option maxRecDepth 20000 in
theorem ggL_law_X8_keep : GoodIn wsL_law wsX8_keep := goodIn_r _ [823, 333, 297, 295, 335, 336, 5, 337, 850, 851, 852, 853, 854, 855, 856, 857, 858, 859, 860, 861, 862, 863, 864, 865, 866, 867, 868, 869, 870, 871, 872, 873, 874, 875, 876, 877, 878] (by decide +kernel) (by decide +kernel)
set_option maxRecDepth 20000 in
theorem gL_law_X8_keep : GoodIn wsL_law (wsV RL 128 RX8 yX8_keep wsX8_keep) := goodIn_app (goodIn_of _ (by decide +kernel)) ggL_law_X8_keep
set_option maxRecDepth 20000 in
theorem ggL_law_X7_back : GoodIn wsL_law wsX7_back := goodIn_r _ [827, 41, 584, 28, 40, 585, 586, 587, 39, 588, 96, 102, 529, 530, 531, 27, 532, 74, 241, 233, 234, 235, 75, 76, 77, 78, 280, 281, 282, 283, 840, 841, 842, 843, 844, 845, 846, 847, 848, 849, 906, 907, 895, 896, 897, 898, 899] (by decide +kernel) (by decide +kernel)
set_option maxRecDepth 20000 in
theorem gL_law_X7_back : GoodIn wsL_law (wsV RL 129 RX7 yX7_back wsX7_back) := goodIn_app (goodIn_of _ (by decide +kernel)) ggL_law_X7_back
set_option maxRecDepth 20000 in
theorem ggL_law_X8_back : GoodIn wsL_law wsX8_back := goodIn_r _ [831, 333, 295, 297, 332, 335, 336, 5, 337, 850, 851, 852, 853, 854, 855, 856, 857, 858, 859, 860, 861, 862, 863, 864, 865, 866, 867, 868, 869, 870, 871, 872, 873, 874, 875, 876, 877, 878] (by decide +kernel) (by decide +kernel)
set_option maxRecDepth 20000 in
theorem gL_law_X8_back : GoodIn wsL_law (wsV RL 132 RX8 yX8_back wsX8_back) := goodIn_app (goodIn_of _ (by decide +kernel)) ggL_law_X8_back
set_option maxRecDepth 20000 in
theorem ggL_law_X7_count : GoodIn wsL_law wsX7_count := goodIn_r _ [835, 24, 448, 225, 727, 28, 554, 504, 36, 690, 40, 584, 41, 15, 361, 840, 841, 842, 843, 844, 845, 846, 847, 848, 849, 881, 882, 883, 884, 885, 886, 887, 888, 889, 890, 895, 896, 897, 898, 899, 902, 903, 904, 905, 906, 907, 879, 880] (by decide +kernel) (by decide +kernel)
set_option maxRecDepth 20000 in
theorem gL_law_X7_count : GoodIn wsL_law (wsV RL 133 RX7 yX7_count wsX7_count) := goodIn_app (goodIn_of _ (by decide +kernel)) ggL_law_X7_count
set_option maxRecDepth 20000 in
theorem ggL_law_X8_count : GoodIn wsL_law wsX8_count := goodIn_r _ [839, 328, 329, 330, 295, 331, 334, 332, 333, 366, 850, 851, 852, 853, 854, 855, 856, 857, 858, 859, 860, 861, 862, 863, 864, 865, 866, 867, 868, 869, 870, 871, 872, 873, 874, 875, 876, 877, 878] (by decide +kernel) (by decide +kernel)
set_option maxRecDepth 20000 in
theorem gL_law_X8_count : GoodIn wsL_law (wsV RL 136 RX8 yX8_count wsX8_count) := goodIn_app (goodIn_of _ (by decide +kernel)) ggL_law_X8_count
