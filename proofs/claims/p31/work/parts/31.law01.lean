set_option maxRecDepth 20000 in
theorem ggL_law_X7_walk : GoodIn wsL_law wsX7_walk := goodIn_r _ [414, 46, 297, 19, 288, 349, 282, 115, 23, 301, 302, 303, 45, 304, 149, 415, 416, 417, 18, 418, 212, 217, 419, 420, 421, 422, 151, 423, 201, 202, 203, 150, 89, 90, 359, 360, 361, 22, 362, 363, 62, 364, 365, 366, 367, 368, 369, 370, 371, 213, 214, 215, 216, 218, 424, 425, 426, 427, 868, 869, 870, 871, 872, 873, 874, 875, 876, 877, 878, 879, 880, 881, 882, 912, 913, 914, 915, 916, 917, 918, 932, 933, 934, 935, 936, 937, 938, 939, 940, 941, 919, 920] (by decide +kernel) (by decide +kernel)
set_option maxRecDepth 20000 in
theorem gL_law_X7_walk : GoodIn wsL_law (wsV RL 44 RX7 yX7_walk wsX7_walk) := goodIn_app (goodIn_of _ (by decide +kernel)) ggL_law_X7_walk
set_option maxRecDepth 20000 in
theorem ggL_law_X8_walk : GoodIn wsL_law wsX8_walk := goodIn_r _ [431, 314, 98, 390, 123, 315, 316, 317, 5, 318, 96, 124, 125, 126, 391, 392, 393, 394, 432, 433, 434, 435, 319, 320, 321, 322, 323, 324, 325, 326, 399, 400, 401, 402, 225, 99, 436, 437, 438, 439, 883, 884, 885, 886, 887, 888, 889, 890, 891, 892, 893, 894, 895, 896, 897, 898, 899, 900, 901, 902, 903, 904, 905] (by decide +kernel) (by decide +kernel)
set_option maxRecDepth 20000 in
theorem gL_law_X8_walk : GoodIn wsL_law (wsV RL 47 RX8 yX8_walk wsX8_walk) := goodIn_app (goodIn_of _ (by decide +kernel)) ggL_law_X8_walk
set_option maxRecDepth 20000 in
theorem ggL_law_X7_war : GoodIn wsL_law wsX7_war := goodIn_r _ [443, 46, 297, 19, 287, 23, 333, 334, 335, 45, 336, 150, 359, 360, 361, 22, 362, 363, 62, 364, 365, 366, 367, 368, 369, 370, 18, 371, 212, 213, 214, 215, 216, 217, 218, 868, 869, 870, 871, 872, 873, 874, 875, 876, 877, 878, 879, 880, 881, 882, 912, 913, 914, 915, 916, 917, 918, 932, 933, 934, 935, 936, 937, 938, 939, 940, 941, 919, 920] (by decide +kernel) (by decide +kernel)
set_option maxRecDepth 20000 in
theorem gL_law_X7_war : GoodIn wsL_law (wsV RL 48 RX7 yX7_war wsX7_war) := goodIn_app (goodIn_of _ (by decide +kernel)) ggL_law_X7_war
set_option maxRecDepth 20000 in
theorem ggL_law_X8_war : GoodIn wsL_law wsX8_war := goodIn_r _ [447, 314, 98, 341, 342, 343, 5, 344, 96, 124, 125, 126, 399, 400, 401, 402, 225, 99, 883, 884, 885, 886, 887, 888, 889, 890, 891, 892, 893, 894, 895, 896, 897, 898, 899, 900, 901, 902, 903, 904, 905] (by decide +kernel) (by decide +kernel)
set_option maxRecDepth 20000 in
theorem gL_law_X8_war : GoodIn wsL_law (wsV RL 52 RX8 yX8_war wsX8_war) := goodIn_app (goodIn_of _ (by decide +kernel)) ggL_law_X8_war
set_option maxRecDepth 20000 in
theorem ggL_law_X7_home : GoodIn wsL_law wsX7_home := goodIn_r _ [451, 19, 282, 349, 23, 288, 285, 350, 351, 352, 2, 353, 46, 135, 359, 360, 361, 22, 362, 363, 62, 364, 365, 366, 367, 368, 369, 370, 18, 371, 212, 213, 214, 215, 216, 217, 218, 868, 869, 870, 871, 872, 873, 874, 875, 876, 877, 878, 879, 880, 881, 882, 912, 913, 914, 915, 916, 917, 918, 932, 933, 934, 935, 936, 937, 938, 939, 940, 941, 919, 920] (by decide +kernel) (by decide +kernel)
set_option maxRecDepth 20000 in
theorem gL_law_X7_home : GoodIn wsL_law (wsV RL 53 RX7 yX7_home wsX7_home) := goodIn_app (goodIn_of _ (by decide +kernel)) ggL_law_X7_home
set_option maxRecDepth 20000 in
theorem ggL_law_X8_home : GoodIn wsL_law wsX8_home := goodIn_r _ [455, 98, 390, 391, 392, 393, 5, 394, 96, 399, 400, 401, 402, 225, 99, 883, 884, 885, 886, 887, 888, 889, 890, 891, 892, 893, 894, 895, 896, 897, 898, 899, 900, 901, 902, 903, 904, 905] (by decide +kernel) (by decide +kernel)
set_option maxRecDepth 20000 in
theorem gL_law_X8_home : GoodIn wsL_law (wsV RL 56 RX8 yX8_home wsX8_home) := goodIn_app (goodIn_of _ (by decide +kernel)) ggL_law_X8_home
set_option maxRecDepth 20000 in
theorem ggL_law_X7_drift : GoodIn wsL_law wsX7_drift := goodIn_r _ [459, 113, 349, 19, 282, 115, 23, 285, 350, 351, 352, 2, 353, 46, 135, 288, 359, 360, 361, 22, 362, 363, 62, 364, 365, 366, 367, 368, 369, 370, 18, 371, 212, 213, 214, 215, 216, 217, 218, 460, 461, 462, 463, 281, 287, 464, 465, 466, 467, 468, 469, 470, 471, 472, 354, 355, 356, 357, 358, 372, 373, 374, 375, 376, 377, 378, 45, 379, 88, 380, 381, 382, 383, 87, 148, 384, 302, 303, 304, 149, 385, 415, 416, 417, 418, 419, 420, 421, 422, 151, 423, 201, 202, 203, 150, 89, 90, 424, 425, 426, 427, 868, 869, 870, 871, 872, 873, 874, 875, 876, 877, 878, 879, 880, 881, 882, 912, 913, 914, 915, 916, 917, 918, 932, 933, 934, 935, 936, 937, 938, 939, 940, 941, 919, 920] (by decide +kernel) (by decide +kernel)
set_option maxRecDepth 20000 in
theorem gL_law_X7_drift : GoodIn wsL_law (wsV RL 57 RX7 yX7_drift wsX7_drift) := goodIn_app (goodIn_of _ (by decide +kernel)) ggL_law_X7_drift
set_option maxRecDepth 20000 in
theorem ggL_law_X8_drift : GoodIn wsL_law wsX8_drift := goodIn_r _ [476, 121, 390, 98, 123, 124, 125, 5, 126, 391, 392, 393, 394, 96, 399, 400, 401, 402, 225, 99, 477, 478, 479, 480, 481, 482, 483, 484, 485, 486, 487, 488, 489, 395, 396, 397, 398, 432, 433, 434, 435, 319, 320, 321, 322, 323, 324, 325, 326, 490, 491, 492, 403, 404, 405, 406, 407, 408, 409, 410, 436, 437, 438, 439, 883, 884, 885, 886, 887, 888, 889, 890, 891, 892, 893, 894, 895, 896, 897, 898, 899, 900, 901, 902, 903, 904, 905] (by decide +kernel) (by decide +kernel)
set_option maxRecDepth 20000 in
theorem gL_law_X8_drift : GoodIn wsL_law (wsV RL 60 RX8 yX8_drift wsX8_drift) := goodIn_app (goodIn_of _ (by decide +kernel)) ggL_law_X8_drift
set_option maxRecDepth 20000 in
theorem ggL_law_X7_undo : GoodIn wsL_law wsX7_undo := goodIn_r _ [496, 23, 132, 349, 19, 497, 498, 499, 22, 500, 363, 62, 368, 369, 370, 18, 371, 212, 213, 214, 215, 216, 217, 218, 868, 869, 870, 871, 872, 873, 874, 875, 876, 877, 878, 879, 880, 881, 882, 919, 920, 912, 913, 914, 915, 916, 917, 918] (by decide +kernel) (by decide +kernel)
set_option maxRecDepth 20000 in
theorem gL_law_X7_undo : GoodIn wsL_law (wsV RL 61 RX7 yX7_undo wsX7_undo) := goodIn_app (goodIn_of _ (by decide +kernel)) ggL_law_X7_undo
set_option maxRecDepth 20000 in
theorem ggL_law_X8_undo : GoodIn wsL_law wsX8_undo := goodIn_r _ [504, 225, 390, 98, 99, 883, 884, 885, 886, 887, 888, 889, 890, 891, 892, 893, 894, 895, 896, 897, 898, 899, 900, 901, 902, 903, 904, 905] (by decide +kernel) (by decide +kernel)
set_option maxRecDepth 20000 in
theorem gL_law_X8_undo : GoodIn wsL_law (wsV RL 64 RX8 yX8_undo wsX8_undo) := goodIn_app (goodIn_of _ (by decide +kernel)) ggL_law_X8_undo
set_option maxRecDepth 20000 in
theorem ggL_law_X7_may : GoodIn wsL_law wsX7_may := goodIn_r _ [508, 113, 349, 19, 46, 350, 351, 352, 2, 353, 135, 288, 415, 416, 417, 18, 418, 212, 217, 419, 420, 421, 45, 422, 151, 423, 201, 202, 203, 150, 89, 90, 354, 355, 356, 357, 214, 358, 868, 869, 870, 871, 872, 873, 874, 875, 876, 877, 878, 879, 880, 881, 882, 932, 933, 934, 935, 936, 937, 938, 939, 940, 941, 912, 913, 914, 915, 916, 917, 918] (by decide +kernel) (by decide +kernel)
set_option maxRecDepth 20000 in
theorem gL_law_X7_may : GoodIn wsL_law (wsV RL 65 RX7 yX7_may wsX7_may) := goodIn_app (goodIn_of _ (by decide +kernel)) ggL_law_X7_may
set_option maxRecDepth 20000 in
theorem ggL_law_X8_may : GoodIn wsL_law wsX8_may := goodIn_r _ [512, 121, 390, 98, 124, 125, 5, 126, 391, 392, 393, 394, 96, 432, 433, 434, 435, 319, 320, 321, 322, 323, 324, 325, 326, 395, 396, 397, 398, 883, 884, 885, 886, 887, 888, 889, 890, 891, 892, 893, 894, 895, 896, 897, 898, 899, 900, 901, 902, 903, 904, 905] (by decide +kernel) (by decide +kernel)
set_option maxRecDepth 20000 in
theorem gL_law_X8_may : GoodIn wsL_law (wsV RL 68 RX8 yX8_may wsX8_may) := goodIn_app (goodIn_of _ (by decide +kernel)) ggL_law_X8_may
set_option maxRecDepth 20000 in
theorem ggL_law_X7_reach : GoodIn wsL_law wsX7_reach := goodIn_r _ [516, 46, 297, 19, 288, 349, 42, 287, 283, 135, 301, 302, 303, 45, 304, 149, 517, 518, 519, 520, 521, 420, 421, 422, 151, 423, 201, 202, 203, 150, 89, 90, 522, 523, 2, 524, 868, 869, 870, 871, 872, 873, 874, 875, 876, 877, 878, 879, 880, 881, 882, 912, 913, 914, 915, 916, 917, 918, 932, 933, 934, 935, 936, 937, 938, 939, 940, 941] (by decide +kernel) (by decide +kernel)
set_option maxRecDepth 20000 in
theorem gL_law_X7_reach : GoodIn wsL_law (wsV RL 69 RX7 yX7_reach wsX7_reach) := goodIn_app (goodIn_of _ (by decide +kernel)) ggL_law_X7_reach
set_option maxRecDepth 20000 in
theorem ggL_law_X8_reach : GoodIn wsL_law wsX8_reach := goodIn_r _ [528, 314, 390, 98, 96, 315, 316, 317, 5, 318, 124, 125, 126, 391, 392, 393, 394, 432, 433, 434, 435, 319, 320, 321, 322, 323, 324, 325, 326, 883, 884, 885, 886, 887, 888, 889, 890, 891, 892, 893, 894, 895, 896, 897, 898, 899, 900, 901, 902, 903, 904, 905] (by decide +kernel) (by decide +kernel)
set_option maxRecDepth 20000 in
theorem gL_law_X8_reach : GoodIn wsL_law (wsV RL 72 RX8 yX8_reach wsX8_reach) := goodIn_app (goodIn_of _ (by decide +kernel)) ggL_law_X8_reach
set_option maxRecDepth 20000 in
theorem ggL_law_X7_best : GoodIn wsL_law wsX7_best := goodIn_r _ [532, 113, 349, 46, 42, 19, 287, 27, 282, 283, 284, 350, 351, 352, 2, 353, 135, 288, 517, 518, 519, 45, 520, 149, 521, 420, 421, 422, 151, 423, 201, 202, 203, 150, 89, 90, 533, 534, 535, 26, 536, 66, 537, 538, 539, 540, 541, 542, 543, 544, 545, 546, 547, 548, 549, 550, 551, 377, 378, 379, 88, 380, 381, 382, 383, 87, 148, 384, 302, 303, 304, 552, 553, 554, 555, 556, 557, 558, 559, 560, 561, 562, 563, 523, 524, 564, 565, 566, 567, 868, 869, 870, 871, 872, 873, 874, 875, 876, 877, 878, 879, 880, 881, 882, 912, 913, 914, 915, 916, 917, 918, 932, 933, 934, 935, 936, 937, 938, 939, 940, 941, 921, 922, 923] (by decide +kernel) (by decide +kernel)
set_option maxRecDepth 20000 in
theorem gL_law_X7_best : GoodIn wsL_law (wsV RL 73 RX7 yX7_best wsX7_best) := goodIn_app (goodIn_of _ (by decide +kernel)) ggL_law_X7_best
set_option maxRecDepth 20000 in
theorem ggL_law_X8_best : GoodIn wsL_law wsX8_best := goodIn_r _ [571, 121, 390, 98, 96, 124, 125, 5, 126, 391, 392, 393, 394, 572, 573, 574, 575, 105, 432, 433, 434, 435, 319, 320, 321, 322, 323, 324, 325, 326, 576, 577, 578, 579, 580, 581, 582, 583, 407, 408, 409, 410, 883, 884, 885, 886, 887, 888, 889, 890, 891, 892, 893, 894, 895, 896, 897, 898, 899, 900, 901, 902, 903, 904, 905] (by decide +kernel) (by decide +kernel)
set_option maxRecDepth 20000 in
theorem gL_law_X8_best : GoodIn wsL_law (wsV RL 76 RX8 yX8_best wsX8_best) := goodIn_app (goodIn_of _ (by decide +kernel)) ggL_law_X8_best
