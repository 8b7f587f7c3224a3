set_option maxRecDepth 20000 in
theorem ggL_law_X7_seals : GoodIn wsL_law wsX7_seals := goodIn_r _ [587, 46, 297, 349, 42, 19, 287, 31, 588, 589, 590, 45, 591, 149, 350, 351, 352, 2, 353, 135, 288, 517, 518, 519, 520, 521, 420, 421, 422, 151, 423, 201, 202, 203, 150, 89, 90, 592, 593, 594, 30, 595, 73, 596, 597, 598, 599, 600, 601, 602, 603, 604, 605, 606, 607, 608, 609, 610, 611, 612, 613, 614, 615, 74, 616, 381, 382, 383, 87, 148, 384, 302, 303, 304, 617, 618, 619, 620, 621, 622, 623, 624, 625, 626, 627, 628, 629, 868, 869, 870, 871, 872, 873, 874, 875, 876, 877, 878, 879, 880, 881, 882, 912, 913, 914, 915, 916, 917, 918, 932, 933, 934, 935, 936, 937, 938, 939, 940, 941, 924, 925] (by decide +kernel) (by decide +kernel)
set_option maxRecDepth 20000 in
theorem gL_law_X7_seals : GoodIn wsL_law (wsV RL 77 RX7 yX7_seals wsX7_seals) := goodIn_app (goodIn_of _ (by decide +kernel)) ggL_law_X7_seals
set_option maxRecDepth 20000 in
theorem ggL_law_X8_seals : GoodIn wsL_law wsX8_seals := goodIn_r _ [633, 96, 314, 390, 106, 98, 124, 125, 5, 126, 391, 392, 393, 394, 634, 635, 636, 637, 638, 639, 640, 107, 641, 407, 408, 409, 410, 642, 643, 644, 645, 432, 433, 434, 435, 319, 320, 321, 322, 323, 324, 325, 326, 646, 647, 648, 649, 650, 651, 883, 884, 885, 886, 887, 888, 889, 890, 891, 892, 893, 894, 895, 896, 897, 898, 899, 900, 901, 902, 903, 904, 905] (by decide +kernel) (by decide +kernel)
set_option maxRecDepth 20000 in
theorem gL_law_X8_seals : GoodIn wsL_law (wsV RL 80 RX8 yX8_seals wsX8_seals) := goodIn_app (goodIn_of _ (by decide +kernel)) ggL_law_X8_seals
set_option maxRecDepth 20000 in
theorem ggL_law_X7_two : GoodIn wsL_law wsX7_two := goodIn_r _ [655, 46, 297, 19, 288, 349, 42, 287, 27, 301, 302, 303, 45, 304, 149, 517, 518, 519, 520, 521, 420, 421, 422, 151, 423, 201, 202, 203, 150, 89, 90, 656, 657, 658, 26, 659, 67, 558, 557, 68, 546, 660, 661, 662, 663, 664, 665, 523, 2, 524, 868, 869, 870, 871, 872, 873, 874, 875, 876, 877, 878, 879, 880, 881, 882, 912, 913, 914, 915, 916, 917, 918, 932, 933, 934, 935, 936, 937, 938, 939, 940, 941, 921, 922, 923] (by decide +kernel) (by decide +kernel)
set_option maxRecDepth 20000 in
theorem gL_law_X7_two : GoodIn wsL_law (wsV RL 81 RX7 yX7_two wsX7_two) := goodIn_app (goodIn_of _ (by decide +kernel)) ggL_law_X7_two
set_option maxRecDepth 20000 in
theorem ggL_law_X8_two : GoodIn wsL_law wsX8_two := goodIn_r _ [669, 314, 390, 98, 315, 316, 317, 5, 318, 96, 124, 125, 126, 391, 392, 393, 394, 634, 635, 636, 649, 650, 651, 641, 642, 643, 644, 645, 432, 433, 434, 435, 319, 320, 321, 322, 323, 324, 325, 326, 646, 647, 648, 883, 884, 885, 886, 887, 888, 889, 890, 891, 892, 893, 894, 895, 896, 897, 898, 899, 900, 901, 902, 903, 904, 905] (by decide +kernel) (by decide +kernel)
set_option maxRecDepth 20000 in
theorem gL_law_X8_two : GoodIn wsL_law (wsV RL 84 RX8 yX8_two wsX8_two) := goodIn_app (goodIn_of _ (by decide +kernel)) ggL_law_X8_two
set_option maxRecDepth 20000 in
theorem ggL_law_X7_idle : GoodIn wsL_law wsX7_idle := goodIn_r _ [673, 46, 135, 299, 306, 307, 308, 45, 309, 151, 868, 869, 870, 871, 872, 873, 874, 875, 876, 877, 878, 879, 880, 881, 882, 932, 933, 934, 935, 936, 937, 938, 939, 940, 941] (by decide +kernel) (by decide +kernel)
set_option maxRecDepth 20000 in
theorem gL_law_X7_idle : GoodIn wsL_law (wsV RL 85 RX7 yX7_idle wsX7_idle) := goodIn_app (goodIn_of _ (by decide +kernel)) ggL_law_X7_idle
set_option maxRecDepth 20000 in
theorem ggL_law_X8_idle : GoodIn wsL_law wsX8_idle := goodIn_r _ [677, 96, 323, 324, 325, 5, 326, 883, 884, 885, 886, 887, 888, 889, 890, 891, 892, 893, 894, 895, 896, 897, 898, 899, 900, 901, 902, 903, 904, 905] (by decide +kernel) (by decide +kernel)
set_option maxRecDepth 20000 in
theorem gL_law_X8_idle : GoodIn wsL_law (wsV RL 88 RX8 yX8_idle wsX8_idle) := goodIn_app (goodIn_of _ (by decide +kernel)) ggL_law_X8_idle
set_option maxRecDepth 20000 in
theorem ggL_law_X7_stranded : GoodIn wsL_law wsX7_stranded := goodIn_r _ [681, 46, 42, 19, 287, 135, 517, 518, 519, 45, 520, 149, 521, 420, 421, 422, 151, 423, 201, 202, 203, 150, 89, 90, 868, 869, 870, 871, 872, 873, 874, 875, 876, 877, 878, 879, 880, 881, 882, 912, 913, 914, 915, 916, 917, 918, 932, 933, 934, 935, 936, 937, 938, 939, 940, 941] (by decide +kernel) (by decide +kernel)
set_option maxRecDepth 20000 in
theorem gL_law_X7_stranded : GoodIn wsL_law (wsV RL 89 RX7 yX7_stranded wsX7_stranded) := goodIn_app (goodIn_of _ (by decide +kernel)) ggL_law_X7_stranded
set_option maxRecDepth 20000 in
theorem ggL_law_X8_stranded : GoodIn wsL_law wsX8_stranded := goodIn_r _ [685, 96, 98, 432, 433, 434, 5, 435, 319, 320, 321, 322, 323, 324, 325, 326, 883, 884, 885, 886, 887, 888, 889, 890, 891, 892, 893, 894, 895, 896, 897, 898, 899, 900, 901, 902, 903, 904, 905] (by decide +kernel) (by decide +kernel)
set_option maxRecDepth 20000 in
theorem gL_law_X8_stranded : GoodIn wsL_law (wsV RL 92 RX8 yX8_stranded wsX8_stranded) := goodIn_app (goodIn_of _ (by decide +kernel)) ggL_law_X8_stranded
set_option maxRecDepth 20000 in
theorem ggL_law_X7_snow : GoodIn wsL_law wsX7_snow := goodIn_r _ [689, 113, 690, 691] (by decide +kernel) (by decide +kernel)
set_option maxRecDepth 20000 in
theorem gL_law_X7_snow : GoodIn wsL_law (wsV RL 93 RX7 yX7_snow wsX7_snow) := goodIn_app (goodIn_of _ (by decide +kernel)) ggL_law_X7_snow
set_option maxRecDepth 20000 in
theorem ggL_law_X8_snow : GoodIn wsL_law wsX8_snow := goodIn_r _ [695, 121, 696, 697, 124, 125, 5, 126] (by decide +kernel) (by decide +kernel)
set_option maxRecDepth 20000 in
theorem gL_law_X8_snow : GoodIn wsL_law (wsV RL 96 RX8 yX8_snow wsX8_snow) := goodIn_app (goodIn_of _ (by decide +kernel)) ggL_law_X8_snow
set_option maxRecDepth 20000 in
theorem ggL_law_X7_seal : GoodIn wsL_law wsX7_seal := goodIn_r _ [701, 46, 297, 113, 35, 133, 115, 301, 302, 303, 45, 304, 149, 702, 703, 704, 34, 705, 706, 78, 79, 868, 869, 870, 871, 872, 873, 874, 875, 876, 877, 878, 879, 880, 881, 882, 926, 927, 928, 929, 930, 931, 932, 933, 934, 935, 936, 937, 938, 939, 940, 941] (by decide +kernel) (by decide +kernel)
set_option maxRecDepth 20000 in
theorem gL_law_X7_seal : GoodIn wsL_law (wsV RL 97 RX7 yX7_seal wsX7_seal) := goodIn_app (goodIn_of _ (by decide +kernel)) ggL_law_X7_seal
set_option maxRecDepth 20000 in
theorem ggL_law_X8_seal : GoodIn wsL_law wsX8_seal := goodIn_r _ [710, 314, 121, 226, 123, 102, 315, 316, 317, 5, 318, 96, 124, 125, 126, 883, 884, 885, 886, 887, 888, 889, 890, 891, 892, 893, 894, 895, 896, 897, 898, 899, 900, 901, 902, 903, 904, 905] (by decide +kernel) (by decide +kernel)
set_option maxRecDepth 20000 in
theorem gL_law_X8_seal : GoodIn wsL_law (wsV RL 100 RX8 yX8_seal wsX8_seal) := goodIn_app (goodIn_of _ (by decide +kernel)) ggL_law_X8_seal
set_option maxRecDepth 20000 in
theorem ggL_law_X7_fits : GoodIn wsL_law wsX7_fits := goodIn_r _ [714, 35, 46, 715, 716, 717, 34, 718, 81, 719, 720, 721, 722, 80, 723, 724, 725, 518, 519, 45, 520, 149, 521, 420, 421, 422, 151, 423, 201, 202, 203, 150, 89, 90, 726, 727, 728, 729, 706, 79, 78, 730, 381, 382, 383, 87, 148, 384, 302, 303, 304, 731, 732, 733, 734, 735, 736, 737, 523, 2, 524, 868, 869, 870, 871, 872, 873, 874, 875, 876, 877, 878, 879, 880, 881, 882, 926, 927, 928, 929, 930, 931, 932, 933, 934, 935, 936, 937, 938, 939, 940, 941] (by decide +kernel) (by decide +kernel)
set_option maxRecDepth 20000 in
theorem gL_law_X7_fits : GoodIn wsL_law (wsV RL 101 RX7 yX7_fits wsX7_fits) := goodIn_app (goodIn_of _ (by decide +kernel)) ggL_law_X7_fits
set_option maxRecDepth 20000 in
theorem ggL_law_X8_fits : GoodIn wsL_law wsX8_fits := goodIn_r _ [741, 742, 743, 744, 5, 745, 108, 96, 634, 635, 636, 746, 747, 748, 749, 226, 102, 407, 408, 409, 410, 642, 643, 644, 645, 432, 433, 434, 435, 319, 320, 321, 322, 323, 324, 325, 326, 646, 647, 648, 883, 884, 885, 886, 887, 888, 889, 890, 891, 892, 893, 894, 895, 896, 897, 898, 899, 900, 901, 902, 903, 904, 905] (by decide +kernel) (by decide +kernel)
set_option maxRecDepth 20000 in
theorem gL_law_X8_fits : GoodIn wsL_law (wsV RL 104 RX8 yX8_fits wsX8_fits) := goodIn_app (goodIn_of _ (by decide +kernel)) ggL_law_X8_fits
set_option maxRecDepth 20000 in
theorem ggL_law_X7_bought : GoodIn wsL_law wsX7_bought := goodIn_r _ [753, 35, 46, 754, 755, 756, 34, 757, 706, 758, 716, 717, 718, 81, 719, 720, 721, 722, 80, 723, 724, 725, 518, 519, 45, 520, 149, 521, 420, 421, 422, 151, 423, 201, 202, 203, 150, 89, 90, 726, 727, 728, 729, 79, 78, 730, 381, 382, 383, 87, 148, 384, 302, 303, 304, 731, 732, 733, 734, 735, 736, 737, 523, 2, 524, 868, 869, 870, 871, 872, 873, 874, 875, 876, 877, 878, 879, 880, 881, 882, 926, 927, 928, 929, 930, 931, 932, 933, 934, 935, 936, 937, 938, 939, 940, 941] (by decide +kernel) (by decide +kernel)
set_option maxRecDepth 20000 in
theorem gL_law_X7_bought : GoodIn wsL_law (wsV RL 105 RX7 yX7_bought wsX7_bought) := goodIn_app (goodIn_of _ (by decide +kernel)) ggL_law_X7_bought
set_option maxRecDepth 20000 in
theorem ggL_law_X8_bought : GoodIn wsL_law wsX8_bought := goodIn_r _ [762, 226, 742, 743, 744, 5, 745, 108, 96, 634, 635, 636, 746, 747, 748, 749, 102, 407, 408, 409, 410, 642, 643, 644, 645, 432, 433, 434, 435, 319, 320, 321, 322, 323, 324, 325, 326, 646, 647, 648, 883, 884, 885, 886, 887, 888, 889, 890, 891, 892, 893, 894, 895, 896, 897, 898, 899, 900, 901, 902, 903, 904, 905] (by decide +kernel) (by decide +kernel)
set_option maxRecDepth 20000 in
theorem gL_law_X8_bought : GoodIn wsL_law (wsV RL 108 RX8 yX8_bought wsX8_bought) := goodIn_app (goodIn_of _ (by decide +kernel)) ggL_law_X8_bought
