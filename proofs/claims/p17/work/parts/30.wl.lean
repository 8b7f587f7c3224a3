set_option maxRecDepth 20000 in
theorem wl_wsL_law_r1 : GoodIn lw_tbl wsL_law_r1 := goodIn_r _ [69, 70, 58, 741, 742, 66, 71, 72, 73, 74, 75, 76, 77, 78, 59, 281, 107, 108, 60, 282, 149, 150, 61, 283] (by decide +kernel) (by decide +kernel)
set_option maxRecDepth 20000 in
theorem wl_wsL_law_r2 : GoodIn lw_tbl wsL_law_r2 := goodIn_r _ [166, 167, 62, 284, 183, 184, 63, 285, 197, 198, 64, 286, 287, 182, 288, 280, 289, 290, 291, 223, 224, 65, 292, 293] (by decide +kernel) (by decide +kernel)
set_option maxRecDepth 20000 in
theorem wl_wsL_law_r3 : GoodIn lw_tbl wsL_law_r3 := goodIn_r _ [80, 81, 82, 106, 83, 89, 110, 111, 112, 151, 152, 153, 154, 155, 158, 169, 170, 171, 172, 173, 174, 186, 187, 188] (by decide +kernel) (by decide +kernel)
set_option maxRecDepth 20000 in
theorem wl_wsL_law_r4 : GoodIn lw_tbl wsL_law_r4 := goodIn_r _ [196, 189, 190, 200, 201, 202, 205, 206, 207, 208, 209, 226, 227, 228, 249, 251, 253, 255, 257, 743, 744, 745, 746, 747] (by decide +kernel) (by decide +kernel)
set_option maxRecDepth 20000 in
theorem wl_wsL_law_r5 : GoodIn lw_tbl wsL_law_r5 := goodIn_r _ [749, 750, 751, 752, 754, 755, 757, 759, 763, 766, 767, 768, 769, 327, 328, 329, 330, 331, 85, 332, 84, 817, 818, 819] (by decide +kernel) (by decide +kernel)
set_option maxRecDepth 20000 in
theorem wl_wsL_law_r6 : GoodIn lw_tbl wsL_law_r6 := goodIn_r _ [820, 824, 748, 825, 821, 822, 823, 333, 334, 335, 336, 88, 160, 204, 294, 241, 337, 338, 339, 340, 91, 87, 86, 341] (by decide +kernel) (by decide +kernel)
set_option maxRecDepth 20000 in
theorem wl_wsL_law_r7 : GoodIn lw_tbl wsL_law_r7 := goodIn_r _ [342, 343, 344, 229, 236, 239, 245, 248, 345, 347, 0, 348, 349, 351, 1, 352, 353, 355, 2, 356, 231, 242, 246, 357] (by decide +kernel) (by decide +kernel)
set_option maxRecDepth 20000 in
theorem wl_wsL_law_r8 : GoodIn lw_tbl wsL_law_r8 := goodIn_r _ [359, 3, 360, 361, 363, 4, 364, 237, 365, 367, 5, 368, 92, 369, 370, 371, 372, 374, 6, 375, 376, 378, 7, 379] (by decide +kernel) (by decide +kernel)
set_option maxRecDepth 20000 in
theorem wl_wsL_law_r9 : GoodIn lw_tbl wsL_law_r9 := goodIn_r _ [380, 381, 382, 383, 384, 386, 8, 387, 388, 389, 390, 391, 392, 393, 394, 395, 396, 397, 398, 399, 113, 117, 121, 125] (by decide +kernel) (by decide +kernel)
set_option maxRecDepth 20000 in
theorem wl_wsL_law_r10 : GoodIn lw_tbl wsL_law_r10 := goodIn_r _ [128, 130, 132, 826, 827, 828, 829, 761, 762, 753, 758, 760, 830, 832, 26, 833, 834, 836, 27, 837, 838, 840, 28, 841] (by decide +kernel) (by decide +kernel)
set_option maxRecDepth 20000 in
theorem wl_wsL_law_r11 : GoodIn lw_tbl wsL_law_r11 := goodIn_r _ [842, 844, 29, 845, 846, 848, 30, 849, 764, 850, 852, 31, 853, 765, 854, 856, 32, 857, 858, 860, 33, 861, 862, 864] (by decide +kernel) (by decide +kernel)
set_option maxRecDepth 20000 in
theorem wl_wsL_law_r12 : GoodIn lw_tbl wsL_law_r12 := goodIn_r _ [34, 865, 400, 401, 402, 403, 90, 866, 867, 868, 869, 404, 405, 406, 407, 234, 238, 247, 120, 116, 124, 126, 129, 131] (by decide +kernel) (by decide +kernel)
set_option maxRecDepth 20000 in
theorem wl_wsL_law_r13 : GoodIn lw_tbl wsL_law_r13 := goodIn_r _ [133, 870, 871, 872, 873, 408, 409, 410, 411, 416, 250, 252, 254, 412, 413, 414, 415, 417, 418, 419, 420, 421, 874, 875] (by decide +kernel) (by decide +kernel)
set_option maxRecDepth 20000 in
theorem wl_wsL_law_r14 : GoodIn lw_tbl wsL_law_r14 := goodIn_r _ [876, 877, 882, 878, 880, 35, 881, 883, 885, 36, 886, 887, 889, 37, 890, 422, 423, 424, 425, 256, 258, 426, 427, 428] (by decide +kernel) (by decide +kernel)
set_option maxRecDepth 20000 in
theorem wl_wsL_law_r15 : GoodIn lw_tbl wsL_law_r15 := goodIn_r _ [429, 891, 892, 893, 894, 895, 897, 38, 898, 430, 431, 432, 433, 442, 434, 436, 9, 437, 438, 439, 440, 441, 232, 443] (by decide +kernel) (by decide +kernel)
set_option maxRecDepth 20000 in
theorem wl_wsL_law_r16 : GoodIn lw_tbl wsL_law_r16 := goodIn_r _ [444, 445, 446, 159, 447, 449, 10, 450, 451, 452, 453, 454, 455, 456, 457, 458, 459, 460, 461, 462, 463, 464, 465, 466] (by decide +kernel) (by decide +kernel)
set_option maxRecDepth 20000 in
theorem wl_wsL_law_r17 : GoodIn lw_tbl wsL_law_r17 := goodIn_r _ [467, 468, 899, 900, 901, 902, 911, 903, 905, 39, 906, 907, 909, 40, 910, 912, 914, 41, 915, 916, 918, 42, 919, 920] (by decide +kernel) (by decide +kernel)
set_option maxRecDepth 20000 in
theorem wl_wsL_law_r18 : GoodIn lw_tbl wsL_law_r18 := goodIn_r _ [922, 43, 923, 469, 470, 471, 472, 473, 474, 475, 476, 477, 478, 479, 480, 481, 482, 483, 484, 485, 924, 925, 926, 927] (by decide +kernel) (by decide +kernel)
set_option maxRecDepth 20000 in
theorem wl_wsL_law_r19 : GoodIn lw_tbl wsL_law_r19 := goodIn_r _ [928, 930, 44, 931, 932, 934, 45, 935, 486, 487, 488, 489, 936, 937, 938, 939, 490, 491, 492, 493, 940, 941, 942, 943] (by decide +kernel) (by decide +kernel)
set_option maxRecDepth 20000 in
theorem wl_wsL_law_r20 : GoodIn lw_tbl wsL_law_r20 := goodIn_r _ [494, 495, 496, 497, 498, 500, 11, 501, 502, 504, 12, 505, 295, 506, 507, 508, 509, 944, 945, 946, 947, 948, 950, 46] (by decide +kernel) (by decide +kernel)
set_option maxRecDepth 20000 in
theorem wl_wsL_law_r21 : GoodIn lw_tbl wsL_law_r21 := goodIn_r _ [951, 952, 954, 47, 955, 756, 956, 957, 958, 959, 960, 961, 962, 510, 511, 512, 513, 514, 515, 516, 517, 963, 964, 965] (by decide +kernel) (by decide +kernel)
set_option maxRecDepth 20000 in
theorem wl_wsL_law_r22 : GoodIn lw_tbl wsL_law_r22 := goodIn_r _ [966, 518, 519, 520, 521, 967, 968, 969, 970, 522, 523, 524, 525, 526, 527, 528, 529, 530, 531, 532, 533, 971, 972, 973] (by decide +kernel) (by decide +kernel)
set_option maxRecDepth 20000 in
theorem wl_wsL_law_r23 : GoodIn lw_tbl wsL_law_r23 := goodIn_r _ [974, 534, 535, 536, 537, 538, 539, 540, 541, 240, 542, 544, 13, 545, 550, 551, 67, 552, 230, 546, 547, 548, 549, 553] (by decide +kernel) (by decide +kernel)
set_option maxRecDepth 20000 in
theorem wl_wsL_law_r24 : GoodIn lw_tbl wsL_law_r24 := goodIn_r _ [554, 555, 556, 557, 558, 115, 123, 119, 559, 561, 14, 562, 564, 566, 15, 567, 975, 976, 977, 978, 979, 981, 48, 982] (by decide +kernel) (by decide +kernel)
set_option maxRecDepth 20000 in
theorem wl_wsL_law_r25 : GoodIn lw_tbl wsL_law_r25 := goodIn_r _ [983, 985, 49, 986, 987, 989, 50, 990, 568, 569, 570, 571, 572, 573, 574, 575, 576, 577, 578, 579, 127, 114, 122, 118] (by decide +kernel) (by decide +kernel)
set_option maxRecDepth 20000 in
theorem wl_wsL_law_r26 : GoodIn lw_tbl wsL_law_r26 := goodIn_r _ [580, 581, 582, 583, 584, 585, 586, 588, 16, 589, 243, 233, 590, 592, 17, 593, 594, 595, 597, 18, 598, 599, 601, 19] (by decide +kernel) (by decide +kernel)
set_option maxRecDepth 20000 in
theorem wl_wsL_law_r27 : GoodIn lw_tbl wsL_law_r27 := goodIn_r _ [602, 603, 605, 20, 606, 607, 991, 992, 993, 994, 995, 996, 997, 998, 1000, 51, 1001, 1002, 1003, 1005, 52, 1006, 1007, 1008] (by decide +kernel) (by decide +kernel)
set_option maxRecDepth 20000 in
theorem wl_wsL_law_r28 : GoodIn lw_tbl wsL_law_r28 := goodIn_r _ [1009, 1010, 1011, 1012, 609, 610, 611, 612, 613, 614, 615, 616, 617, 618, 619, 620, 621, 622, 1013, 1014, 1015, 1016, 623, 624] (by decide +kernel) (by decide +kernel)
set_option maxRecDepth 20000 in
theorem wl_wsL_law_r29 : GoodIn lw_tbl wsL_law_r29 := goodIn_r _ [625, 626, 1017, 1018, 1019, 1020, 627, 628, 629, 630, 1021, 1022, 1023, 1024, 631, 632, 633, 634, 635, 636, 1025, 1026, 1027, 1028] (by decide +kernel) (by decide +kernel)
set_option maxRecDepth 20000 in
theorem wl_wsL_law_r30 : GoodIn lw_tbl wsL_law_r30 := goodIn_r _ [1029, 1030, 637, 638, 639, 640, 641, 642, 643, 644, 203, 1031, 1032, 1033, 1034, 645, 646, 647, 648, 649, 650, 651, 652, 653] (by decide +kernel) (by decide +kernel)
set_option maxRecDepth 20000 in
theorem wl_wsL_law_r31 : GoodIn lw_tbl wsL_law_r31 := goodIn_r _ [655, 21, 656, 244, 235, 657, 658, 660, 22, 661, 662, 663, 665, 23, 666, 667, 668, 669, 1035, 1036, 1037, 1038, 1039, 1041] (by decide +kernel) (by decide +kernel)
set_option maxRecDepth 20000 in
theorem wl_wsL_law_r32 : GoodIn lw_tbl wsL_law_r32 := goodIn_r _ [53, 1042, 1043, 1045, 54, 1046, 671, 672, 673, 674, 675, 676, 677, 678, 679, 1047, 1048, 1049, 1050, 680, 681, 682, 683, 684] (by decide +kernel) (by decide +kernel)
set_option maxRecDepth 20000 in
theorem wl_wsL_law_r33 : GoodIn lw_tbl wsL_law_r33 := goodIn_r _ [685, 686, 687, 688, 690, 24, 691, 692, 693, 695, 25, 696, 697, 698, 699, 700, 1051, 1052, 1053, 1054, 1055, 1057, 55, 1058] (by decide +kernel) (by decide +kernel)
set_option maxRecDepth 20000 in
theorem wl_wsL_law_r34 : GoodIn lw_tbl wsL_law_r34 := goodIn_r _ [1059, 1061, 56, 1062, 701, 702, 703, 704, 705, 706, 707, 708, 709, 710, 711, 68, 712, 713, 714, 715, 1063, 1064, 1065, 1066] (by decide +kernel) (by decide +kernel)
set_option maxRecDepth 20000 in
theorem wl_wsL_law_r35 : GoodIn lw_tbl wsL_law_r35 := goodIn_r _ [1067, 1068, 1069, 716, 717, 718, 719, 1070, 1071, 1072, 1073, 720, 721, 722, 723, 1074, 1075, 1076, 1077, 724, 725, 726, 727, 1078] (by decide +kernel) (by decide +kernel)
set_option maxRecDepth 20000 in
theorem wl_wsL_law_r36 : GoodIn lw_tbl wsL_law_r36 := goodIn_r _ [1079, 1080, 1081, 728, 729, 730, 731, 1082, 1083, 1084, 1085, 732, 733, 734, 735, 736, 1086, 1087, 1088, 1089, 737, 738, 739, 740] (by decide +kernel) (by decide +kernel)
set_option maxRecDepth 20000 in
theorem wl_wsL_law_r37 : GoodIn lw_tbl wsL_law_r37 := goodIn_r _ [1090, 1091, 1092, 1093] (by decide +kernel) (by decide +kernel)
set_option maxRecDepth 20000 in
theorem wl_wsX00 : GoodIn lw_tbl wsX00 := goodIn_r _ [259, 261, 263, 265, 267, 269, 271, 273, 275, 277] (by decide +kernel) (by decide +kernel)
set_option maxRecDepth 20000 in
theorem wl_wsX10 : GoodIn lw_tbl wsX10 := goodIn_r _ [134, 136, 138, 140, 142, 144, 146] (by decide +kernel) (by decide +kernel)
set_option maxRecDepth 20000 in
theorem wl_wsX20 : GoodIn lw_tbl wsX20 := goodIn_r _ [161, 163] (by decide +kernel) (by decide +kernel)
set_option maxRecDepth 20000 in
theorem wl_wsX30 : GoodIn lw_tbl wsX30 := goodIn_r _ [175, 177, 179] (by decide +kernel) (by decide +kernel)
set_option maxRecDepth 20000 in
theorem wl_wsX40 : GoodIn lw_tbl wsX40 := goodIn_r _ [191, 193] (by decide +kernel) (by decide +kernel)
set_option maxRecDepth 20000 in
theorem wl_wsX50 : GoodIn lw_tbl wsX50 := goodIn_r _ [93, 95, 97, 99, 101, 103] (by decide +kernel) (by decide +kernel)
set_option maxRecDepth 20000 in
theorem wl_wsX60 : GoodIn lw_tbl wsX60 := goodIn_r _ [210, 212, 214, 216, 218, 220] (by decide +kernel) (by decide +kernel)
set_option maxRecDepth 20000 in
theorem wl_wsX70 : GoodIn lw_tbl wsX70 := goodIn_r _ [296, 298, 300, 302, 304, 306, 308, 310, 312, 314, 316, 318, 320, 322, 324] (by decide +kernel) (by decide +kernel)
set_option maxRecDepth 20000 in
theorem wl_wsX80 : GoodIn lw_tbl wsX80 := goodIn_r _ [770, 772, 774, 776, 778, 780, 782, 784, 786, 788, 790, 792, 794, 796, 798, 800, 802, 804, 806, 808, 810, 812, 814] (by decide +kernel) (by decide +kernel)
theorem wl_nil : GoodIn lw_tbl ([] : List Cond) := fun w h => by cases h
theorem wsL_law_good : GoodIn lw_tbl wsL_law := (goodIn_app (goodIn_app (goodIn_app (goodIn_app (goodIn_app (goodIn_app (goodIn_app (goodIn_app (goodIn_app (goodIn_app (goodIn_app wl_wsL_law_r1 (goodIn_app wl_wsL_law_r2 (goodIn_app wl_wsL_law_r3 (goodIn_app wl_wsL_law_r4 (goodIn_app wl_wsL_law_r5 (goodIn_app wl_wsL_law_r6 (goodIn_app wl_wsL_law_r7 (goodIn_app wl_wsL_law_r8 (goodIn_app wl_wsL_law_r9 (goodIn_app wl_wsL_law_r10 (goodIn_app wl_wsL_law_r11 (goodIn_app wl_wsL_law_r12 (goodIn_app wl_wsL_law_r13 (goodIn_app wl_wsL_law_r14 (goodIn_app wl_wsL_law_r15 (goodIn_app wl_wsL_law_r16 (goodIn_app wl_wsL_law_r17 (goodIn_app wl_wsL_law_r18 (goodIn_app wl_wsL_law_r19 (goodIn_app wl_wsL_law_r20 (goodIn_app wl_wsL_law_r21 (goodIn_app wl_wsL_law_r22 (goodIn_app wl_wsL_law_r23 (goodIn_app wl_wsL_law_r24 (goodIn_app wl_wsL_law_r25 (goodIn_app wl_wsL_law_r26 (goodIn_app wl_wsL_law_r27 (goodIn_app wl_wsL_law_r28 (goodIn_app wl_wsL_law_r29 (goodIn_app wl_wsL_law_r30 (goodIn_app wl_wsL_law_r31 (goodIn_app wl_wsL_law_r32 (goodIn_app wl_wsL_law_r33 (goodIn_app wl_wsL_law_r34 (goodIn_app wl_wsL_law_r35 (goodIn_app wl_wsL_law_r36 wl_wsL_law_r37)))))))))))))))))))))))))))))))))))) wl_wsX70) wl_wsX80) wl_wsX50) wl_wsX10) wl_wsX20) wl_wsX30) wl_wsX40) wl_wsX60) wl_wsX00) wl_nil)
theorem wsL_law_in : ∀ w ∈ wsL_law, w ∈ lw_tbl := fun w h => (wsL_law_good w h).1
theorem inlX0 : ∀ w ∈ wsX00, w ∈ wsL_law := fun _ h => List.mem_append_left _ (List.mem_append_right _ h)
theorem inX0 : ∀ w ∈ wsX00, w ∈ lw_tbl := fun w h => wsL_law_in w (inlX0 w h)
theorem inlX1 : ∀ w ∈ wsX10, w ∈ wsL_law := fun _ h => List.mem_append_left _ (List.mem_append_left _ (List.mem_append_left _ (List.mem_append_left _ (List.mem_append_left _ (List.mem_append_left _ (List.mem_append_right _ h))))))
theorem inX1 : ∀ w ∈ wsX10, w ∈ lw_tbl := fun w h => wsL_law_in w (inlX1 w h)
theorem inlX2 : ∀ w ∈ wsX20, w ∈ wsL_law := fun _ h => List.mem_append_left _ (List.mem_append_left _ (List.mem_append_left _ (List.mem_append_left _ (List.mem_append_left _ (List.mem_append_right _ h)))))
theorem inX2 : ∀ w ∈ wsX20, w ∈ lw_tbl := fun w h => wsL_law_in w (inlX2 w h)
theorem inlX3 : ∀ w ∈ wsX30, w ∈ wsL_law := fun _ h => List.mem_append_left _ (List.mem_append_left _ (List.mem_append_left _ (List.mem_append_left _ (List.mem_append_right _ h))))
theorem inX3 : ∀ w ∈ wsX30, w ∈ lw_tbl := fun w h => wsL_law_in w (inlX3 w h)
theorem inlX4 : ∀ w ∈ wsX40, w ∈ wsL_law := fun _ h => List.mem_append_left _ (List.mem_append_left _ (List.mem_append_left _ (List.mem_append_right _ h)))
theorem inX4 : ∀ w ∈ wsX40, w ∈ lw_tbl := fun w h => wsL_law_in w (inlX4 w h)
theorem inlX5 : ∀ w ∈ wsX50, w ∈ wsL_law := fun _ h => List.mem_append_left _ (List.mem_append_left _ (List.mem_append_left _ (List.mem_append_left _ (List.mem_append_left _ (List.mem_append_left _ (List.mem_append_left _ (List.mem_append_right _ h)))))))
theorem inX5 : ∀ w ∈ wsX50, w ∈ lw_tbl := fun w h => wsL_law_in w (inlX5 w h)
theorem inlX6 : ∀ w ∈ wsX60, w ∈ wsL_law := fun _ h => List.mem_append_left _ (List.mem_append_left _ (List.mem_append_right _ h))
theorem inX6 : ∀ w ∈ wsX60, w ∈ lw_tbl := fun w h => wsL_law_in w (inlX6 w h)
theorem inlX7 : ∀ w ∈ wsX70, w ∈ wsL_law := fun _ h => List.mem_append_left _ (List.mem_append_left _ (List.mem_append_left _ (List.mem_append_left _ (List.mem_append_left _ (List.mem_append_left _ (List.mem_append_left _ (List.mem_append_left _ (List.mem_append_left _ (List.mem_append_right _ h)))))))))
theorem inX7 : ∀ w ∈ wsX70, w ∈ lw_tbl := fun w h => wsL_law_in w (inlX7 w h)
theorem inlX8 : ∀ w ∈ wsX80, w ∈ wsL_law := fun _ h => List.mem_append_left _ (List.mem_append_left _ (List.mem_append_left _ (List.mem_append_left _ (List.mem_append_left _ (List.mem_append_left _ (List.mem_append_left _ (List.mem_append_left _ (List.mem_append_right _ h))))))))
theorem inX8 : ∀ w ∈ wsX80, w ∈ lw_tbl := fun w h => wsL_law_in w (inlX8 w h)
theorem inJ6 : ∀ w ∈ wsJ60, w ∈ lw_tbl := by decide +kernel
theorem inJ9 : ∀ w ∈ wsJ90, w ∈ lw_tbl := by decide +kernel
