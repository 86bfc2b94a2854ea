theorem dJ7_fill_53178_12 : decode cJ7_fill_53178 12 = .ok (.iload_n 1, 1) := by decide +kernel
theorem dJ7_fill_53178_13 : decode cJ7_fill_53178 13 = .ok (.iastore, 1) := by decide +kernel
theorem dJ7_fill_53178_14 : decode cJ7_fill_53178 14 = .ok (.iinc 2 1, 3) := by decide +kernel
theorem dJ7_fill_53178_17 : decode cJ7_fill_53178 17 = .ok (.goto (-12), 3) := by decide +kernel
theorem dJ7_fill_53178_20 : decode cJ7_fill_53178 20 = .ok (.return_, 1) := by decide +kernel
set_option maxRecDepth 20000 in
theorem ggL_law_X8_init_1 : GoodIn wsL_law wsX8_init_r1 := goodIn_r _ [9, 10, 11, 12, 13, 14, 15, 16, 17, 18, 19, 20, 21, 22, 23, 24, 25, 26, 27, 28, 29, 30, 31, 32] (by decide +kernel) (by decide +kernel)
set_option maxRecDepth 20000 in
theorem ggL_law_X8_init_2 : GoodIn wsL_law wsX8_init_r2 := goodIn_r _ [33, 34, 35, 36, 37, 38, 39, 40, 41, 42, 43, 44, 45, 46, 47, 48, 49, 50, 51, 52, 53, 54, 55, 56] (by decide +kernel) (by decide +kernel)
set_option maxRecDepth 20000 in
theorem ggL_law_X8_init_3 : GoodIn wsL_law wsX8_init_r3 := goodIn_r _ [57, 58, 59, 60, 61, 62, 63, 64, 65, 66, 67, 68, 69, 70, 71, 72, 73, 74, 75, 76, 77, 78, 79, 80] (by decide +kernel) (by decide +kernel)
set_option maxRecDepth 20000 in
theorem ggL_law_X8_init_4 : GoodIn wsL_law wsX8_init_r4 := goodIn_r _ [81, 82, 83, 84, 85, 86, 87, 88, 89, 90, 91, 92, 93, 94, 95, 96, 97, 98, 99, 100, 101, 102, 103] (by decide +kernel) (by decide +kernel)
set_option maxRecDepth 20000 in
theorem ggL_law_X8_init_5 : GoodIn wsL_law wsX70 := goodIn_r _ [869, 870] (by decide +kernel) (by decide +kernel)
set_option maxRecDepth 20000 in
theorem ggL_law_X8_init_6 : GoodIn wsL_law wsX80 := goodIn_r _ [790, 791, 792, 793, 794, 795, 796, 797, 798, 799] (by decide +kernel) (by decide +kernel)
set_option maxRecDepth 20000 in
theorem ggL_law_X8_init_7 : GoodIn wsL_law wsX50 := goodIn_r _ [871, 872] (by decide +kernel) (by decide +kernel)
set_option maxRecDepth 20000 in
theorem ggL_law_X8_init_8 : GoodIn wsL_law wsX10 := goodIn_r _ [873, 874, 875, 876, 877] (by decide +kernel) (by decide +kernel)
set_option maxRecDepth 20000 in
theorem ggL_law_X8_init_9 : GoodIn wsL_law wsX00 := goodIn_r _ [878, 879, 880, 881, 882, 883, 884, 885, 886, 887] (by decide +kernel) (by decide +kernel)
set_option maxRecDepth 20000 in
theorem ggL_law_X8_init_10 : GoodIn wsL_law wsX40 := goodIn_r _ [888, 889, 890, 891, 892, 893, 894, 895, 896, 897, 898, 899, 900, 901, 902, 903, 904, 905, 906] (by decide +kernel) (by decide +kernel)
set_option maxRecDepth 20000 in
theorem ggL_law_X8_init_11 : GoodIn wsL_law wsX30 := goodIn_r _ [907, 908, 909, 910, 911, 912, 913] (by decide +kernel) (by decide +kernel)
set_option maxRecDepth 20000 in
theorem ggL_law_X8_init_12 : GoodIn wsL_law wsX60 := goodIn_r _ [914, 915, 916] (by decide +kernel) (by decide +kernel)
set_option maxRecDepth 20000 in
theorem ggL_law_X8_init_13 : GoodIn wsL_law wsX20 := goodIn_r _ [917, 918, 919, 920, 921, 922, 923, 924, 925, 926, 927, 928, 929] (by decide +kernel) (by decide +kernel)
set_option maxRecDepth 20000 in
theorem ggL_law_X8_init_0 : GoodIn wsL_law [.code yX8_init cX8_init 1 none] := goodIn_r _ [8] (by decide +kernel) (by decide +kernel)
theorem ggL_law_X8_init : GoodIn wsL_law wsX8_init := goodIn_k ggL_law_X8_init_0 (goodIn_app (goodIn_app (goodIn_app (goodIn_app (goodIn_app (goodIn_app (goodIn_app (goodIn_app (goodIn_app (goodIn_app ggL_law_X8_init_1 (goodIn_app ggL_law_X8_init_2 (goodIn_app ggL_law_X8_init_3 ggL_law_X8_init_4))) ggL_law_X8_init_5) ggL_law_X8_init_6) ggL_law_X8_init_7) ggL_law_X8_init_8) ggL_law_X8_init_9) ggL_law_X8_init_10) ggL_law_X8_init_11) ggL_law_X8_init_12) ggL_law_X8_init_13)
set_option maxRecDepth 20000 in
theorem gL_law_X8_init : GoodIn wsL_law (wsX8_init) := ggL_law_X8_init
set_option maxRecDepth 20000 in
theorem ggL_law_X9_init_1 : GoodIn wsL_law wsX9_init_r1 := goodIn_r _ [107, 10, 11, 35, 108, 41, 109, 110, 111, 112, 113, 114, 115, 116, 117, 118, 119, 120, 121, 122, 123, 124, 125, 126] (by decide +kernel) (by decide +kernel)
set_option maxRecDepth 20000 in
theorem ggL_law_X9_init_2 : GoodIn wsL_law wsX9_init_r2 := goodIn_r _ [127, 128, 129, 130, 131, 132, 133, 134, 135, 136, 137, 138, 139, 140, 141, 142] (by decide +kernel) (by decide +kernel)
set_option maxRecDepth 20000 in
theorem ggL_law_X9_init_3 : GoodIn wsL_law wsX90 := goodIn_r _ [800, 801, 802, 803, 804, 805, 806, 807, 808, 809, 810, 811, 812, 813, 814, 815, 816, 817, 818, 819, 820, 821, 822, 823, 824, 825, 826, 827, 828, 829, 830, 831, 832, 833, 834, 835, 836, 837, 838, 839, 840, 841, 842, 843, 844, 845, 846, 847, 848, 849, 850, 851, 852, 853, 854, 855, 856, 857, 858, 859, 860, 861, 862, 863, 864, 865, 866, 867, 868] (by decide +kernel) (by decide +kernel)
set_option maxRecDepth 20000 in
theorem ggL_law_X9_init_0 : GoodIn wsL_law [.code yX9_init cX9_init 2 none] := goodIn_r _ [106] (by decide +kernel) (by decide +kernel)
theorem ggL_law_X9_init : GoodIn wsL_law wsX9_init := goodIn_k ggL_law_X9_init_0 (goodIn_app (goodIn_app ggL_law_X9_init_1 ggL_law_X9_init_2) ggL_law_X9_init_3)
set_option maxRecDepth 20000 in
theorem gL_law_X9_init : GoodIn wsL_law (wsX9_init) := ggL_law_X9_init
set_option maxRecDepth 20000 in
theorem ggL_law_X8_feed : GoodIn wsL_law wsX8_feed := goodIn_r _ [146, 15, 147, 148, 149, 150, 14, 151, 152, 153, 154, 155, 156, 36, 790, 791, 792, 793, 794, 795, 796, 797, 798, 799, 869, 870] (by decide +kernel) (by decide +kernel)
set_option maxRecDepth 20000 in
theorem gL_law_X8_feed : GoodIn wsL_law (wsV RL 13 RX8 yX8_feed wsX8_feed) := goodIn_app (goodIn_of _ (by decide +kernel)) ggL_law_X8_feed
set_option maxRecDepth 20000 in
theorem ggL_law_X9_feed_1 : GoodIn wsL_law ([.fieldLink RX9 116 "CensusDeskModel" "fed" "I", .fieldLink RX9 120 "CensusDeskModel" "isHeld" "Z", .fieldLink RX9 9 "CensusDeskModel" "tape" "[B"] : List Cond) := goodIn_r _ [161, 162, 108] (by decide +kernel) (by decide +kernel)
set_option maxRecDepth 20000 in
theorem ggL_law_X9_feed_2 : GoodIn wsL_law wsX90 := goodIn_r _ [800, 801, 802, 803, 804, 805, 806, 807, 808, 809, 810, 811, 812, 813, 814, 815, 816, 817, 818, 819, 820, 821, 822, 823, 824, 825, 826, 827, 828, 829, 830, 831, 832, 833, 834, 835, 836, 837, 838, 839, 840, 841, 842, 843, 844, 845, 846, 847, 848, 849, 850, 851, 852, 853, 854, 855, 856, 857, 858, 859, 860, 861, 862, 863, 864, 865, 866, 867, 868] (by decide +kernel) (by decide +kernel)
set_option maxRecDepth 20000 in
theorem ggL_law_X9_feed_0 : GoodIn wsL_law [.code yX9_feed cX9_feed 8 (some .int)] := goodIn_r _ [160] (by decide +kernel) (by decide +kernel)
theorem ggL_law_X9_feed : GoodIn wsL_law wsX9_feed := goodIn_k ggL_law_X9_feed_0 (goodIn_app ggL_law_X9_feed_1 ggL_law_X9_feed_2)
set_option maxRecDepth 20000 in
theorem gL_law_X9_feed : GoodIn wsL_law (wsV RL 17 RX9 yX9_feed wsX9_feed) := goodIn_app (goodIn_of _ (by decide +kernel)) ggL_law_X9_feed
set_option maxRecDepth 20000 in
theorem ggL_law_X8_end : GoodIn wsL_law wsX8_end := goodIn_r _ [166, 15, 147, 167, 168, 169, 14, 170, 152, 790, 791, 792, 793, 794, 795, 796, 797, 798, 799, 869, 870] (by decide +kernel) (by decide +kernel)
set_option maxRecDepth 20000 in
theorem gL_law_X8_end : GoodIn wsL_law (wsV RL 18 RX8 yX8_end wsX8_end) := goodIn_app (goodIn_of _ (by decide +kernel)) ggL_law_X8_end
set_option maxRecDepth 20000 in
theorem ggL_law_X9_end_1 : GoodIn wsL_law ([.fieldLink RX9 116 "CensusDeskModel" "fed" "I", .fieldLink RX9 120 "CensusDeskModel" "isHeld" "Z"] : List Cond) := goodIn_r _ [161, 162] (by decide +kernel) (by decide +kernel)
set_option maxRecDepth 20000 in
theorem ggL_law_X9_end_2 : GoodIn wsL_law wsX90 := goodIn_r _ [800, 801, 802, 803, 804, 805, 806, 807, 808, 809, 810, 811, 812, 813, 814, 815, 816, 817, 818, 819, 820, 821, 822, 823, 824, 825, 826, 827, 828, 829, 830, 831, 832, 833, 834, 835, 836, 837, 838, 839, 840, 841, 842, 843, 844, 845, 846, 847, 848, 849, 850, 851, 852, 853, 854, 855, 856, 857, 858, 859, 860, 861, 862, 863, 864, 865, 866, 867, 868] (by decide +kernel) (by decide +kernel)
set_option maxRecDepth 20000 in
theorem ggL_law_X9_end_0 : GoodIn wsL_law [.code yX9_end cX9_end 2 (some .int)] := goodIn_r _ [174] (by decide +kernel) (by decide +kernel)
theorem ggL_law_X9_end : GoodIn wsL_law wsX9_end := goodIn_k ggL_law_X9_end_0 (goodIn_app ggL_law_X9_end_1 ggL_law_X9_end_2)
set_option maxRecDepth 20000 in
theorem gL_law_X9_end : GoodIn wsL_law (wsV RL 22 RX9 yX9_end wsX9_end) := goodIn_app (goodIn_of _ (by decide +kernel)) ggL_law_X9_end
set_option maxRecDepth 20000 in
theorem ggL_law_X8_rule : GoodIn wsL_law wsX8_rule := goodIn_r _ [178, 179, 147, 19, 180, 181, 182, 18, 183, 42, 43, 790, 791, 792, 793, 794, 795, 796, 797, 798, 799, 871, 872] (by decide +kernel) (by decide +kernel)
set_option maxRecDepth 20000 in
theorem gL_law_X8_rule : GoodIn wsL_law (wsV RL 23 RX8 yX8_rule wsX8_rule) := goodIn_app (goodIn_of _ (by decide +kernel)) ggL_law_X8_rule
set_option maxRecDepth 20000 in
theorem ggL_law_X9_rule_1 : GoodIn wsL_law ([.constant RX9 124 (999999), .fieldLink RX9 120 "CensusDeskModel" "isHeld" "Z", .fieldLink RX9 13 "CensusDeskModel" "ruleWay" "[I", .fieldLink RX9 17 "CensusDeskModel" "ruleNumber" "[I"] : List Cond) := goodIn_r _ [188, 162, 109, 110] (by decide +kernel) (by decide +kernel)
set_option maxRecDepth 20000 in
theorem ggL_law_X9_rule_2 : GoodIn wsL_law wsX90 := goodIn_r _ [800, 801, 802, 803, 804, 805, 806, 807, 808, 809, 810, 811, 812, 813, 814, 815, 816, 817, 818, 819, 820, 821, 822, 823, 824, 825, 826, 827, 828, 829, 830, 831, 832, 833, 834, 835, 836, 837, 838, 839, 840, 841, 842, 843, 844, 845, 846, 847, 848, 849, 850, 851, 852, 853, 854, 855, 856, 857, 858, 859, 860, 861, 862, 863, 864, 865, 866, 867, 868] (by decide +kernel) (by decide +kernel)
set_option maxRecDepth 20000 in
theorem ggL_law_X9_rule_0 : GoodIn wsL_law [.code yX9_rule cX9_rule 5 (some .int)] := goodIn_r _ [187] (by decide +kernel) (by decide +kernel)
theorem ggL_law_X9_rule : GoodIn wsL_law wsX9_rule := goodIn_k ggL_law_X9_rule_0 (goodIn_app ggL_law_X9_rule_1 ggL_law_X9_rule_2)
set_option maxRecDepth 20000 in
theorem gL_law_X9_rule : GoodIn wsL_law (wsV RL 27 RX9 yX9_rule wsX9_rule) := goodIn_app (goodIn_of _ (by decide +kernel)) ggL_law_X9_rule
set_option maxRecDepth 20000 in
theorem ggL_law_X8_receive_1 : GoodIn wsL_law wsX8_receive_r1 := goodIn_r _ [147, 193, 23, 31, 194, 195, 196, 22, 197, 198, 53, 55, 199, 45, 46, 47, 200, 201, 202, 203, 54, 204, 205, 206] (by decide +kernel) (by decide +kernel)
set_option maxRecDepth 20000 in
theorem ggL_law_X8_receive_2 : GoodIn wsL_law wsX8_receive_r2 := goodIn_r _ [30, 207, 208, 209, 210, 211, 212, 213, 214, 215, 216, 79, 217, 218, 219, 220, 81, 221, 222, 223, 14, 224, 152, 225] (by decide +kernel) (by decide +kernel)
set_option maxRecDepth 20000 in
theorem ggL_law_X8_receive_3 : GoodIn wsL_law wsX8_receive_r3 := goodIn_r _ [226, 227, 228, 36, 229, 230, 231, 232, 233, 234, 235, 236, 237, 238, 239, 240, 241, 242, 243, 244, 245, 82, 246, 247] (by decide +kernel) (by decide +kernel)
set_option maxRecDepth 20000 in
theorem ggL_law_X8_receive_4 : GoodIn wsL_law wsX8_receive_r4 := goodIn_r _ [83, 248, 249, 250, 18, 251, 42, 252, 253, 254, 255, 256, 257, 258, 259, 260, 43, 261, 262, 263, 264, 265, 52, 266] (by decide +kernel) (by decide +kernel)
set_option maxRecDepth 20000 in
theorem ggL_law_X8_receive_5 : GoodIn wsL_law wsX8_receive_r5 := goodIn_r _ [267, 268, 269, 270, 271, 272, 273, 274, 275, 276, 277, 84, 278, 279, 280, 26, 281, 282, 283, 60, 284, 285, 286, 287] (by decide +kernel) (by decide +kernel)
set_option maxRecDepth 20000 in
theorem ggL_law_X8_receive_6 : GoodIn wsL_law wsX8_receive_r6 := goodIn_r _ [61, 62, 288, 289, 290, 78, 291, 102, 101, 103, 292, 293, 294, 295, 71, 296, 297, 298, 70, 299, 300, 301, 302, 303] (by decide +kernel) (by decide +kernel)
set_option maxRecDepth 20000 in
theorem ggL_law_X8_receive_7 : GoodIn wsL_law wsX8_receive_r7 := goodIn_r _ [304, 88, 89, 305, 306, 307, 308, 309, 310, 311, 312, 313, 314, 315, 316, 317, 318, 319, 320, 321, 322, 323, 324, 325] (by decide +kernel) (by decide +kernel)
set_option maxRecDepth 20000 in
theorem ggL_law_X8_receive_8 : GoodIn wsL_law wsX8_receive_r8 := goodIn_r _ [326, 327, 328, 329, 330, 331, 332, 333, 80, 334, 335, 336, 337, 338, 339, 340, 341, 342, 343, 344, 345, 346, 347, 348] (by decide +kernel) (by decide +kernel)
set_option maxRecDepth 20000 in
theorem ggL_law_X8_receive_9 : GoodIn wsL_law wsX8_receive_r9 := goodIn_r _ [349, 350, 75, 351, 352, 353, 74, 354, 355, 356, 357, 358, 359, 360, 361, 362, 363, 364, 365, 366, 367, 368, 369, 370] (by decide +kernel) (by decide +kernel)
set_option maxRecDepth 20000 in
theorem ggL_law_X8_receive_10 : GoodIn wsL_law wsX8_receive_r10 := goodIn_r _ [371, 372, 373, 374, 93, 94, 375, 376, 377, 378, 379, 380, 381, 382, 383, 384, 385, 386, 387, 388, 389, 390, 391, 392] (by decide +kernel) (by decide +kernel)
set_option maxRecDepth 20000 in
theorem ggL_law_X8_receive_11 : GoodIn wsL_law wsX8_receive_r11 := goodIn_r _ [393, 394, 395, 396, 397, 398, 399, 400, 401, 402, 403, 404, 405, 406, 407, 408, 409, 410, 411, 412, 413, 414, 415, 416] (by decide +kernel) (by decide +kernel)
set_option maxRecDepth 20000 in
theorem ggL_law_X8_receive_12 : GoodIn wsL_law wsX8_receive_r12 := goodIn_r _ [417, 418, 419, 420, 421, 422, 423, 424, 425, 426, 427, 428, 429, 430, 431, 432, 433, 434, 435, 436, 437, 438, 439, 440] (by decide +kernel) (by decide +kernel)
set_option maxRecDepth 20000 in
theorem ggL_law_X8_receive_13 : GoodIn wsL_law wsX8_receive_r13 := goodIn_r _ [441, 442, 443, 444, 445, 446, 447, 98, 99, 100, 448, 449, 450, 451, 452, 453, 454, 455, 456, 457, 458, 459, 460, 461] (by decide +kernel) (by decide +kernel)
set_option maxRecDepth 20000 in
theorem ggL_law_X8_receive_14 : GoodIn wsL_law wsX8_receive_r14 := goodIn_r _ [462, 463, 2, 464, 465, 27, 466, 467, 468, 469, 470, 471, 472, 473, 474, 475, 476, 477, 478, 479] (by decide +kernel) (by decide +kernel)
set_option maxRecDepth 20000 in
theorem ggL_law_X8_receive_15 : GoodIn wsL_law wsX80 := goodIn_r _ [790, 791, 792, 793, 794, 795, 796, 797, 798, 799] (by decide +kernel) (by decide +kernel)
set_option maxRecDepth 20000 in
theorem ggL_law_X8_receive_16 : GoodIn wsL_law wsX10 := goodIn_r _ [873, 874, 875, 876, 877] (by decide +kernel) (by decide +kernel)
set_option maxRecDepth 20000 in
theorem ggL_law_X8_receive_17 : GoodIn wsL_law wsX40 := goodIn_r _ [888, 889, 890, 891, 892, 893, 894, 895, 896, 897, 898, 899, 900, 901, 902, 903, 904, 905, 906] (by decide +kernel) (by decide +kernel)
set_option maxRecDepth 20000 in
theorem ggL_law_X8_receive_18 : GoodIn wsL_law wsX20 := goodIn_r _ [917, 918, 919, 920, 921, 922, 923, 924, 925, 926, 927, 928, 929] (by decide +kernel) (by decide +kernel)
set_option maxRecDepth 20000 in
theorem ggL_law_X8_receive_19 : GoodIn wsL_law wsX70 := goodIn_r _ [869, 870] (by decide +kernel) (by decide +kernel)
set_option maxRecDepth 20000 in
theorem ggL_law_X8_receive_20 : GoodIn wsL_law wsX50 := goodIn_r _ [871, 872] (by decide +kernel) (by decide +kernel)
set_option maxRecDepth 20000 in
theorem ggL_law_X8_receive_21 : GoodIn wsL_law wsX00 := goodIn_r _ [878, 879, 880, 881, 882, 883, 884, 885, 886, 887] (by decide +kernel) (by decide +kernel)
set_option maxRecDepth 20000 in
theorem ggL_law_X8_receive_22 : GoodIn wsL_law wsX30 := goodIn_r _ [907, 908, 909, 910, 911, 912, 913] (by decide +kernel) (by decide +kernel)
set_option maxRecDepth 20000 in
theorem ggL_law_X8_receive_23 : GoodIn wsL_law wsX60 := goodIn_r _ [914, 915, 916] (by decide +kernel) (by decide +kernel)
set_option maxRecDepth 20000 in
theorem ggL_law_X8_receive_0 : GoodIn wsL_law [.code yX8_receive cX8_receive 1 (some .int)] := goodIn_r _ [192] (by decide +kernel) (by decide +kernel)
theorem ggL_law_X8_receive : GoodIn wsL_law wsX8_receive := goodIn_k ggL_law_X8_receive_0 (goodIn_app (goodIn_app (goodIn_app (goodIn_app (goodIn_app (goodIn_app (goodIn_app (goodIn_app (goodIn_app (goodIn_app ggL_law_X8_receive_1 (goodIn_app ggL_law_X8_receive_2 (goodIn_app ggL_law_X8_receive_3 (goodIn_app ggL_law_X8_receive_4 (goodIn_app ggL_law_X8_receive_5 (goodIn_app ggL_law_X8_receive_6 (goodIn_app ggL_law_X8_receive_7 (goodIn_app ggL_law_X8_receive_8 (goodIn_app ggL_law_X8_receive_9 (goodIn_app ggL_law_X8_receive_10 (goodIn_app ggL_law_X8_receive_11 (goodIn_app ggL_law_X8_receive_12 (goodIn_app ggL_law_X8_receive_13 ggL_law_X8_receive_14))))))))))))) ggL_law_X8_receive_15) ggL_law_X8_receive_16) ggL_law_X8_receive_17) ggL_law_X8_receive_18) ggL_law_X8_receive_19) ggL_law_X8_receive_20) ggL_law_X8_receive_21) ggL_law_X8_receive_22) ggL_law_X8_receive_23)
set_option maxRecDepth 20000 in
theorem gL_law_X8_receive : GoodIn wsL_law (wsV RL 28 RX8 yX8_receive wsX8_receive) := goodIn_app (goodIn_of _ (by decide +kernel)) ggL_law_X8_receive
set_option maxRecDepth 20000 in
theorem ggL_law_X9_receive_1 : GoodIn wsL_law wsX9_receive_r1 := goodIn_r _ [162, 484, 485, 486, 487, 488, 489, 490, 491, 492, 493, 494, 495, 126, 128, 496, 497, 498, 5, 499, 161, 500, 501, 502] (by decide +kernel) (by decide +kernel)
set_option maxRecDepth 20000 in
theorem ggL_law_X9_receive_2 : GoodIn wsL_law wsX9_receive_r2 := goodIn_r _ [503, 504, 505, 506, 108, 507, 508, 509, 510, 511, 512, 513, 514, 118, 111, 112, 113, 114, 515, 516, 517, 518, 519, 520] (by decide +kernel) (by decide +kernel)
set_option maxRecDepth 20000 in
theorem ggL_law_X9_receive_3 : GoodIn wsL_law wsX9_receive_r3 := goodIn_r _ [521, 522, 523, 524, 109, 110, 127, 121, 122, 123, 124, 125, 525, 526, 527, 528, 529, 530, 531, 532, 533, 534, 535, 536] (by decide +kernel) (by decide +kernel)
set_option maxRecDepth 20000 in
theorem ggL_law_X9_receive_4 : GoodIn wsL_law wsX9_receive_r4 := goodIn_r _ [537, 538, 539, 540, 541, 542, 543, 544, 545, 546, 547, 548, 549, 132, 133, 134, 135, 136, 137, 115, 138, 116, 139, 117] (by decide +kernel) (by decide +kernel)
set_option maxRecDepth 20000 in
theorem ggL_law_X9_receive_5 : GoodIn wsL_law wsX9_receive_r5 := goodIn_r _ [140, 119, 141, 142, 120, 550, 551, 552, 553, 554, 555, 556, 557, 558, 559, 560, 561, 562, 563, 564, 565, 566, 567, 568] (by decide +kernel) (by decide +kernel)
set_option maxRecDepth 20000 in
theorem ggL_law_X9_receive_6 : GoodIn wsL_law wsX9_receive_r6 := goodIn_r _ [569, 570, 571, 572, 573, 574, 575, 576, 577, 578, 579, 580, 581, 582, 583, 584, 585, 586, 587, 129, 588, 589, 590, 591] (by decide +kernel) (by decide +kernel)
set_option maxRecDepth 20000 in
theorem ggL_law_X9_receive_7 : GoodIn wsL_law wsX9_receive_r7 := goodIn_r _ [592, 130, 593, 594, 595, 596, 597, 598, 599, 600, 601, 602, 603, 604, 605, 606, 607, 131, 608, 609, 610, 611, 612, 613] (by decide +kernel) (by decide +kernel)
set_option maxRecDepth 20000 in
theorem ggL_law_X9_receive_8 : GoodIn wsL_law wsX9_receive_r8 := goodIn_r _ [614, 615, 616, 617, 618, 619, 620, 621, 622, 623, 624, 625, 626] (by decide +kernel) (by decide +kernel)
set_option maxRecDepth 20000 in
theorem ggL_law_X9_receive_9 : GoodIn wsL_law wsX90 := goodIn_r _ [800, 801, 802, 803, 804, 805, 806, 807, 808, 809, 810, 811, 812, 813, 814, 815, 816, 817, 818, 819, 820, 821, 822, 823, 824, 825, 826, 827, 828, 829, 830, 831, 832, 833, 834, 835, 836, 837, 838, 839, 840, 841, 842, 843, 844, 845, 846, 847, 848, 849, 850, 851, 852, 853, 854, 855, 856, 857, 858, 859, 860, 861, 862, 863, 864, 865, 866, 867, 868] (by decide +kernel) (by decide +kernel)
set_option maxRecDepth 20000 in
theorem ggL_law_X9_receive_0 : GoodIn wsL_law [.code yX9_receive cX9_receive 2 (some .int)] := goodIn_r _ [483] (by decide +kernel) (by decide +kernel)
theorem ggL_law_X9_receive : GoodIn wsL_law wsX9_receive := goodIn_k ggL_law_X9_receive_0 (goodIn_app (goodIn_app ggL_law_X9_receive_1 (goodIn_app ggL_law_X9_receive_2 (goodIn_app ggL_law_X9_receive_3 (goodIn_app ggL_law_X9_receive_4 (goodIn_app ggL_law_X9_receive_5 (goodIn_app ggL_law_X9_receive_6 (goodIn_app ggL_law_X9_receive_7 ggL_law_X9_receive_8))))))) ggL_law_X9_receive_9)
set_option maxRecDepth 20000 in
theorem gL_law_X9_receive : GoodIn wsL_law (wsV RL 32 RX9 yX9_receive wsX9_receive) := goodIn_app (goodIn_of _ (by decide +kernel)) ggL_law_X9_receive
set_option maxRecDepth 20000 in
theorem ggL_law_X8_resume_1 : GoodIn wsL_law wsX8_resume_r1 := goodIn_r _ [147, 31, 217, 218, 219, 30, 220, 81, 212, 79, 214, 215, 221, 222, 223, 14, 224, 152, 225, 226, 227, 228, 36, 229] (by decide +kernel) (by decide +kernel)
set_option maxRecDepth 20000 in
theorem ggL_law_X8_resume_2 : GoodIn wsL_law wsX8_resume_r2 := goodIn_r _ [230, 231, 232, 233, 234, 235, 236, 237, 216, 238, 239, 240, 241, 213, 242, 243, 244, 245, 82, 246, 247, 83, 248, 249] (by decide +kernel) (by decide +kernel)
set_option maxRecDepth 20000 in
theorem ggL_law_X8_resume_3 : GoodIn wsL_law wsX8_resume_r3 := goodIn_r _ [250, 18, 251, 42, 252, 253, 254, 255, 256, 257, 258, 259, 260, 43, 261, 262, 263, 22, 264, 265, 54, 55, 198, 52] (by decide +kernel) (by decide +kernel)
set_option maxRecDepth 20000 in
theorem ggL_law_X8_resume_4 : GoodIn wsL_law wsX8_resume_r4 := goodIn_r _ [53, 266, 267, 268, 269, 270, 271, 272, 273, 210, 274, 275, 276, 277, 84, 209, 211, 278, 279, 280, 26, 281, 282, 283] (by decide +kernel) (by decide +kernel)
set_option maxRecDepth 20000 in
theorem ggL_law_X8_resume_5 : GoodIn wsL_law wsX8_resume_r5 := goodIn_r _ [60, 284, 285, 286, 287, 61, 62, 288, 289, 290, 78, 291, 102, 101, 103, 292, 293, 294, 295, 71, 208, 296, 297, 298] (by decide +kernel) (by decide +kernel)
set_option maxRecDepth 20000 in
theorem ggL_law_X8_resume_6 : GoodIn wsL_law wsX8_resume_r6 := goodIn_r _ [70, 299, 300, 301, 302, 303, 304, 88, 89, 305, 306, 307, 308, 309, 310, 311, 312, 313, 314, 315, 316, 317, 318, 319] (by decide +kernel) (by decide +kernel)
set_option maxRecDepth 20000 in
theorem ggL_law_X8_resume_7 : GoodIn wsL_law wsX8_resume_r7 := goodIn_r _ [320, 321, 322, 323, 324, 325, 201, 202, 203, 199, 45, 46, 47, 326, 327, 328, 329, 330, 331, 332, 333, 80, 334, 335] (by decide +kernel) (by decide +kernel)
set_option maxRecDepth 20000 in
theorem ggL_law_X8_resume_8 : GoodIn wsL_law wsX8_resume_r8 := goodIn_r _ [336, 337, 338, 339, 340, 341, 342, 343, 344, 345, 346, 347, 348, 349, 350, 75, 351, 352, 353, 74, 354, 355, 356, 357] (by decide +kernel) (by decide +kernel)
set_option maxRecDepth 20000 in
theorem ggL_law_X8_resume_9 : GoodIn wsL_law wsX8_resume_r9 := goodIn_r _ [358, 359, 360, 361, 362, 363, 364, 365, 366, 367, 368, 369, 370, 371, 372, 373, 374, 93, 94, 375, 376, 377, 378, 379] (by decide +kernel) (by decide +kernel)
set_option maxRecDepth 20000 in
theorem ggL_law_X8_resume_10 : GoodIn wsL_law wsX8_resume_r10 := goodIn_r _ [380, 381, 382, 383, 384, 385, 386, 387, 388, 389, 390, 391, 392, 393, 394, 395, 396, 397, 398, 399, 400, 401, 402, 403] (by decide +kernel) (by decide +kernel)
set_option maxRecDepth 20000 in
theorem ggL_law_X8_resume_11 : GoodIn wsL_law wsX8_resume_r11 := goodIn_r _ [404, 405, 406, 407, 408, 409, 410, 411, 412, 413, 414, 415, 416, 417, 418, 419, 420, 421, 422, 423, 424, 425, 426, 427] (by decide +kernel) (by decide +kernel)
set_option maxRecDepth 20000 in
theorem ggL_law_X8_resume_12 : GoodIn wsL_law wsX8_resume_r12 := goodIn_r _ [428, 429, 430, 431, 432, 433, 434, 435, 436, 437, 438, 439, 440, 441, 442, 443, 444, 445, 446, 447, 98, 99, 100, 448] (by decide +kernel) (by decide +kernel)
set_option maxRecDepth 20000 in
theorem ggL_law_X8_resume_13 : GoodIn wsL_law wsX8_resume_r13 := goodIn_r _ [449, 450, 451, 452, 453, 454, 455, 456, 457, 458, 459, 460, 461, 462, 463, 2, 464, 465, 27, 193, 466, 467, 468, 469] (by decide +kernel) (by decide +kernel)
set_option maxRecDepth 20000 in
theorem ggL_law_X8_resume_14 : GoodIn wsL_law wsX8_resume_r14 := goodIn_r _ [470, 471, 472, 473, 474, 475, 476, 477, 478, 479] (by decide +kernel) (by decide +kernel)
set_option maxRecDepth 20000 in
theorem ggL_law_X8_resume_15 : GoodIn wsL_law wsX80 := goodIn_r _ [790, 791, 792, 793, 794, 795, 796, 797, 798, 799] (by decide +kernel) (by decide +kernel)
set_option maxRecDepth 20000 in
theorem ggL_law_X8_resume_16 : GoodIn wsL_law wsX40 := goodIn_r _ [888, 889, 890, 891, 892, 893, 894, 895, 896, 897, 898, 899, 900, 901, 902, 903, 904, 905, 906] (by decide +kernel) (by decide +kernel)
set_option maxRecDepth 20000 in
theorem ggL_law_X8_resume_17 : GoodIn wsL_law wsX20 := goodIn_r _ [917, 918, 919, 920, 921, 922, 923, 924, 925, 926, 927, 928, 929] (by decide +kernel) (by decide +kernel)
set_option maxRecDepth 20000 in
theorem ggL_law_X8_resume_18 : GoodIn wsL_law wsX70 := goodIn_r _ [869, 870] (by decide +kernel) (by decide +kernel)
set_option maxRecDepth 20000 in
theorem ggL_law_X8_resume_19 : GoodIn wsL_law wsX50 := goodIn_r _ [871, 872] (by decide +kernel) (by decide +kernel)
set_option maxRecDepth 20000 in
theorem ggL_law_X8_resume_20 : GoodIn wsL_law wsX10 := goodIn_r _ [873, 874, 875, 876, 877] (by decide +kernel) (by decide +kernel)
set_option maxRecDepth 20000 in
theorem ggL_law_X8_resume_21 : GoodIn wsL_law wsX00 := goodIn_r _ [878, 879, 880, 881, 882, 883, 884, 885, 886, 887] (by decide +kernel) (by decide +kernel)
set_option maxRecDepth 20000 in
theorem ggL_law_X8_resume_22 : GoodIn wsL_law wsX30 := goodIn_r _ [907, 908, 909, 910, 911, 912, 913] (by decide +kernel) (by decide +kernel)
set_option maxRecDepth 20000 in
theorem ggL_law_X8_resume_23 : GoodIn wsL_law wsX60 := goodIn_r _ [914, 915, 916] (by decide +kernel) (by decide +kernel)
set_option maxRecDepth 20000 in
theorem ggL_law_X8_resume_0 : GoodIn wsL_law [.code yX8_resume cX8_resume 1 (some .int)] := goodIn_r _ [630] (by decide +kernel) (by decide +kernel)
theorem ggL_law_X8_resume : GoodIn wsL_law wsX8_resume := goodIn_k ggL_law_X8_resume_0 (goodIn_app (goodIn_app (goodIn_app (goodIn_app (goodIn_app (goodIn_app (goodIn_app (goodIn_app (goodIn_app (goodIn_app ggL_law_X8_resume_1 (goodIn_app ggL_law_X8_resume_2 (goodIn_app ggL_law_X8_resume_3 (goodIn_app ggL_law_X8_resume_4 (goodIn_app ggL_law_X8_resume_5 (goodIn_app ggL_law_X8_resume_6 (goodIn_app ggL_law_X8_resume_7 (goodIn_app ggL_law_X8_resume_8 (goodIn_app ggL_law_X8_resume_9 (goodIn_app ggL_law_X8_resume_10 (goodIn_app ggL_law_X8_resume_11 (goodIn_app ggL_law_X8_resume_12 (goodIn_app ggL_law_X8_resume_13 ggL_law_X8_resume_14))))))))))))) ggL_law_X8_resume_15) ggL_law_X8_resume_16) ggL_law_X8_resume_17) ggL_law_X8_resume_18) ggL_law_X8_resume_19) ggL_law_X8_resume_20) ggL_law_X8_resume_21) ggL_law_X8_resume_22) ggL_law_X8_resume_23)
set_option maxRecDepth 20000 in
theorem gL_law_X8_resume : GoodIn wsL_law (wsV RL 33 RX8 yX8_resume wsX8_resume) := goodIn_app (goodIn_of _ (by decide +kernel)) ggL_law_X8_resume
set_option maxRecDepth 20000 in
theorem ggL_law_X9_resume_1 : GoodIn wsL_law wsX9_resume_r1 := goodIn_r _ [162, 496, 497, 498, 5, 499, 485, 161, 491, 500, 486, 487, 501, 502, 488, 503, 504, 505, 506, 108, 507, 508, 509, 510] (by decide +kernel) (by decide +kernel)
set_option maxRecDepth 20000 in
theorem ggL_law_X9_resume_2 : GoodIn wsL_law wsX9_resume_r2 := goodIn_r _ [493, 511, 512, 513, 514, 490, 118, 494, 111, 492, 112, 113, 114, 515, 516, 517, 518, 519, 489, 520, 521, 522, 523, 524] (by decide +kernel) (by decide +kernel)
set_option maxRecDepth 20000 in
theorem ggL_law_X9_resume_3 : GoodIn wsL_law wsX9_resume_r3 := goodIn_r _ [109, 110, 495, 128, 127, 121, 122, 123, 124, 125, 126, 525, 526, 527, 528, 529, 530, 531, 532, 533, 534, 535, 536, 537] (by decide +kernel) (by decide +kernel)
set_option maxRecDepth 20000 in
theorem ggL_law_X9_resume_4 : GoodIn wsL_law wsX9_resume_r4 := goodIn_r _ [538, 539, 540, 541, 542, 543, 544, 545, 546, 547, 548, 549, 132, 133, 134, 135, 136, 484, 137, 115, 138, 116, 139, 117] (by decide +kernel) (by decide +kernel)
set_option maxRecDepth 20000 in
theorem ggL_law_X9_resume_5 : GoodIn wsL_law wsX9_resume_r5 := goodIn_r _ [140, 119, 141, 142, 120, 550, 551, 552, 553, 554, 555, 556, 557, 558, 559, 560, 561, 562, 563, 564, 565, 566, 567, 568] (by decide +kernel) (by decide +kernel)
set_option maxRecDepth 20000 in
theorem ggL_law_X9_resume_6 : GoodIn wsL_law wsX9_resume_r6 := goodIn_r _ [569, 570, 571, 572, 573, 574, 575, 576, 577, 578, 579, 580, 581, 582, 583, 584, 585, 586, 587, 129, 588, 589, 590, 591] (by decide +kernel) (by decide +kernel)
set_option maxRecDepth 20000 in
theorem ggL_law_X9_resume_7 : GoodIn wsL_law wsX9_resume_r7 := goodIn_r _ [592, 130, 593, 594, 595, 596, 597, 598, 599, 600, 601, 602, 603, 604, 605, 606, 607, 131, 608, 609, 610, 611, 612, 613] (by decide +kernel) (by decide +kernel)
set_option maxRecDepth 20000 in
theorem ggL_law_X9_resume_8 : GoodIn wsL_law wsX9_resume_r8 := goodIn_r _ [614, 615, 616, 617, 618, 619, 620, 621, 622, 623, 624, 625, 626] (by decide +kernel) (by decide +kernel)
set_option maxRecDepth 20000 in
theorem ggL_law_X9_resume_9 : GoodIn wsL_law wsX90 := goodIn_r _ [800, 801, 802, 803, 804, 805, 806, 807, 808, 809, 810, 811, 812, 813, 814, 815, 816, 817, 818, 819, 820, 821, 822, 823, 824, 825, 826, 827, 828, 829, 830, 831, 832, 833, 834, 835, 836, 837, 838, 839, 840, 841, 842, 843, 844, 845, 846, 847, 848, 849, 850, 851, 852, 853, 854, 855, 856, 857, 858, 859, 860, 861, 862, 863, 864, 865, 866, 867, 868] (by decide +kernel) (by decide +kernel)
set_option maxRecDepth 20000 in
theorem ggL_law_X9_resume_0 : GoodIn wsL_law [.code yX9_resume cX9_resume 1 (some .int)] := goodIn_r _ [634] (by decide +kernel) (by decide +kernel)
theorem ggL_law_X9_resume : GoodIn wsL_law wsX9_resume := goodIn_k ggL_law_X9_resume_0 (goodIn_app (goodIn_app ggL_law_X9_resume_1 (goodIn_app ggL_law_X9_resume_2 (goodIn_app ggL_law_X9_resume_3 (goodIn_app ggL_law_X9_resume_4 (goodIn_app ggL_law_X9_resume_5 (goodIn_app ggL_law_X9_resume_6 (goodIn_app ggL_law_X9_resume_7 ggL_law_X9_resume_8))))))) ggL_law_X9_resume_9)
set_option maxRecDepth 20000 in
theorem gL_law_X9_resume : GoodIn wsL_law (wsV RL 36 RX9 yX9_resume wsX9_resume) := goodIn_app (goodIn_of _ (by decide +kernel)) ggL_law_X9_resume
set_option maxRecDepth 20000 in
theorem ggL_law_X8_drop : GoodIn wsL_law wsX8_drop := goodIn_r _ [638, 147, 465, 31, 790, 791, 792, 793, 794, 795, 796, 797, 798, 799, 888, 889, 890, 891, 892, 893, 894, 895, 896, 897, 898, 899, 900, 901, 902, 903, 904, 905, 906] (by decide +kernel) (by decide +kernel)
set_option maxRecDepth 20000 in
theorem gL_law_X8_drop : GoodIn wsL_law (wsV RL 37 RX8 yX8_drop wsX8_drop) := goodIn_app (goodIn_of _ (by decide +kernel)) ggL_law_X8_drop
set_option maxRecDepth 20000 in
theorem ggL_law_X9_drop_1 : GoodIn wsL_law ([.fieldLink RX9 120 "CensusDeskModel" "isHeld" "Z", .fieldLink RX9 292 "CensusDeskModel" "sheetsRejected" "I", .fieldLink RX9 234 "CensusDeskModel" "houses" "I"] : List Cond) := goodIn_r _ [162, 542, 492] (by decide +kernel) (by decide +kernel)
set_option maxRecDepth 20000 in
theorem ggL_law_X9_drop_2 : GoodIn wsL_law wsX90 := goodIn_r _ [800, 801, 802, 803, 804, 805, 806, 807, 808, 809, 810, 811, 812, 813, 814, 815, 816, 817, 818, 819, 820, 821, 822, 823, 824, 825, 826, 827, 828, 829, 830, 831, 832, 833, 834, 835, 836, 837, 838, 839, 840, 841, 842, 843, 844, 845, 846, 847, 848, 849, 850, 851, 852, 853, 854, 855, 856, 857, 858, 859, 860, 861, 862, 863, 864, 865, 866, 867, 868] (by decide +kernel) (by decide +kernel)
set_option maxRecDepth 20000 in
theorem ggL_law_X9_drop_0 : GoodIn wsL_law [.code yX9_drop cX9_drop 1 (some .int)] := goodIn_r _ [642] (by decide +kernel) (by decide +kernel)
theorem ggL_law_X9_drop : GoodIn wsL_law wsX9_drop := goodIn_k ggL_law_X9_drop_0 (goodIn_app ggL_law_X9_drop_1 ggL_law_X9_drop_2)
set_option maxRecDepth 20000 in
theorem gL_law_X9_drop : GoodIn wsL_law (wsV RL 40 RX9 yX9_drop wsX9_drop) := goodIn_app (goodIn_of _ (by decide +kernel)) ggL_law_X9_drop
set_option maxRecDepth 20000 in
theorem ggL_law_X8_failures : GoodIn wsL_law wsX8_failures := goodIn_r _ [646, 23, 790, 791, 792, 793, 794, 795, 796, 797, 798, 799, 873, 874, 875, 876, 877] (by decide +kernel) (by decide +kernel)
set_option maxRecDepth 20000 in
theorem gL_law_X8_failures : GoodIn wsL_law (wsV RL 41 RX8 yX8_failures wsX8_failures) := goodIn_app (goodIn_of _ (by decide +kernel)) ggL_law_X8_failures
set_option maxRecDepth 20000 in
theorem ggL_law_X9_failures : GoodIn wsL_law wsX9_failures := goodIn_r _ [650, 495, 800, 801, 802, 803, 804, 805, 806, 807, 808, 809, 810, 811, 812, 813, 814, 815, 816, 817, 818, 819, 820, 821, 822, 823, 824, 825, 826, 827, 828, 829, 830, 831, 832, 833, 834, 835, 836, 837, 838, 839, 840, 841, 842, 843, 844, 845, 846, 847, 848, 849, 850, 851, 852, 853, 854, 855, 856, 857, 858, 859, 860, 861, 862, 863, 864, 865, 866, 867, 868] (by decide +kernel) (by decide +kernel)
set_option maxRecDepth 20000 in
theorem gL_law_X9_failures : GoodIn wsL_law (wsV RL 44 RX9 yX9_failures wsX9_failures) := goodIn_app (goodIn_of _ (by decide +kernel)) ggL_law_X9_failures
set_option maxRecDepth 20000 in
theorem ggL_law_X8_failure : GoodIn wsL_law wsX8_failure := goodIn_r _ [654, 23, 655, 656, 657, 22, 658, 52, 659, 660, 661, 662, 198, 790, 791, 792, 793, 794, 795, 796, 797, 798, 799, 873, 874, 875, 876, 877] (by decide +kernel) (by decide +kernel)
set_option maxRecDepth 20000 in
theorem gL_law_X8_failure : GoodIn wsL_law (wsV RL 45 RX8 yX8_failure wsX8_failure) := goodIn_app (goodIn_of _ (by decide +kernel)) ggL_law_X8_failure
set_option maxRecDepth 20000 in
theorem ggL_law_X9_failure_1 : GoodIn wsL_law ([.fieldLink RX9 135 "CensusDeskModel" "fails" "I", .fieldLink RX9 50 "CensusDeskModel" "failKind" "[I", .fieldLink RX9 53 "CensusDeskModel" "failPlace" "[I", .fieldLink RX9 56 "CensusDeskModel" "failCause" "[I", .fieldLink RX9 59 "CensusDeskModel" "failFirst" "[I", .fieldLink RX9 62 "CensusDeskModel" "failWay" "[I"] : List Cond) := goodIn_r _ [495, 121, 122, 123, 124, 125] (by decide +kernel) (by decide +kernel)
set_option maxRecDepth 20000 in
theorem ggL_law_X9_failure_2 : GoodIn wsL_law wsX90 := goodIn_r _ [800, 801, 802, 803, 804, 805, 806, 807, 808, 809, 810, 811, 812, 813, 814, 815, 816, 817, 818, 819, 820, 821, 822, 823, 824, 825, 826, 827, 828, 829, 830, 831, 832, 833, 834, 835, 836, 837, 838, 839, 840, 841, 842, 843, 844, 845, 846, 847, 848, 849, 850, 851, 852, 853, 854, 855, 856, 857, 858, 859, 860, 861, 862, 863, 864, 865, 866, 867, 868] (by decide +kernel) (by decide +kernel)
set_option maxRecDepth 20000 in
theorem ggL_law_X9_failure_0 : GoodIn wsL_law [.code yX9_failure cX9_failure 3 (some .int)] := goodIn_r _ [666] (by decide +kernel) (by decide +kernel)
theorem ggL_law_X9_failure : GoodIn wsL_law wsX9_failure := goodIn_k ggL_law_X9_failure_0 (goodIn_app ggL_law_X9_failure_1 ggL_law_X9_failure_2)
set_option maxRecDepth 20000 in
theorem gL_law_X9_failure : GoodIn wsL_law (wsV RL 49 RX9 yX9_failure wsX9_failure) := goodIn_app (goodIn_of _ (by decide +kernel)) ggL_law_X9_failure
set_option maxRecDepth 20000 in
theorem ggL_law_X8_many : GoodIn wsL_law wsX8_many := goodIn_r _ [670, 19, 23, 671, 672, 673, 18, 674, 252, 675, 676, 677, 22, 678, 53, 790, 791, 792, 793, 794, 795, 796, 797, 798, 799, 873, 874, 875, 876, 877] (by decide +kernel) (by decide +kernel)
set_option maxRecDepth 20000 in
theorem gL_law_X8_many : GoodIn wsL_law (wsV RL 50 RX8 yX8_many wsX8_many) := goodIn_app (goodIn_of _ (by decide +kernel)) ggL_law_X8_many
set_option maxRecDepth 20000 in
theorem ggL_law_X9_many_1 : GoodIn wsL_law ([.fieldLink RX9 65 "CensusDeskModel" "many" "[I", .methodLink RX9 131 yX9_groupOf, .static yX9_groupOf, .initialized RX9, .code yX9_groupOf cX9_groupOf 1 (some .int)] : List Cond) := goodIn_r _ [126, 525, 526, 5, 527] (by decide +kernel) (by decide +kernel)
set_option maxRecDepth 20000 in
theorem ggL_law_X9_many_2 : GoodIn wsL_law wsX90 := goodIn_r _ [800, 801, 802, 803, 804, 805, 806, 807, 808, 809, 810, 811, 812, 813, 814, 815, 816, 817, 818, 819, 820, 821, 822, 823, 824, 825, 826, 827, 828, 829, 830, 831, 832, 833, 834, 835, 836, 837, 838, 839, 840, 841, 842, 843, 844, 845, 846, 847, 848, 849, 850, 851, 852, 853, 854, 855, 856, 857, 858, 859, 860, 861, 862, 863, 864, 865, 866, 867, 868] (by decide +kernel) (by decide +kernel)
set_option maxRecDepth 20000 in
theorem ggL_law_X9_many_0 : GoodIn wsL_law [.code yX9_many cX9_many 6 (some .int)] := goodIn_r _ [682] (by decide +kernel) (by decide +kernel)
theorem ggL_law_X9_many : GoodIn wsL_law wsX9_many := goodIn_k ggL_law_X9_many_0 (goodIn_app ggL_law_X9_many_1 ggL_law_X9_many_2)
set_option maxRecDepth 20000 in
theorem gL_law_X9_many : GoodIn wsL_law (wsV RL 53 RX9 yX9_many wsX9_many) := goodIn_app (goodIn_of _ (by decide +kernel)) ggL_law_X9_many
set_option maxRecDepth 20000 in
theorem ggL_law_X8_depth : GoodIn wsL_law wsX8_depth := goodIn_r _ [686, 23, 687, 688, 689, 22, 690, 52, 659, 660, 661, 662, 198, 790, 791, 792, 793, 794, 795, 796, 797, 798, 799, 873, 874, 875, 876, 877] (by decide +kernel) (by decide +kernel)
set_option maxRecDepth 20000 in
theorem gL_law_X8_depth : GoodIn wsL_law (wsV RL 54 RX8 yX8_depth wsX8_depth) := goodIn_app (goodIn_of _ (by decide +kernel)) ggL_law_X8_depth
set_option maxRecDepth 20000 in
theorem ggL_law_X9_depth_1 : GoodIn wsL_law ([.fieldLink RX9 135 "CensusDeskModel" "fails" "I", .fieldLink RX9 56 "CensusDeskModel" "failCause" "[I"] : List Cond) := goodIn_r _ [495, 123] (by decide +kernel) (by decide +kernel)
set_option maxRecDepth 20000 in
theorem ggL_law_X9_depth_2 : GoodIn wsL_law wsX90 := goodIn_r _ [800, 801, 802, 803, 804, 805, 806, 807, 808, 809, 810, 811, 812, 813, 814, 815, 816, 817, 818, 819, 820, 821, 822, 823, 824, 825, 826, 827, 828, 829, 830, 831, 832, 833, 834, 835, 836, 837, 838, 839, 840, 841, 842, 843, 844, 845, 846, 847, 848, 849, 850, 851, 852, 853, 854, 855, 856, 857, 858, 859, 860, 861, 862, 863, 864, 865, 866, 867, 868] (by decide +kernel) (by decide +kernel)
set_option maxRecDepth 20000 in
theorem ggL_law_X9_depth_0 : GoodIn wsL_law [.code yX9_depth cX9_depth 4 (some .int)] := goodIn_r _ [694] (by decide +kernel) (by decide +kernel)
theorem ggL_law_X9_depth : GoodIn wsL_law wsX9_depth := goodIn_k ggL_law_X9_depth_0 (goodIn_app ggL_law_X9_depth_1 ggL_law_X9_depth_2)
set_option maxRecDepth 20000 in
theorem gL_law_X9_depth : GoodIn wsL_law (wsV RL 57 RX9 yX9_depth wsX9_depth) := goodIn_app (goodIn_of _ (by decide +kernel)) ggL_law_X9_depth
set_option maxRecDepth 20000 in
theorem ggL_law_X8_sheet : GoodIn wsL_law wsX8_sheet := goodIn_r _ [698, 31, 790, 791, 792, 793, 794, 795, 796, 797, 798, 799, 888, 889, 890, 891, 892, 893, 894, 895, 896, 897, 898, 899, 900, 901, 902, 903, 904, 905, 906] (by decide +kernel) (by decide +kernel)
set_option maxRecDepth 20000 in
theorem gL_law_X8_sheet : GoodIn wsL_law (wsV RL 58 RX8 yX8_sheet wsX8_sheet) := goodIn_app (goodIn_of _ (by decide +kernel)) ggL_law_X8_sheet
set_option maxRecDepth 20000 in
theorem ggL_law_X9_sheet_1 : GoodIn wsL_law ([.fieldLink RX9 274 "CensusDeskModel" "lines" "I", .fieldLink RX9 234 "CensusDeskModel" "houses" "I", .fieldLink RX9 161 "CensusDeskModel" "lost" "I", .fieldLink RX9 261 "CensusDeskModel" "place" "I", .methodLink RX9 301 yX9_takenPersons, .instanceMethod yX9_takenPersons, .selects RX9 yX9_takenPersons yX9_takenPersons, .initialized RX9, .code yX9_takenPersons cX9_takenPersons 3 (some .int), .fieldLink RX9 29 "CensusDeskModel" "houseMany" "[I"] : List Cond) := goodIn_r _ [488, 492, 489, 485, 551, 552, 553, 5, 554, 114] (by decide +kernel) (by decide +kernel)
set_option maxRecDepth 20000 in
theorem ggL_law_X9_sheet_2 : GoodIn wsL_law wsX90 := goodIn_r _ [800, 801, 802, 803, 804, 805, 806, 807, 808, 809, 810, 811, 812, 813, 814, 815, 816, 817, 818, 819, 820, 821, 822, 823, 824, 825, 826, 827, 828, 829, 830, 831, 832, 833, 834, 835, 836, 837, 838, 839, 840, 841, 842, 843, 844, 845, 846, 847, 848, 849, 850, 851, 852, 853, 854, 855, 856, 857, 858, 859, 860, 861, 862, 863, 864, 865, 866, 867, 868] (by decide +kernel) (by decide +kernel)
set_option maxRecDepth 20000 in
theorem ggL_law_X9_sheet_0 : GoodIn wsL_law [.code yX9_sheet cX9_sheet 2 (some .int)] := goodIn_r _ [702] (by decide +kernel) (by decide +kernel)
theorem ggL_law_X9_sheet : GoodIn wsL_law wsX9_sheet := goodIn_k ggL_law_X9_sheet_0 (goodIn_app ggL_law_X9_sheet_1 ggL_law_X9_sheet_2)
set_option maxRecDepth 20000 in
theorem gL_law_X9_sheet : GoodIn wsL_law (wsV RL 61 RX9 yX9_sheet wsX9_sheet) := goodIn_app (goodIn_of _ (by decide +kernel)) ggL_law_X9_sheet
set_option maxRecDepth 20000 in
theorem ggL_law_X8_sum : GoodIn wsL_law wsX8_sum := goodIn_r _ [706, 27, 467, 465, 466, 790, 791, 792, 793, 794, 795, 796, 797, 798, 799, 878, 879, 880, 881, 882, 883, 884, 885, 886, 887] (by decide +kernel) (by decide +kernel)
set_option maxRecDepth 20000 in
theorem gL_law_X8_sum : GoodIn wsL_law (wsV RL 62 RX8 yX8_sum wsX8_sum) := goodIn_app (goodIn_of _ (by decide +kernel)) ggL_law_X8_sum
set_option maxRecDepth 20000 in
theorem ggL_law_X9_sum_1 : GoodIn wsL_law ([.fieldLink RX9 295 "CensusDeskModel" "booked" "I", .fieldLink RX9 298 "CensusDeskModel" "bookedPersons" "I", .fieldLink RX9 310 "CensusDeskModel" "sheetsBooked" "I", .fieldLink RX9 292 "CensusDeskModel" "sheetsRejected" "I", .fieldLink RX9 304 "CensusDeskModel" "sheetsWithoutRoom" "I", .fieldLink RX9 98 "CensusDeskModel" "bSex" "[I", .fieldLink RX9 101 "CensusDeskModel" "bAge" "[I"] : List Cond) := goodIn_r _ [547, 548, 550, 542, 549, 137, 138] (by decide +kernel) (by decide +kernel)
set_option maxRecDepth 20000 in
theorem ggL_law_X9_sum_2 : GoodIn wsL_law wsX90 := goodIn_r _ [800, 801, 802, 803, 804, 805, 806, 807, 808, 809, 810, 811, 812, 813, 814, 815, 816, 817, 818, 819, 820, 821, 822, 823, 824, 825, 826, 827, 828, 829, 830, 831, 832, 833, 834, 835, 836, 837, 838, 839, 840, 841, 842, 843, 844, 845, 846, 847, 848, 849, 850, 851, 852, 853, 854, 855, 856, 857, 858, 859, 860, 861, 862, 863, 864, 865, 866, 867, 868] (by decide +kernel) (by decide +kernel)
set_option maxRecDepth 20000 in
theorem ggL_law_X9_sum_0 : GoodIn wsL_law [.code yX9_sum cX9_sum 4 (some .int)] := goodIn_r _ [710] (by decide +kernel) (by decide +kernel)
theorem ggL_law_X9_sum : GoodIn wsL_law wsX9_sum := goodIn_k ggL_law_X9_sum_0 (goodIn_app ggL_law_X9_sum_1 ggL_law_X9_sum_2)
set_option maxRecDepth 20000 in
theorem gL_law_X9_sum : GoodIn wsL_law (wsV RL 65 RX9 yX9_sum wsX9_sum) := goodIn_app (goodIn_of _ (by decide +kernel)) ggL_law_X9_sum
set_option maxRecDepth 20000 in
theorem ggL_law_X8_house : GoodIn wsL_law wsX8_house := goodIn_r _ [714, 27, 715, 716, 717, 26, 718, 282, 60, 790, 791, 792, 793, 794, 795, 796, 797, 798, 799, 878, 879, 880, 881, 882, 883, 884, 885, 886, 887] (by decide +kernel) (by decide +kernel)
set_option maxRecDepth 20000 in
theorem gL_law_X8_house : GoodIn wsL_law (wsV RL 66 RX8 yX8_house wsX8_house) := goodIn_app (goodIn_of _ (by decide +kernel)) ggL_law_X8_house
set_option maxRecDepth 20000 in
theorem ggL_law_X9_house_1 : GoodIn wsL_law ([.fieldLink RX9 295 "CensusDeskModel" "booked" "I", .fieldLink RX9 83 "CensusDeskModel" "bNumber" "[I", .fieldLink RX9 86 "CensusDeskModel" "bTold" "[I", .fieldLink RX9 89 "CensusDeskModel" "bMany" "[I", .fieldLink RX9 92 "CensusDeskModel" "bFirst" "[I", .fieldLink RX9 95 "CensusDeskModel" "bSheet" "[I"] : List Cond) := goodIn_r _ [547, 132, 133, 134, 135, 136] (by decide +kernel) (by decide +kernel)
set_option maxRecDepth 20000 in
theorem ggL_law_X9_house_2 : GoodIn wsL_law wsX90 := goodIn_r _ [800, 801, 802, 803, 804, 805, 806, 807, 808, 809, 810, 811, 812, 813, 814, 815, 816, 817, 818, 819, 820, 821, 822, 823, 824, 825, 826, 827, 828, 829, 830, 831, 832, 833, 834, 835, 836, 837, 838, 839, 840, 841, 842, 843, 844, 845, 846, 847, 848, 849, 850, 851, 852, 853, 854, 855, 856, 857, 858, 859, 860, 861, 862, 863, 864, 865, 866, 867, 868] (by decide +kernel) (by decide +kernel)
set_option maxRecDepth 20000 in
theorem ggL_law_X9_house_0 : GoodIn wsL_law [.code yX9_house cX9_house 3 (some .int)] := goodIn_r _ [722] (by decide +kernel) (by decide +kernel)
theorem ggL_law_X9_house : GoodIn wsL_law wsX9_house := goodIn_k ggL_law_X9_house_0 (goodIn_app ggL_law_X9_house_1 ggL_law_X9_house_2)
set_option maxRecDepth 20000 in
theorem gL_law_X9_house : GoodIn wsL_law (wsV RL 69 RX9 yX9_house wsX9_house) := goodIn_app (goodIn_of _ (by decide +kernel)) ggL_law_X9_house
set_option maxRecDepth 20000 in
theorem ggL_law_X8_person : GoodIn wsL_law wsX8_person := goodIn_r _ [726, 27, 727, 728, 729, 26, 730, 283, 61, 790, 791, 792, 793, 794, 795, 796, 797, 798, 799, 878, 879, 880, 881, 882, 883, 884, 885, 886, 887] (by decide +kernel) (by decide +kernel)
set_option maxRecDepth 20000 in
theorem gL_law_X8_person : GoodIn wsL_law (wsV RL 70 RX8 yX8_person wsX8_person) := goodIn_app (goodIn_of _ (by decide +kernel)) ggL_law_X8_person
set_option maxRecDepth 20000 in
theorem ggL_law_X9_person_1 : GoodIn wsL_law ([.fieldLink RX9 298 "CensusDeskModel" "bookedPersons" "I", .fieldLink RX9 98 "CensusDeskModel" "bSex" "[I", .fieldLink RX9 101 "CensusDeskModel" "bAge" "[I", .fieldLink RX9 104 "CensusDeskModel" "bTrade" "[I", .fieldLink RX9 107 "CensusDeskModel" "bSize" "[I", .fieldLink RX9 110 "CensusDeskModel" "bHouse" "[I"] : List Cond) := goodIn_r _ [548, 137, 138, 139, 140, 141] (by decide +kernel) (by decide +kernel)
set_option maxRecDepth 20000 in
theorem ggL_law_X9_person_2 : GoodIn wsL_law wsX90 := goodIn_r _ [800, 801, 802, 803, 804, 805, 806, 807, 808, 809, 810, 811, 812, 813, 814, 815, 816, 817, 818, 819, 820, 821, 822, 823, 824, 825, 826, 827, 828, 829, 830, 831, 832, 833, 834, 835, 836, 837, 838, 839, 840, 841, 842, 843, 844, 845, 846, 847, 848, 849, 850, 851, 852, 853, 854, 855, 856, 857, 858, 859, 860, 861, 862, 863, 864, 865, 866, 867, 868] (by decide +kernel) (by decide +kernel)
set_option maxRecDepth 20000 in
theorem ggL_law_X9_person_0 : GoodIn wsL_law [.code yX9_person cX9_person 3 (some .int)] := goodIn_r _ [734] (by decide +kernel) (by decide +kernel)
theorem ggL_law_X9_person : GoodIn wsL_law wsX9_person := goodIn_k ggL_law_X9_person_0 (goodIn_app ggL_law_X9_person_1 ggL_law_X9_person_2)
set_option maxRecDepth 20000 in
theorem gL_law_X9_person : GoodIn wsL_law (wsV RL 73 RX9 yX9_person wsX9_person) := goodIn_app (goodIn_of _ (by decide +kernel)) ggL_law_X9_person
set_option maxRecDepth 20000 in
theorem ggL_law_X8_sign : GoodIn wsL_law wsX8_sign := goodIn_r _ [738, 27, 739, 740, 741, 26, 742, 62, 743, 728, 729, 730, 283, 61, 790, 791, 792, 793, 794, 795, 796, 797, 798, 799, 878, 879, 880, 881, 882, 883, 884, 885, 886, 887] (by decide +kernel) (by decide +kernel)
set_option maxRecDepth 20000 in
theorem gL_law_X8_sign : GoodIn wsL_law (wsV RL 74 RX8 yX8_sign wsX8_sign) := goodIn_app (goodIn_of _ (by decide +kernel)) ggL_law_X8_sign
set_option maxRecDepth 20000 in
theorem ggL_law_X9_sign_1 : GoodIn wsL_law ([.fieldLink RX9 298 "CensusDeskModel" "bookedPersons" "I", .fieldLink RX9 107 "CensusDeskModel" "bSize" "[I", .fieldLink RX9 113 "CensusDeskModel" "bName" "[B"] : List Cond) := goodIn_r _ [548, 140, 142] (by decide +kernel) (by decide +kernel)
set_option maxRecDepth 20000 in
theorem ggL_law_X9_sign_2 : GoodIn wsL_law wsX90 := goodIn_r _ [800, 801, 802, 803, 804, 805, 806, 807, 808, 809, 810, 811, 812, 813, 814, 815, 816, 817, 818, 819, 820, 821, 822, 823, 824, 825, 826, 827, 828, 829, 830, 831, 832, 833, 834, 835, 836, 837, 838, 839, 840, 841, 842, 843, 844, 845, 846, 847, 848, 849, 850, 851, 852, 853, 854, 855, 856, 857, 858, 859, 860, 861, 862, 863, 864, 865, 866, 867, 868] (by decide +kernel) (by decide +kernel)
set_option maxRecDepth 20000 in
theorem ggL_law_X9_sign_0 : GoodIn wsL_law [.code yX9_sign cX9_sign 3 (some .int)] := goodIn_r _ [747] (by decide +kernel) (by decide +kernel)
theorem ggL_law_X9_sign : GoodIn wsL_law wsX9_sign := goodIn_k ggL_law_X9_sign_0 (goodIn_app ggL_law_X9_sign_1 ggL_law_X9_sign_2)
set_option maxRecDepth 20000 in
theorem gL_law_X9_sign : GoodIn wsL_law (wsV RL 77 RX9 yX9_sign wsX9_sign) := goodIn_app (goodIn_of _ (by decide +kernel)) ggL_law_X9_sign
set_option maxRecDepth 20000 in
theorem ggL_law_X8_named : GoodIn wsL_law wsX8_named := goodIn_r _ [751, 27, 752, 753, 754, 26, 755, 283, 756, 757, 758, 759, 63, 760, 761, 762, 763, 743, 728, 729, 730, 61, 764, 765, 766, 767, 768, 740, 741, 742, 62, 790, 791, 792, 793, 794, 795, 796, 797, 798, 799, 878, 879, 880, 881, 882, 883, 884, 885, 886, 887] (by decide +kernel) (by decide +kernel)
set_option maxRecDepth 20000 in
theorem gL_law_X8_named : GoodIn wsL_law (wsV RL 78 RX8 yX8_named wsX8_named) := goodIn_app (goodIn_of _ (by decide +kernel)) ggL_law_X8_named
set_option maxRecDepth 20000 in
theorem ggL_law_X9_named_1 : GoodIn wsL_law ([.fieldLink RX9 298 "CensusDeskModel" "bookedPersons" "I", .fieldLink RX9 107 "CensusDeskModel" "bSize" "[I", .fieldLink RX9 113 "CensusDeskModel" "bName" "[B", .methodLink RX9 316 yX9_byteOf, .static yX9_byteOf, .initialized RX9, .code yX9_byteOf cX9_byteOf 6 (some .int)] : List Cond) := goodIn_r _ [548, 140, 142, 773, 774, 5, 775] (by decide +kernel) (by decide +kernel)
set_option maxRecDepth 20000 in
theorem ggL_law_X9_named_2 : GoodIn wsL_law wsX90 := goodIn_r _ [800, 801, 802, 803, 804, 805, 806, 807, 808, 809, 810, 811, 812, 813, 814, 815, 816, 817, 818, 819, 820, 821, 822, 823, 824, 825, 826, 827, 828, 829, 830, 831, 832, 833, 834, 835, 836, 837, 838, 839, 840, 841, 842, 843, 844, 845, 846, 847, 848, 849, 850, 851, 852, 853, 854, 855, 856, 857, 858, 859, 860, 861, 862, 863, 864, 865, 866, 867, 868] (by decide +kernel) (by decide +kernel)
set_option maxRecDepth 20000 in
theorem ggL_law_X9_named_0 : GoodIn wsL_law [.code yX9_named cX9_named 10 (some .int)] := goodIn_r _ [772] (by decide +kernel) (by decide +kernel)
theorem ggL_law_X9_named : GoodIn wsL_law wsX9_named := goodIn_k ggL_law_X9_named_0 (goodIn_app ggL_law_X9_named_1 ggL_law_X9_named_2)
set_option maxRecDepth 20000 in
theorem gL_law_X9_named : GoodIn wsL_law (wsV RL 82 RX9 yX9_named wsX9_named) := goodIn_app (goodIn_of _ (by decide +kernel)) ggL_law_X9_named
set_option maxRecDepth 20000 in
theorem ggL_law_X8_audit : GoodIn wsL_law wsX8_audit := goodIn_r _ [779, 27, 467, 465, 466, 147, 193, 780, 781, 782, 26, 783, 282, 283, 476, 477, 479, 784, 716, 717, 718, 60, 743, 728, 729, 730, 61, 790, 791, 792, 793, 794, 795, 796, 797, 798, 799, 878, 879, 880, 881, 882, 883, 884, 885, 886, 887] (by decide +kernel) (by decide +kernel)
set_option maxRecDepth 20000 in
theorem gL_law_X8_audit : GoodIn wsL_law (wsV RL 83 RX8 yX8_audit wsX8_audit) := goodIn_app (goodIn_of _ (by decide +kernel)) ggL_law_X8_audit
set_option maxRecDepth 20000 in
theorem ggL_law_X9_audit_1 : GoodIn wsL_law ([.fieldLink RX9 295 "CensusDeskModel" "booked" "I", .fieldLink RX9 89 "CensusDeskModel" "bMany" "[I", .fieldLink RX9 298 "CensusDeskModel" "bookedPersons" "I", .fieldLink RX9 98 "CensusDeskModel" "bSex" "[I", .fieldLink RX9 101 "CensusDeskModel" "bAge" "[I", .fieldLink RX9 307 "CensusDeskModel" "sheets" "I", .fieldLink RX9 310 "CensusDeskModel" "sheetsBooked" "I", .fieldLink RX9 292 "CensusDeskModel" "sheetsRejected" "I", .fieldLink RX9 304 "CensusDeskModel" "sheetsWithoutRoom" "I", .fieldLink RX9 120 "CensusDeskModel" "isHeld" "Z", .methodLink RX9 320 yX9_sum, .instanceMethod yX9_sum, .selects RX9 yX9_sum yX9_sum, .initialized RX9, .code yX9_sum cX9_sum 4 (some .int)] : List Cond) := goodIn_r _ [547, 134, 548, 137, 138, 484, 550, 542, 549, 162, 789, 708, 709, 5, 710] (by decide +kernel) (by decide +kernel)
set_option maxRecDepth 20000 in
theorem ggL_law_X9_audit_2 : GoodIn wsL_law wsX90 := goodIn_r _ [800, 801, 802, 803, 804, 805, 806, 807, 808, 809, 810, 811, 812, 813, 814, 815, 816, 817, 818, 819, 820, 821, 822, 823, 824, 825, 826, 827, 828, 829, 830, 831, 832, 833, 834, 835, 836, 837, 838, 839, 840, 841, 842, 843, 844, 845, 846, 847, 848, 849, 850, 851, 852, 853, 854, 855, 856, 857, 858, 859, 860, 861, 862, 863, 864, 865, 866, 867, 868] (by decide +kernel) (by decide +kernel)
set_option maxRecDepth 20000 in
theorem ggL_law_X9_audit_0 : GoodIn wsL_law [.code yX9_audit cX9_audit 5 (some .int)] := goodIn_r _ [788] (by decide +kernel) (by decide +kernel)
theorem ggL_law_X9_audit : GoodIn wsL_law wsX9_audit := goodIn_k ggL_law_X9_audit_0 (goodIn_app ggL_law_X9_audit_1 ggL_law_X9_audit_2)
set_option maxRecDepth 20000 in
theorem gL_law_X9_audit : GoodIn wsL_law (wsV RL 86 RX9 yX9_audit wsX9_audit) := goodIn_app (goodIn_of _ (by decide +kernel)) ggL_law_X9_audit
theorem dL_law_0 : decode cL_law 0 = .ok (.new 7, 3) := by decide +kernel
theorem dL_law_3 : decode cL_law 3 = .ok (.dup, 1) := by decide +kernel
theorem dL_law_4 : decode cL_law 4 = .ok (.invokespecial 9, 3) := by decide +kernel
theorem dL_law_7 : decode cL_law 7 = .ok (.astore_n 1, 1) := by decide +kernel
theorem dL_law_8 : decode cL_law 8 = .ok (.new 10, 3) := by decide +kernel
theorem dL_law_11 : decode cL_law 11 = .ok (.dup, 1) := by decide +kernel
theorem dL_law_12 : decode cL_law 12 = .ok (.invokespecial 12, 3) := by decide +kernel
theorem dL_law_15 : decode cL_law 15 = .ok (.astore_n 2, 1) := by decide +kernel
theorem dL_law_16 : decode cL_law 16 = .ok (.iconst 0, 1) := by decide +kernel
theorem dL_law_17 : decode cL_law 17 = .ok (.istore_n 3, 1) := by decide +kernel
theorem dL_law_18 : decode cL_law 18 = .ok (.iload_n 3, 1) := by decide +kernel
theorem dL_law_19 : decode cL_law 19 = .ok (.aload_n 0, 1) := by decide +kernel
theorem dL_law_20 : decode cL_law 20 = .ok (.arraylength, 1) := by decide +kernel
theorem dL_law_21 : decode cL_law 21 = .ok (.bipush 6, 2) := by decide +kernel
theorem dL_law_23 : decode cL_law 23 = .ok (.isub, 1) := by decide +kernel
theorem dL_law_24 : decode cL_law 24 = .ok (.if_icmp .gt 569, 3) := by decide +kernel
theorem dL_law_27 : decode cL_law 27 = .ok (.aload_n 0, 1) := by decide +kernel
theorem dL_law_28 : decode cL_law 28 = .ok (.iload_n 3, 1) := by decide +kernel
theorem dL_law_29 : decode cL_law 29 = .ok (.iaload, 1) := by decide +kernel
theorem dL_law_30 : decode cL_law 30 = .ok (.bipush 31, 2) := by decide +kernel
theorem dL_law_32 : decode cL_law 32 = .ok (.iand, 1) := by decide +kernel
theorem dL_law_33 : decode cL_law 33 = .ok (.tableswitch 554 0 16 #[83, 146, 169, 212, 225, 238, 251, 264, 297, 320, 343, 366, 389, 422, 455, 488, 541], 83) := by decide +kernel
theorem dL_law_116 : decode cL_law 116 = .ok (.aload_n 1, 1) := by decide +kernel
theorem dL_law_117 : decode cL_law 117 = .ok (.aload_n 0, 1) := by decide +kernel
theorem dL_law_118 : decode cL_law 118 = .ok (.iload_n 3, 1) := by decide +kernel
theorem dL_law_119 : decode cL_law 119 = .ok (.iconst 1, 1) := by decide +kernel
theorem dL_law_120 : decode cL_law 120 = .ok (.iadd, 1) := by decide +kernel
theorem dL_law_121 : decode cL_law 121 = .ok (.iaload, 1) := by decide +kernel
theorem dL_law_122 : decode cL_law 122 = .ok (.aload_n 0, 1) := by decide +kernel
theorem dL_law_123 : decode cL_law 123 = .ok (.iload_n 3, 1) := by decide +kernel
theorem dL_law_124 : decode cL_law 124 = .ok (.iconst 2, 1) := by decide +kernel
theorem dL_law_125 : decode cL_law 125 = .ok (.iadd, 1) := by decide +kernel
theorem dL_law_126 : decode cL_law 126 = .ok (.iaload, 1) := by decide +kernel
theorem dL_law_127 : decode cL_law 127 = .ok (.aload_n 0, 1) := by decide +kernel
theorem dL_law_128 : decode cL_law 128 = .ok (.iload_n 3, 1) := by decide +kernel
theorem dL_law_129 : decode cL_law 129 = .ok (.iconst 3, 1) := by decide +kernel
theorem dL_law_130 : decode cL_law 130 = .ok (.iadd, 1) := by decide +kernel
theorem dL_law_131 : decode cL_law 131 = .ok (.iaload, 1) := by decide +kernel
theorem dL_law_132 : decode cL_law 132 = .ok (.aload_n 0, 1) := by decide +kernel
theorem dL_law_133 : decode cL_law 133 = .ok (.iload_n 3, 1) := by decide +kernel
theorem dL_law_134 : decode cL_law 134 = .ok (.iconst 4, 1) := by decide +kernel
theorem dL_law_135 : decode cL_law 135 = .ok (.iadd, 1) := by decide +kernel
theorem dL_law_136 : decode cL_law 136 = .ok (.iaload, 1) := by decide +kernel
theorem dL_law_137 : decode cL_law 137 = .ok (.aload_n 0, 1) := by decide +kernel
theorem dL_law_138 : decode cL_law 138 = .ok (.iload_n 3, 1) := by decide +kernel
theorem dL_law_139 : decode cL_law 139 = .ok (.iconst 5, 1) := by decide +kernel
theorem dL_law_140 : decode cL_law 140 = .ok (.iadd, 1) := by decide +kernel
theorem dL_law_141 : decode cL_law 141 = .ok (.iaload, 1) := by decide +kernel
theorem dL_law_142 : decode cL_law 142 = .ok (.invokevirtual 13, 3) := by decide +kernel
theorem dL_law_145 : decode cL_law 145 = .ok (.pop, 1) := by decide +kernel
theorem dL_law_146 : decode cL_law 146 = .ok (.aload_n 2, 1) := by decide +kernel
theorem dL_law_147 : decode cL_law 147 = .ok (.aload_n 0, 1) := by decide +kernel
theorem dL_law_148 : decode cL_law 148 = .ok (.iload_n 3, 1) := by decide +kernel
theorem dL_law_149 : decode cL_law 149 = .ok (.iconst 1, 1) := by decide +kernel
theorem dL_law_150 : decode cL_law 150 = .ok (.iadd, 1) := by decide +kernel
theorem dL_law_151 : decode cL_law 151 = .ok (.iaload, 1) := by decide +kernel
theorem dL_law_152 : decode cL_law 152 = .ok (.aload_n 0, 1) := by decide +kernel
theorem dL_law_153 : decode cL_law 153 = .ok (.iload_n 3, 1) := by decide +kernel
theorem dL_law_154 : decode cL_law 154 = .ok (.iconst 2, 1) := by decide +kernel
theorem dL_law_155 : decode cL_law 155 = .ok (.iadd, 1) := by decide +kernel
theorem dL_law_156 : decode cL_law 156 = .ok (.iaload, 1) := by decide +kernel
theorem dL_law_157 : decode cL_law 157 = .ok (.aload_n 0, 1) := by decide +kernel
theorem dL_law_158 : decode cL_law 158 = .ok (.iload_n 3, 1) := by decide +kernel
theorem dL_law_159 : decode cL_law 159 = .ok (.iconst 3, 1) := by decide +kernel
theorem dL_law_160 : decode cL_law 160 = .ok (.iadd, 1) := by decide +kernel
theorem dL_law_161 : decode cL_law 161 = .ok (.iaload, 1) := by decide +kernel
theorem dL_law_162 : decode cL_law 162 = .ok (.aload_n 0, 1) := by decide +kernel
theorem dL_law_163 : decode cL_law 163 = .ok (.iload_n 3, 1) := by decide +kernel
theorem dL_law_164 : decode cL_law 164 = .ok (.iconst 4, 1) := by decide +kernel
theorem dL_law_165 : decode cL_law 165 = .ok (.iadd, 1) := by decide +kernel
theorem dL_law_166 : decode cL_law 166 = .ok (.iaload, 1) := by decide +kernel
theorem dL_law_167 : decode cL_law 167 = .ok (.aload_n 0, 1) := by decide +kernel
theorem dL_law_168 : decode cL_law 168 = .ok (.iload_n 3, 1) := by decide +kernel
theorem dL_law_169 : decode cL_law 169 = .ok (.iconst 5, 1) := by decide +kernel
theorem dL_law_170 : decode cL_law 170 = .ok (.iadd, 1) := by decide +kernel
theorem dL_law_171 : decode cL_law 171 = .ok (.iaload, 1) := by decide +kernel
theorem dL_law_172 : decode cL_law 172 = .ok (.invokevirtual 17, 3) := by decide +kernel
theorem dL_law_175 : decode cL_law 175 = .ok (.pop, 1) := by decide +kernel
theorem dL_law_176 : decode cL_law 176 = .ok (.goto 411, 3) := by decide +kernel
theorem dL_law_179 : decode cL_law 179 = .ok (.aload_n 1, 1) := by decide +kernel
theorem dL_law_180 : decode cL_law 180 = .ok (.aload_n 0, 1) := by decide +kernel
theorem dL_law_181 : decode cL_law 181 = .ok (.iload_n 3, 1) := by decide +kernel
theorem dL_law_182 : decode cL_law 182 = .ok (.iconst 1, 1) := by decide +kernel
theorem dL_law_183 : decode cL_law 183 = .ok (.iadd, 1) := by decide +kernel
theorem dL_law_184 : decode cL_law 184 = .ok (.iaload, 1) := by decide +kernel
theorem dL_law_185 : decode cL_law 185 = .ok (.invokevirtual 18, 3) := by decide +kernel
theorem dL_law_188 : decode cL_law 188 = .ok (.pop, 1) := by decide +kernel
theorem dL_law_189 : decode cL_law 189 = .ok (.aload_n 2, 1) := by decide +kernel
theorem dL_law_190 : decode cL_law 190 = .ok (.aload_n 0, 1) := by decide +kernel
theorem dL_law_191 : decode cL_law 191 = .ok (.iload_n 3, 1) := by decide +kernel
theorem dL_law_192 : decode cL_law 192 = .ok (.iconst 1, 1) := by decide +kernel
theorem dL_law_193 : decode cL_law 193 = .ok (.iadd, 1) := by decide +kernel
theorem dL_law_194 : decode cL_law 194 = .ok (.iaload, 1) := by decide +kernel
theorem dL_law_195 : decode cL_law 195 = .ok (.invokevirtual 22, 3) := by decide +kernel
theorem dL_law_198 : decode cL_law 198 = .ok (.pop, 1) := by decide +kernel
theorem dL_law_199 : decode cL_law 199 = .ok (.goto 388, 3) := by decide +kernel
theorem dL_law_202 : decode cL_law 202 = .ok (.aload_n 1, 1) := by decide +kernel
theorem dL_law_203 : decode cL_law 203 = .ok (.aload_n 0, 1) := by decide +kernel
theorem dL_law_204 : decode cL_law 204 = .ok (.iload_n 3, 1) := by decide +kernel
theorem dL_law_205 : decode cL_law 205 = .ok (.iconst 1, 1) := by decide +kernel
theorem dL_law_206 : decode cL_law 206 = .ok (.iadd, 1) := by decide +kernel
theorem dL_law_207 : decode cL_law 207 = .ok (.iaload, 1) := by decide +kernel
theorem dL_law_208 : decode cL_law 208 = .ok (.aload_n 0, 1) := by decide +kernel
theorem dL_law_209 : decode cL_law 209 = .ok (.iload_n 3, 1) := by decide +kernel
theorem dL_law_210 : decode cL_law 210 = .ok (.iconst 2, 1) := by decide +kernel
theorem dL_law_211 : decode cL_law 211 = .ok (.iadd, 1) := by decide +kernel
theorem dL_law_212 : decode cL_law 212 = .ok (.iaload, 1) := by decide +kernel
theorem dL_law_213 : decode cL_law 213 = .ok (.aload_n 0, 1) := by decide +kernel
theorem dL_law_214 : decode cL_law 214 = .ok (.iload_n 3, 1) := by decide +kernel
theorem dL_law_215 : decode cL_law 215 = .ok (.iconst 3, 1) := by decide +kernel
theorem dL_law_216 : decode cL_law 216 = .ok (.iadd, 1) := by decide +kernel
theorem dL_law_217 : decode cL_law 217 = .ok (.iaload, 1) := by decide +kernel
theorem dL_law_218 : decode cL_law 218 = .ok (.invokevirtual 23, 3) := by decide +kernel
theorem dL_law_221 : decode cL_law 221 = .ok (.pop, 1) := by decide +kernel
theorem dL_law_222 : decode cL_law 222 = .ok (.aload_n 2, 1) := by decide +kernel
theorem dL_law_223 : decode cL_law 223 = .ok (.aload_n 0, 1) := by decide +kernel
theorem dL_law_224 : decode cL_law 224 = .ok (.iload_n 3, 1) := by decide +kernel
theorem dL_law_225 : decode cL_law 225 = .ok (.iconst 1, 1) := by decide +kernel
theorem dL_law_226 : decode cL_law 226 = .ok (.iadd, 1) := by decide +kernel
theorem dL_law_227 : decode cL_law 227 = .ok (.iaload, 1) := by decide +kernel
theorem dL_law_228 : decode cL_law 228 = .ok (.aload_n 0, 1) := by decide +kernel
theorem dL_law_229 : decode cL_law 229 = .ok (.iload_n 3, 1) := by decide +kernel
theorem dL_law_230 : decode cL_law 230 = .ok (.iconst 2, 1) := by decide +kernel
theorem dL_law_231 : decode cL_law 231 = .ok (.iadd, 1) := by decide +kernel
theorem dL_law_232 : decode cL_law 232 = .ok (.iaload, 1) := by decide +kernel
theorem dL_law_233 : decode cL_law 233 = .ok (.aload_n 0, 1) := by decide +kernel
theorem dL_law_234 : decode cL_law 234 = .ok (.iload_n 3, 1) := by decide +kernel
theorem dL_law_235 : decode cL_law 235 = .ok (.iconst 3, 1) := by decide +kernel
theorem dL_law_236 : decode cL_law 236 = .ok (.iadd, 1) := by decide +kernel
theorem dL_law_237 : decode cL_law 237 = .ok (.iaload, 1) := by decide +kernel
theorem dL_law_238 : decode cL_law 238 = .ok (.invokevirtual 27, 3) := by decide +kernel
theorem dL_law_241 : decode cL_law 241 = .ok (.pop, 1) := by decide +kernel
theorem dL_law_242 : decode cL_law 242 = .ok (.goto 345, 3) := by decide +kernel
theorem dL_law_245 : decode cL_law 245 = .ok (.aload_n 1, 1) := by decide +kernel
theorem dL_law_246 : decode cL_law 246 = .ok (.invokevirtual 28, 3) := by decide +kernel
theorem dL_law_249 : decode cL_law 249 = .ok (.pop, 1) := by decide +kernel
theorem dL_law_250 : decode cL_law 250 = .ok (.aload_n 2, 1) := by decide +kernel
theorem dL_law_251 : decode cL_law 251 = .ok (.invokevirtual 32, 3) := by decide +kernel
theorem dL_law_254 : decode cL_law 254 = .ok (.pop, 1) := by decide +kernel
theorem dL_law_255 : decode cL_law 255 = .ok (.goto 332, 3) := by decide +kernel
theorem dL_law_258 : decode cL_law 258 = .ok (.aload_n 1, 1) := by decide +kernel
theorem dL_law_259 : decode cL_law 259 = .ok (.invokevirtual 33, 3) := by decide +kernel
theorem dL_law_262 : decode cL_law 262 = .ok (.pop, 1) := by decide +kernel
theorem dL_law_263 : decode cL_law 263 = .ok (.aload_n 2, 1) := by decide +kernel
theorem dL_law_264 : decode cL_law 264 = .ok (.invokevirtual 36, 3) := by decide +kernel
theorem dL_law_267 : decode cL_law 267 = .ok (.pop, 1) := by decide +kernel
theorem dL_law_268 : decode cL_law 268 = .ok (.goto 319, 3) := by decide +kernel
theorem dL_law_271 : decode cL_law 271 = .ok (.aload_n 1, 1) := by decide +kernel
theorem dL_law_272 : decode cL_law 272 = .ok (.invokevirtual 37, 3) := by decide +kernel
theorem dL_law_275 : decode cL_law 275 = .ok (.pop, 1) := by decide +kernel
theorem dL_law_276 : decode cL_law 276 = .ok (.aload_n 2, 1) := by decide +kernel
theorem dL_law_277 : decode cL_law 277 = .ok (.invokevirtual 40, 3) := by decide +kernel
theorem dL_law_280 : decode cL_law 280 = .ok (.pop, 1) := by decide +kernel
theorem dL_law_281 : decode cL_law 281 = .ok (.goto 306, 3) := by decide +kernel
theorem dL_law_284 : decode cL_law 284 = .ok (.aload_n 1, 1) := by decide +kernel
theorem dL_law_285 : decode cL_law 285 = .ok (.invokevirtual 41, 3) := by decide +kernel
theorem dL_law_288 : decode cL_law 288 = .ok (.pop, 1) := by decide +kernel
theorem dL_law_289 : decode cL_law 289 = .ok (.aload_n 2, 1) := by decide +kernel
theorem dL_law_290 : decode cL_law 290 = .ok (.invokevirtual 44, 3) := by decide +kernel
theorem dL_law_293 : decode cL_law 293 = .ok (.pop, 1) := by decide +kernel
theorem dL_law_294 : decode cL_law 294 = .ok (.goto 293, 3) := by decide +kernel
theorem dL_law_297 : decode cL_law 297 = .ok (.aload_n 1, 1) := by decide +kernel
theorem dL_law_298 : decode cL_law 298 = .ok (.aload_n 0, 1) := by decide +kernel
theorem dL_law_299 : decode cL_law 299 = .ok (.iload_n 3, 1) := by decide +kernel
theorem dL_law_300 : decode cL_law 300 = .ok (.iconst 1, 1) := by decide +kernel
theorem dL_law_301 : decode cL_law 301 = .ok (.iadd, 1) := by decide +kernel
theorem dL_law_302 : decode cL_law 302 = .ok (.iaload, 1) := by decide +kernel
theorem dL_law_303 : decode cL_law 303 = .ok (.aload_n 0, 1) := by decide +kernel
theorem dL_law_304 : decode cL_law 304 = .ok (.iload_n 3, 1) := by decide +kernel
theorem dL_law_305 : decode cL_law 305 = .ok (.iconst 2, 1) := by decide +kernel
theorem dL_law_306 : decode cL_law 306 = .ok (.iadd, 1) := by decide +kernel
theorem dL_law_307 : decode cL_law 307 = .ok (.iaload, 1) := by decide +kernel
theorem dL_law_308 : decode cL_law 308 = .ok (.invokevirtual 45, 3) := by decide +kernel
theorem dL_law_311 : decode cL_law 311 = .ok (.pop, 1) := by decide +kernel
theorem dL_law_312 : decode cL_law 312 = .ok (.aload_n 2, 1) := by decide +kernel
theorem dL_law_313 : decode cL_law 313 = .ok (.aload_n 0, 1) := by decide +kernel
theorem dL_law_314 : decode cL_law 314 = .ok (.iload_n 3, 1) := by decide +kernel
theorem dL_law_315 : decode cL_law 315 = .ok (.iconst 1, 1) := by decide +kernel
theorem dL_law_316 : decode cL_law 316 = .ok (.iadd, 1) := by decide +kernel
theorem dL_law_317 : decode cL_law 317 = .ok (.iaload, 1) := by decide +kernel
theorem dL_law_318 : decode cL_law 318 = .ok (.aload_n 0, 1) := by decide +kernel
theorem dL_law_319 : decode cL_law 319 = .ok (.iload_n 3, 1) := by decide +kernel
theorem dL_law_320 : decode cL_law 320 = .ok (.iconst 2, 1) := by decide +kernel
theorem dL_law_321 : decode cL_law 321 = .ok (.iadd, 1) := by decide +kernel
theorem dL_law_322 : decode cL_law 322 = .ok (.iaload, 1) := by decide +kernel
theorem dL_law_323 : decode cL_law 323 = .ok (.invokevirtual 49, 3) := by decide +kernel
theorem dL_law_326 : decode cL_law 326 = .ok (.pop, 1) := by decide +kernel
theorem dL_law_327 : decode cL_law 327 = .ok (.goto 260, 3) := by decide +kernel
theorem dL_law_330 : decode cL_law 330 = .ok (.aload_n 1, 1) := by decide +kernel
theorem dL_law_331 : decode cL_law 331 = .ok (.aload_n 0, 1) := by decide +kernel
theorem dL_law_332 : decode cL_law 332 = .ok (.iload_n 3, 1) := by decide +kernel
theorem dL_law_333 : decode cL_law 333 = .ok (.iconst 1, 1) := by decide +kernel
theorem dL_law_334 : decode cL_law 334 = .ok (.iadd, 1) := by decide +kernel
theorem dL_law_335 : decode cL_law 335 = .ok (.iaload, 1) := by decide +kernel
theorem dL_law_336 : decode cL_law 336 = .ok (.invokevirtual 50, 3) := by decide +kernel
theorem dL_law_339 : decode cL_law 339 = .ok (.pop, 1) := by decide +kernel
theorem dL_law_340 : decode cL_law 340 = .ok (.aload_n 2, 1) := by decide +kernel
theorem dL_law_341 : decode cL_law 341 = .ok (.aload_n 0, 1) := by decide +kernel
theorem dL_law_342 : decode cL_law 342 = .ok (.iload_n 3, 1) := by decide +kernel
theorem dL_law_343 : decode cL_law 343 = .ok (.iconst 1, 1) := by decide +kernel
theorem dL_law_344 : decode cL_law 344 = .ok (.iadd, 1) := by decide +kernel
theorem dL_law_345 : decode cL_law 345 = .ok (.iaload, 1) := by decide +kernel
theorem dL_law_346 : decode cL_law 346 = .ok (.invokevirtual 53, 3) := by decide +kernel
theorem dL_law_349 : decode cL_law 349 = .ok (.pop, 1) := by decide +kernel
theorem dL_law_350 : decode cL_law 350 = .ok (.goto 237, 3) := by decide +kernel
theorem dL_law_353 : decode cL_law 353 = .ok (.aload_n 1, 1) := by decide +kernel
theorem dL_law_354 : decode cL_law 354 = .ok (.aload_n 0, 1) := by decide +kernel
theorem dL_law_355 : decode cL_law 355 = .ok (.iload_n 3, 1) := by decide +kernel
theorem dL_law_356 : decode cL_law 356 = .ok (.iconst 1, 1) := by decide +kernel
theorem dL_law_357 : decode cL_law 357 = .ok (.iadd, 1) := by decide +kernel
theorem dL_law_358 : decode cL_law 358 = .ok (.iaload, 1) := by decide +kernel
theorem dL_law_359 : decode cL_law 359 = .ok (.invokevirtual 54, 3) := by decide +kernel
theorem dL_law_362 : decode cL_law 362 = .ok (.pop, 1) := by decide +kernel
theorem dL_law_363 : decode cL_law 363 = .ok (.aload_n 2, 1) := by decide +kernel
theorem dL_law_364 : decode cL_law 364 = .ok (.aload_n 0, 1) := by decide +kernel
theorem dL_law_365 : decode cL_law 365 = .ok (.iload_n 3, 1) := by decide +kernel
theorem dL_law_366 : decode cL_law 366 = .ok (.iconst 1, 1) := by decide +kernel
theorem dL_law_367 : decode cL_law 367 = .ok (.iadd, 1) := by decide +kernel
theorem dL_law_368 : decode cL_law 368 = .ok (.iaload, 1) := by decide +kernel
theorem dL_law_369 : decode cL_law 369 = .ok (.invokevirtual 57, 3) := by decide +kernel
theorem dL_law_372 : decode cL_law 372 = .ok (.pop, 1) := by decide +kernel
theorem dL_law_373 : decode cL_law 373 = .ok (.goto 214, 3) := by decide +kernel
theorem dL_law_376 : decode cL_law 376 = .ok (.aload_n 1, 1) := by decide +kernel
theorem dL_law_377 : decode cL_law 377 = .ok (.aload_n 0, 1) := by decide +kernel
theorem dL_law_378 : decode cL_law 378 = .ok (.iload_n 3, 1) := by decide +kernel
theorem dL_law_379 : decode cL_law 379 = .ok (.iconst 1, 1) := by decide +kernel
theorem dL_law_380 : decode cL_law 380 = .ok (.iadd, 1) := by decide +kernel
theorem dL_law_381 : decode cL_law 381 = .ok (.iaload, 1) := by decide +kernel
theorem dL_law_382 : decode cL_law 382 = .ok (.invokevirtual 58, 3) := by decide +kernel
theorem dL_law_385 : decode cL_law 385 = .ok (.pop, 1) := by decide +kernel
theorem dL_law_386 : decode cL_law 386 = .ok (.aload_n 2, 1) := by decide +kernel
theorem dL_law_387 : decode cL_law 387 = .ok (.aload_n 0, 1) := by decide +kernel
theorem dL_law_388 : decode cL_law 388 = .ok (.iload_n 3, 1) := by decide +kernel
theorem dL_law_389 : decode cL_law 389 = .ok (.iconst 1, 1) := by decide +kernel
theorem dL_law_390 : decode cL_law 390 = .ok (.iadd, 1) := by decide +kernel
theorem dL_law_391 : decode cL_law 391 = .ok (.iaload, 1) := by decide +kernel
theorem dL_law_392 : decode cL_law 392 = .ok (.invokevirtual 61, 3) := by decide +kernel
theorem dL_law_395 : decode cL_law 395 = .ok (.pop, 1) := by decide +kernel
theorem dL_law_396 : decode cL_law 396 = .ok (.goto 191, 3) := by decide +kernel
theorem dL_law_399 : decode cL_law 399 = .ok (.aload_n 1, 1) := by decide +kernel
theorem dL_law_400 : decode cL_law 400 = .ok (.aload_n 0, 1) := by decide +kernel
theorem dL_law_401 : decode cL_law 401 = .ok (.iload_n 3, 1) := by decide +kernel
theorem dL_law_402 : decode cL_law 402 = .ok (.iconst 1, 1) := by decide +kernel
theorem dL_law_403 : decode cL_law 403 = .ok (.iadd, 1) := by decide +kernel
theorem dL_law_404 : decode cL_law 404 = .ok (.iaload, 1) := by decide +kernel
theorem dL_law_405 : decode cL_law 405 = .ok (.invokevirtual 62, 3) := by decide +kernel
theorem dL_law_408 : decode cL_law 408 = .ok (.pop, 1) := by decide +kernel
theorem dL_law_409 : decode cL_law 409 = .ok (.aload_n 2, 1) := by decide +kernel
theorem dL_law_410 : decode cL_law 410 = .ok (.aload_n 0, 1) := by decide +kernel
theorem dL_law_411 : decode cL_law 411 = .ok (.iload_n 3, 1) := by decide +kernel
theorem dL_law_412 : decode cL_law 412 = .ok (.iconst 1, 1) := by decide +kernel
theorem dL_law_413 : decode cL_law 413 = .ok (.iadd, 1) := by decide +kernel
theorem dL_law_414 : decode cL_law 414 = .ok (.iaload, 1) := by decide +kernel
theorem dL_law_415 : decode cL_law 415 = .ok (.invokevirtual 65, 3) := by decide +kernel
theorem dL_law_418 : decode cL_law 418 = .ok (.pop, 1) := by decide +kernel
theorem dL_law_419 : decode cL_law 419 = .ok (.goto 168, 3) := by decide +kernel
theorem dL_law_422 : decode cL_law 422 = .ok (.aload_n 1, 1) := by decide +kernel
theorem dL_law_423 : decode cL_law 423 = .ok (.aload_n 0, 1) := by decide +kernel
theorem dL_law_424 : decode cL_law 424 = .ok (.iload_n 3, 1) := by decide +kernel
theorem dL_law_425 : decode cL_law 425 = .ok (.iconst 1, 1) := by decide +kernel
theorem dL_law_426 : decode cL_law 426 = .ok (.iadd, 1) := by decide +kernel
theorem dL_law_427 : decode cL_law 427 = .ok (.iaload, 1) := by decide +kernel
theorem dL_law_428 : decode cL_law 428 = .ok (.aload_n 0, 1) := by decide +kernel
theorem dL_law_429 : decode cL_law 429 = .ok (.iload_n 3, 1) := by decide +kernel
theorem dL_law_430 : decode cL_law 430 = .ok (.iconst 2, 1) := by decide +kernel
theorem dL_law_431 : decode cL_law 431 = .ok (.iadd, 1) := by decide +kernel
theorem dL_law_432 : decode cL_law 432 = .ok (.iaload, 1) := by decide +kernel
theorem dL_law_433 : decode cL_law 433 = .ok (.invokevirtual 66, 3) := by decide +kernel
theorem dL_law_436 : decode cL_law 436 = .ok (.pop, 1) := by decide +kernel
theorem dL_law_437 : decode cL_law 437 = .ok (.aload_n 2, 1) := by decide +kernel
theorem dL_law_438 : decode cL_law 438 = .ok (.aload_n 0, 1) := by decide +kernel
theorem dL_law_439 : decode cL_law 439 = .ok (.iload_n 3, 1) := by decide +kernel
theorem dL_law_440 : decode cL_law 440 = .ok (.iconst 1, 1) := by decide +kernel
theorem dL_law_441 : decode cL_law 441 = .ok (.iadd, 1) := by decide +kernel
theorem dL_law_442 : decode cL_law 442 = .ok (.iaload, 1) := by decide +kernel
theorem dL_law_443 : decode cL_law 443 = .ok (.aload_n 0, 1) := by decide +kernel
theorem dL_law_444 : decode cL_law 444 = .ok (.iload_n 3, 1) := by decide +kernel
theorem dL_law_445 : decode cL_law 445 = .ok (.iconst 2, 1) := by decide +kernel
theorem dL_law_446 : decode cL_law 446 = .ok (.iadd, 1) := by decide +kernel
theorem dL_law_447 : decode cL_law 447 = .ok (.iaload, 1) := by decide +kernel
theorem dL_law_448 : decode cL_law 448 = .ok (.invokevirtual 69, 3) := by decide +kernel
theorem dL_law_451 : decode cL_law 451 = .ok (.pop, 1) := by decide +kernel
theorem dL_law_452 : decode cL_law 452 = .ok (.goto 135, 3) := by decide +kernel
theorem dL_law_455 : decode cL_law 455 = .ok (.aload_n 1, 1) := by decide +kernel
theorem dL_law_456 : decode cL_law 456 = .ok (.aload_n 0, 1) := by decide +kernel
theorem dL_law_457 : decode cL_law 457 = .ok (.iload_n 3, 1) := by decide +kernel
theorem dL_law_458 : decode cL_law 458 = .ok (.iconst 1, 1) := by decide +kernel
theorem dL_law_459 : decode cL_law 459 = .ok (.iadd, 1) := by decide +kernel
theorem dL_law_460 : decode cL_law 460 = .ok (.iaload, 1) := by decide +kernel
theorem dL_law_461 : decode cL_law 461 = .ok (.aload_n 0, 1) := by decide +kernel
theorem dL_law_462 : decode cL_law 462 = .ok (.iload_n 3, 1) := by decide +kernel
theorem dL_law_463 : decode cL_law 463 = .ok (.iconst 2, 1) := by decide +kernel
theorem dL_law_464 : decode cL_law 464 = .ok (.iadd, 1) := by decide +kernel
theorem dL_law_465 : decode cL_law 465 = .ok (.iaload, 1) := by decide +kernel
theorem dL_law_466 : decode cL_law 466 = .ok (.invokevirtual 70, 3) := by decide +kernel
theorem dL_law_469 : decode cL_law 469 = .ok (.pop, 1) := by decide +kernel
theorem dL_law_470 : decode cL_law 470 = .ok (.aload_n 2, 1) := by decide +kernel
theorem dL_law_471 : decode cL_law 471 = .ok (.aload_n 0, 1) := by decide +kernel
theorem dL_law_472 : decode cL_law 472 = .ok (.iload_n 3, 1) := by decide +kernel
theorem dL_law_473 : decode cL_law 473 = .ok (.iconst 1, 1) := by decide +kernel
theorem dL_law_474 : decode cL_law 474 = .ok (.iadd, 1) := by decide +kernel
theorem dL_law_475 : decode cL_law 475 = .ok (.iaload, 1) := by decide +kernel
theorem dL_law_476 : decode cL_law 476 = .ok (.aload_n 0, 1) := by decide +kernel
theorem dL_law_477 : decode cL_law 477 = .ok (.iload_n 3, 1) := by decide +kernel
theorem dL_law_478 : decode cL_law 478 = .ok (.iconst 2, 1) := by decide +kernel
theorem dL_law_479 : decode cL_law 479 = .ok (.iadd, 1) := by decide +kernel
theorem dL_law_480 : decode cL_law 480 = .ok (.iaload, 1) := by decide +kernel
theorem dL_law_481 : decode cL_law 481 = .ok (.invokevirtual 73, 3) := by decide +kernel
theorem dL_law_484 : decode cL_law 484 = .ok (.pop, 1) := by decide +kernel
theorem dL_law_485 : decode cL_law 485 = .ok (.goto 102, 3) := by decide +kernel
theorem dL_law_488 : decode cL_law 488 = .ok (.aload_n 1, 1) := by decide +kernel
theorem dL_law_489 : decode cL_law 489 = .ok (.aload_n 0, 1) := by decide +kernel
theorem dL_law_490 : decode cL_law 490 = .ok (.iload_n 3, 1) := by decide +kernel
theorem dL_law_491 : decode cL_law 491 = .ok (.iconst 1, 1) := by decide +kernel
theorem dL_law_492 : decode cL_law 492 = .ok (.iadd, 1) := by decide +kernel
theorem dL_law_493 : decode cL_law 493 = .ok (.iaload, 1) := by decide +kernel
theorem dL_law_494 : decode cL_law 494 = .ok (.aload_n 0, 1) := by decide +kernel
theorem dL_law_495 : decode cL_law 495 = .ok (.iload_n 3, 1) := by decide +kernel
theorem dL_law_496 : decode cL_law 496 = .ok (.iconst 2, 1) := by decide +kernel
theorem dL_law_497 : decode cL_law 497 = .ok (.iadd, 1) := by decide +kernel
theorem dL_law_498 : decode cL_law 498 = .ok (.iaload, 1) := by decide +kernel
theorem dL_law_499 : decode cL_law 499 = .ok (.invokevirtual 74, 3) := by decide +kernel
theorem dL_law_502 : decode cL_law 502 = .ok (.pop, 1) := by decide +kernel
theorem dL_law_503 : decode cL_law 503 = .ok (.aload_n 2, 1) := by decide +kernel
theorem dL_law_504 : decode cL_law 504 = .ok (.aload_n 0, 1) := by decide +kernel
theorem dL_law_505 : decode cL_law 505 = .ok (.iload_n 3, 1) := by decide +kernel
theorem dL_law_506 : decode cL_law 506 = .ok (.iconst 1, 1) := by decide +kernel
theorem dL_law_507 : decode cL_law 507 = .ok (.iadd, 1) := by decide +kernel
theorem dL_law_508 : decode cL_law 508 = .ok (.iaload, 1) := by decide +kernel
theorem dL_law_509 : decode cL_law 509 = .ok (.aload_n 0, 1) := by decide +kernel
theorem dL_law_510 : decode cL_law 510 = .ok (.iload_n 3, 1) := by decide +kernel
theorem dL_law_511 : decode cL_law 511 = .ok (.iconst 2, 1) := by decide +kernel
theorem dL_law_512 : decode cL_law 512 = .ok (.iadd, 1) := by decide +kernel
theorem dL_law_513 : decode cL_law 513 = .ok (.iaload, 1) := by decide +kernel
theorem dL_law_514 : decode cL_law 514 = .ok (.invokevirtual 77, 3) := by decide +kernel
theorem dL_law_517 : decode cL_law 517 = .ok (.pop, 1) := by decide +kernel
theorem dL_law_518 : decode cL_law 518 = .ok (.goto 69, 3) := by decide +kernel
theorem dL_law_521 : decode cL_law 521 = .ok (.aload_n 1, 1) := by decide +kernel
theorem dL_law_522 : decode cL_law 522 = .ok (.aload_n 0, 1) := by decide +kernel
theorem dL_law_523 : decode cL_law 523 = .ok (.iload_n 3, 1) := by decide +kernel
theorem dL_law_524 : decode cL_law 524 = .ok (.iconst 1, 1) := by decide +kernel
theorem dL_law_525 : decode cL_law 525 = .ok (.iadd, 1) := by decide +kernel
theorem dL_law_526 : decode cL_law 526 = .ok (.iaload, 1) := by decide +kernel
theorem dL_law_527 : decode cL_law 527 = .ok (.aload_n 0, 1) := by decide +kernel
theorem dL_law_528 : decode cL_law 528 = .ok (.iload_n 3, 1) := by decide +kernel
theorem dL_law_529 : decode cL_law 529 = .ok (.iconst 2, 1) := by decide +kernel
theorem dL_law_530 : decode cL_law 530 = .ok (.iadd, 1) := by decide +kernel
theorem dL_law_531 : decode cL_law 531 = .ok (.iaload, 1) := by decide +kernel
theorem dL_law_532 : decode cL_law 532 = .ok (.aload_n 0, 1) := by decide +kernel
theorem dL_law_533 : decode cL_law 533 = .ok (.iload_n 3, 1) := by decide +kernel
theorem dL_law_534 : decode cL_law 534 = .ok (.iconst 3, 1) := by decide +kernel
theorem dL_law_535 : decode cL_law 535 = .ok (.iadd, 1) := by decide +kernel
theorem dL_law_536 : decode cL_law 536 = .ok (.iaload, 1) := by decide +kernel
theorem dL_law_537 : decode cL_law 537 = .ok (.aload_n 0, 1) := by decide +kernel
theorem dL_law_538 : decode cL_law 538 = .ok (.iload_n 3, 1) := by decide +kernel
theorem dL_law_539 : decode cL_law 539 = .ok (.iconst 4, 1) := by decide +kernel
theorem dL_law_540 : decode cL_law 540 = .ok (.iadd, 1) := by decide +kernel
theorem dL_law_541 : decode cL_law 541 = .ok (.iaload, 1) := by decide +kernel
theorem dL_law_542 : decode cL_law 542 = .ok (.invokevirtual 78, 3) := by decide +kernel
theorem dL_law_545 : decode cL_law 545 = .ok (.pop, 1) := by decide +kernel
theorem dL_law_546 : decode cL_law 546 = .ok (.aload_n 2, 1) := by decide +kernel
theorem dL_law_547 : decode cL_law 547 = .ok (.aload_n 0, 1) := by decide +kernel
theorem dL_law_548 : decode cL_law 548 = .ok (.iload_n 3, 1) := by decide +kernel
theorem dL_law_549 : decode cL_law 549 = .ok (.iconst 1, 1) := by decide +kernel
theorem dL_law_550 : decode cL_law 550 = .ok (.iadd, 1) := by decide +kernel
theorem dL_law_551 : decode cL_law 551 = .ok (.iaload, 1) := by decide +kernel
theorem dL_law_552 : decode cL_law 552 = .ok (.aload_n 0, 1) := by decide +kernel
theorem dL_law_553 : decode cL_law 553 = .ok (.iload_n 3, 1) := by decide +kernel
theorem dL_law_554 : decode cL_law 554 = .ok (.iconst 2, 1) := by decide +kernel
theorem dL_law_555 : decode cL_law 555 = .ok (.iadd, 1) := by decide +kernel
theorem dL_law_556 : decode cL_law 556 = .ok (.iaload, 1) := by decide +kernel
theorem dL_law_557 : decode cL_law 557 = .ok (.aload_n 0, 1) := by decide +kernel
theorem dL_law_558 : decode cL_law 558 = .ok (.iload_n 3, 1) := by decide +kernel
theorem dL_law_559 : decode cL_law 559 = .ok (.iconst 3, 1) := by decide +kernel
theorem dL_law_560 : decode cL_law 560 = .ok (.iadd, 1) := by decide +kernel
theorem dL_law_561 : decode cL_law 561 = .ok (.iaload, 1) := by decide +kernel
theorem dL_law_562 : decode cL_law 562 = .ok (.aload_n 0, 1) := by decide +kernel
theorem dL_law_563 : decode cL_law 563 = .ok (.iload_n 3, 1) := by decide +kernel
theorem dL_law_564 : decode cL_law 564 = .ok (.iconst 4, 1) := by decide +kernel
theorem dL_law_565 : decode cL_law 565 = .ok (.iadd, 1) := by decide +kernel
theorem dL_law_566 : decode cL_law 566 = .ok (.iaload, 1) := by decide +kernel
theorem dL_law_567 : decode cL_law 567 = .ok (.invokevirtual 82, 3) := by decide +kernel
theorem dL_law_570 : decode cL_law 570 = .ok (.pop, 1) := by decide +kernel
theorem dL_law_571 : decode cL_law 571 = .ok (.goto 16, 3) := by decide +kernel
theorem dL_law_574 : decode cL_law 574 = .ok (.aload_n 1, 1) := by decide +kernel
theorem dL_law_575 : decode cL_law 575 = .ok (.invokevirtual 83, 3) := by decide +kernel
theorem dL_law_578 : decode cL_law 578 = .ok (.aload_n 2, 1) := by decide +kernel
theorem dL_law_579 : decode cL_law 579 = .ok (.invokevirtual 86, 3) := by decide +kernel
theorem dL_law_582 : decode cL_law 582 = .ok (.if_icmp .eq 5, 3) := by decide +kernel
theorem dL_law_585 : decode cL_law 585 = .ok (.iconst 0, 1) := by decide +kernel
theorem dL_law_586 : decode cL_law 586 = .ok (.ireturn, 1) := by decide +kernel
theorem dL_law_587 : decode cL_law 587 = .ok (.iinc 3 6, 3) := by decide +kernel
theorem dL_law_590 : decode cL_law 590 = .ok (.goto (-572), 3) := by decide +kernel
theorem dL_law_593 : decode cL_law 593 = .ok (.iconst 1, 1) := by decide +kernel
theorem dL_law_594 : decode cL_law 594 = .ok (.ireturn, 1) := by decide +kernel
abbrev vwCl : List vw_C := [(RX0, TX0, 10), (RX1, TX1, 5), (RX2, TX2, 13), (RX3, TX3, 7), (RX4, TX4, 19), (RX5, TX5, 2), (RX6, TX6, 3), (RX7, TX7, 2), (RX8, TX8, 10), (RX9, TX9, 69)]
