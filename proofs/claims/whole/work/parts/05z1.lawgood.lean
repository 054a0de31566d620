set_option maxRecDepth 20000 in
theorem ggL_law_X8_init : GoodIn wsL_law wsX8_init := goodIn_r _ [8, 9, 10, 11, 12, 13, 14, 15, 16, 17, 18, 19, 20, 21, 22, 23, 24, 25, 26, 27, 28, 29, 30, 31, 32, 33, 34, 35, 36, 37, 38, 39, 40, 41, 42, 43, 44, 45, 46, 47, 48, 49, 50, 51, 52, 53, 54, 55, 56, 57, 58, 59, 60, 61, 62, 63, 64, 65, 66, 67, 68, 69, 70, 71, 72, 73, 74, 75, 76, 77, 78, 79, 80, 81, 82, 83, 84, 85, 86, 87, 88, 89, 90, 91, 92, 93, 94, 95, 96, 97, 98, 99, 100, 101, 102, 103, 858, 859, 797, 798, 799, 800, 801, 802, 803, 860, 861, 862, 863, 864, 865, 866, 867, 868, 869, 870, 871, 872, 873, 874, 875, 876, 877, 878, 879, 880, 881, 882, 883, 884, 885, 886, 887, 888, 889] (by decide +kernel) (by decide +kernel)
set_option maxRecDepth 20000 in
theorem gL_law_X8_init : GoodIn wsL_law (wsX8_init) := ggL_law_X8_init
set_option maxRecDepth 20000 in
theorem ggL_law_X9_init : GoodIn wsL_law wsX9_init := goodIn_r _ [106, 107, 10, 11, 39, 108, 49, 109, 110, 111, 112, 113, 114, 115, 116, 117, 118, 119, 120, 121, 122, 123, 124, 125, 126, 127, 128, 129, 130, 131, 132, 133, 134, 135, 136, 137, 138, 139, 140, 141, 142, 143, 144, 145, 146, 147, 148, 149, 150, 5, 151, 152, 153, 154, 804, 805, 806, 807, 808, 809, 810, 811, 812, 813, 814, 815, 816, 817, 818, 819, 820, 821, 822, 823, 824, 825, 826, 827, 828, 829, 830, 831, 832, 833, 834, 835, 836, 837, 838, 839, 840, 841, 842, 843, 844, 845, 846, 847, 848, 849, 850, 851, 852, 853, 854, 855, 856, 857] (by decide +kernel) (by decide +kernel)
set_option maxRecDepth 20000 in
theorem gL_law_X9_init : GoodIn wsL_law (wsX9_init) := ggL_law_X9_init
set_option maxRecDepth 20000 in
theorem ggL_law_X8_setClass : GoodIn wsL_law wsX8_setClass := goodIn_r _ [158, 15, 21, 159, 160, 2, 161, 162, 163, 164, 165, 166, 167, 14, 168, 40, 169, 170, 171, 172, 173, 174, 175, 23, 176, 177, 178, 179, 180, 181, 182, 61, 183, 184, 47, 185, 186, 46, 48, 187, 188, 189, 190, 191, 192, 193, 60, 194, 195, 196, 197, 198, 63, 199, 68, 200, 201, 202, 203, 204, 205, 76, 72, 206, 207, 208, 209, 210, 211, 212, 213, 214, 215, 216, 217, 218, 73, 219, 220, 221, 222, 223, 224, 225, 38, 226, 227, 228, 18, 229, 230, 50, 231, 232, 233, 234, 235, 75, 236, 237, 238, 239, 74, 240, 241, 242, 243, 77, 244, 797, 798, 799, 800, 801, 802, 803, 858, 859, 860, 861, 862, 863, 864, 865, 866, 875, 876, 877, 878, 879, 880, 881, 882, 883, 884, 885, 886] (by decide +kernel) (by decide +kernel)
set_option maxRecDepth 20000 in
theorem gL_law_X8_setClass : GoodIn wsL_law (wsV RL 13 RX8 yX8_setClass wsX8_setClass) := goodIn_app (goodIn_of _ (by decide +kernel)) ggL_law_X8_setClass
set_option maxRecDepth 20000 in
theorem ggL_law_X9_setClass : GoodIn wsL_law wsX9_setClass := goodIn_r _ [248, 108, 152, 153, 5, 154, 249, 250, 251, 252, 132, 134, 253, 254, 255, 256, 257, 133, 258, 259, 260, 261, 120, 262, 263, 264, 265, 126, 127, 266, 267, 268, 269, 131, 122, 270, 271, 272, 273, 128, 129, 130, 274, 275, 276, 277, 123, 804, 805, 806, 807, 808, 809, 810, 811, 812, 813, 814, 815, 816, 817, 818, 819, 820, 821, 822, 823, 824, 825, 826, 827, 828, 829, 830, 831, 832, 833, 834, 835, 836, 837, 838, 839, 840, 841, 842, 843, 844, 845, 846, 847, 848, 849, 850, 851, 852, 853, 854, 855, 856, 857] (by decide +kernel) (by decide +kernel)
set_option maxRecDepth 20000 in
theorem gL_law_X9_setClass : GoodIn wsL_law (wsV RL 17 RX9 yX9_setClass wsX9_setClass) := goodIn_app (goodIn_of _ (by decide +kernel)) ggL_law_X9_setClass
set_option maxRecDepth 20000 in
theorem ggL_law_X8_classOf : GoodIn wsL_law wsX8_classOf := goodIn_r _ [281, 15, 159, 160, 2, 161, 165, 166, 167, 14, 168, 40, 797, 798, 799, 800, 801, 802, 803, 858, 859] (by decide +kernel) (by decide +kernel)
set_option maxRecDepth 20000 in
theorem gL_law_X8_classOf : GoodIn wsL_law (wsV RL 18 RX8 yX8_classOf wsX8_classOf) := goodIn_app (goodIn_of _ (by decide +kernel)) ggL_law_X8_classOf
set_option maxRecDepth 20000 in
theorem ggL_law_X9_classOf : GoodIn wsL_law wsX9_classOf := goodIn_r _ [285, 108, 152, 153, 5, 154, 804, 805, 806, 807, 808, 809, 810, 811, 812, 813, 814, 815, 816, 817, 818, 819, 820, 821, 822, 823, 824, 825, 826, 827, 828, 829, 830, 831, 832, 833, 834, 835, 836, 837, 838, 839, 840, 841, 842, 843, 844, 845, 846, 847, 848, 849, 850, 851, 852, 853, 854, 855, 856, 857] (by decide +kernel) (by decide +kernel)
set_option maxRecDepth 20000 in
theorem gL_law_X9_classOf : GoodIn wsL_law (wsV RL 22 RX9 yX9_classOf wsX9_classOf) := goodIn_app (goodIn_of _ (by decide +kernel)) ggL_law_X9_classOf
set_option maxRecDepth 20000 in
theorem ggL_law_X8_type : GoodIn wsL_law wsX8_type := goodIn_r _ [289, 19, 290, 291, 292, 293, 18, 294, 230, 50, 797, 798, 799, 800, 801, 802, 803, 860, 861] (by decide +kernel) (by decide +kernel)
set_option maxRecDepth 20000 in
theorem gL_law_X8_type : GoodIn wsL_law (wsV RL 23 RX8 yX8_type wsX8_type) := goodIn_app (goodIn_of _ (by decide +kernel)) ggL_law_X8_type
set_option maxRecDepth 20000 in
theorem ggL_law_X9_type : GoodIn wsL_law wsX9_type := goodIn_r _ [298, 299, 109, 804, 805, 806, 807, 808, 809, 810, 811, 812, 813, 814, 815, 816, 817, 818, 819, 820, 821, 822, 823, 824, 825, 826, 827, 828, 829, 830, 831, 832, 833, 834, 835, 836, 837, 838, 839, 840, 841, 842, 843, 844, 845, 846, 847, 848, 849, 850, 851, 852, 853, 854, 855, 856, 857] (by decide +kernel) (by decide +kernel)
set_option maxRecDepth 20000 in
theorem gL_law_X9_type : GoodIn wsL_law (wsV RL 26 RX9 yX9_type wsX9_type) := goodIn_app (goodIn_of _ (by decide +kernel)) ggL_law_X9_type
set_option maxRecDepth 20000 in
theorem ggL_law_X8_clearPattern : GoodIn wsL_law wsX8_clearPattern := goodIn_r _ [303, 19, 290, 797, 798, 799, 800, 801, 802, 803, 860, 861] (by decide +kernel) (by decide +kernel)
set_option maxRecDepth 20000 in
theorem gL_law_X8_clearPattern : GoodIn wsL_law (wsV RL 27 RX8 yX8_clearPattern wsX8_clearPattern) := goodIn_app (goodIn_of _ (by decide +kernel)) ggL_law_X8_clearPattern
set_option maxRecDepth 20000 in
theorem ggL_law_X9_clearPattern : GoodIn wsL_law wsX9_clearPattern := goodIn_r _ [307, 299, 804, 805, 806, 807, 808, 809, 810, 811, 812, 813, 814, 815, 816, 817, 818, 819, 820, 821, 822, 823, 824, 825, 826, 827, 828, 829, 830, 831, 832, 833, 834, 835, 836, 837, 838, 839, 840, 841, 842, 843, 844, 845, 846, 847, 848, 849, 850, 851, 852, 853, 854, 855, 856, 857] (by decide +kernel) (by decide +kernel)
set_option maxRecDepth 20000 in
theorem gL_law_X9_clearPattern : GoodIn wsL_law (wsV RL 31 RX9 yX9_clearPattern wsX9_clearPattern) := goodIn_app (goodIn_of _ (by decide +kernel)) ggL_law_X9_clearPattern
set_option maxRecDepth 20000 in
theorem ggL_law_X8_setRule : GoodIn wsL_law wsX8_setRule := goodIn_r _ [311, 19, 290, 21, 312, 313, 27, 15, 314, 315, 2, 316, 317, 318, 319, 320, 321, 322, 323, 227, 228, 18, 229, 230, 50, 324, 325, 326, 327, 328, 329, 330, 197, 198, 63, 199, 68, 200, 331, 332, 333, 334, 335, 336, 292, 293, 294, 337, 338, 339, 26, 340, 341, 342, 343, 344, 345, 346, 347, 348, 212, 213, 214, 349, 350, 351, 71, 352, 353, 354, 355, 356, 357, 358, 359, 360, 361, 362, 363, 87, 88, 364, 365, 366, 367, 368, 369, 370, 371, 372, 373, 374, 375, 376, 89, 377, 378, 379, 380, 381, 382, 383, 384, 385, 386, 387, 388, 389, 390, 391, 392, 393, 394, 395, 396, 397, 398, 399, 400, 401, 402, 403, 404, 405, 406, 407, 408, 173, 174, 175, 23, 176, 177, 178, 179, 180, 181, 182, 61, 183, 184, 47, 185, 186, 46, 48, 187, 188, 189, 190, 191, 192, 193, 60, 194, 195, 196, 201, 202, 203, 204, 205, 76, 72, 206, 207, 208, 209, 210, 211, 215, 216, 217, 218, 73, 219, 220, 221, 222, 223, 224, 14, 225, 38, 226, 231, 166, 167, 168, 40, 232, 233, 234, 235, 75, 163, 164, 236, 237, 238, 239, 74, 240, 241, 242, 243, 77, 244, 797, 798, 799, 800, 801, 802, 803, 860, 861, 862, 863, 864, 865, 866, 875, 876, 877, 878, 879, 880, 881, 882, 883, 867, 868, 869, 870, 884, 885, 886, 858, 859] (by decide +kernel) (by decide +kernel)
set_option maxRecDepth 20000 in
theorem gL_law_X8_setRule : GoodIn wsL_law (wsV RL 32 RX8 yX8_setRule wsX8_setRule) := goodIn_app (goodIn_of _ (by decide +kernel)) ggL_law_X8_setRule
set_option maxRecDepth 20000 in
theorem ggL_law_X9_setRule : GoodIn wsL_law wsX9_setRule := goodIn_r _ [412, 120, 299, 413, 414, 5, 415, 152, 153, 154, 249, 250, 251, 252, 132, 134, 253, 254, 255, 256, 257, 133, 258, 259, 260, 261, 262, 263, 264, 265, 126, 127, 266, 267, 268, 269, 108, 131, 122, 270, 271, 272, 273, 128, 129, 130, 274, 275, 276, 277, 123, 416, 417, 418, 419, 420, 421, 422, 423, 424, 119, 109, 117, 118, 425, 426, 427, 111, 112, 113, 428, 429, 430, 431, 432, 433, 434, 435, 114, 115, 116, 436, 437, 438, 439, 440, 441, 442, 443, 444, 445, 446, 447, 448, 449, 450, 451, 452, 453, 454, 455, 456, 457, 458, 124, 125, 121, 804, 805, 806, 807, 808, 809, 810, 811, 812, 813, 814, 815, 816, 817, 818, 819, 820, 821, 822, 823, 824, 825, 826, 827, 828, 829, 830, 831, 832, 833, 834, 835, 836, 837, 838, 839, 840, 841, 842, 843, 844, 845, 846, 847, 848, 849, 850, 851, 852, 853, 854, 855, 856, 857] (by decide +kernel) (by decide +kernel)
set_option maxRecDepth 20000 in
theorem gL_law_X9_setRule : GoodIn wsL_law (wsV RL 36 RX9 yX9_setRule wsX9_setRule) := goodIn_app (goodIn_of _ (by decide +kernel)) ggL_law_X9_setRule
set_option maxRecDepth 20000 in
theorem ggL_law_X8_ruleText : GoodIn wsL_law wsX8_ruleText := goodIn_r _ [462, 21, 312, 313, 290, 314, 315, 2, 316, 317, 318, 319, 323, 227, 228, 18, 229, 230, 50, 797, 798, 799, 800, 801, 802, 803, 862, 863, 864, 865, 866, 875, 876, 877, 878, 879, 880, 881, 882, 883, 860, 861] (by decide +kernel) (by decide +kernel)
