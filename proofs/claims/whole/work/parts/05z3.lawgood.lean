set_option maxRecDepth 20000 in
theorem ggL_law_X9_undo : GoodIn wsL_law wsX9_undo := goodIn_r _ [647, 586, 140, 137, 141, 145, 581, 142, 138, 143, 139, 144, 648, 649, 650, 5, 651, 587, 588, 589, 590, 253, 131, 591, 592, 593, 594, 132, 135, 595, 596, 597, 598, 133, 599, 600, 601, 602, 120, 603, 604, 605, 606, 126, 125, 129, 127, 266, 267, 268, 269, 108, 122, 274, 275, 276, 277, 123, 607, 608, 609, 610, 611, 612, 613, 614, 136, 134, 615, 616, 617, 618, 258, 259, 260, 261, 262, 263, 264, 265, 270, 271, 272, 273, 128, 130, 254, 255, 256, 257, 631, 632, 633, 634, 804, 805, 806, 807, 808, 809, 810, 811, 812, 813, 814, 815, 816, 817, 818, 819, 820, 821, 822, 823, 824, 825, 826, 827, 828, 829, 830, 831, 832, 833, 834, 835, 836, 837, 838, 839, 840, 841, 842, 843, 844, 845, 846, 847, 848, 849, 850, 851, 852, 853, 854, 855, 856, 857] (by decide +kernel) (by decide +kernel)
set_option maxRecDepth 20000 in
theorem gL_law_X9_undo : GoodIn wsL_law (wsV RL 66 RX9 yX9_undo wsX9_undo) := goodIn_app (goodIn_of _ (by decide +kernel)) ggL_law_X9_undo
set_option maxRecDepth 20000 in
theorem ggL_law_X8_redo : GoodIn wsL_law wsX8_redo := goodIn_r _ [655, 32, 656, 523, 657, 658, 659, 31, 660, 531, 530, 537, 538, 539, 540, 95, 532, 533, 534, 535, 536, 541, 542, 543, 2, 544, 15, 476, 290, 524, 525, 21, 545, 546, 547, 18, 548, 230, 50, 549, 550, 551, 552, 553, 554, 555, 556, 557, 558, 559, 23, 560, 61, 561, 562, 563, 564, 565, 566, 567, 213, 568, 569, 570, 571, 572, 573, 574, 575, 576, 180, 181, 182, 177, 178, 183, 184, 47, 185, 186, 46, 48, 187, 188, 189, 190, 191, 192, 193, 60, 194, 195, 196, 197, 198, 63, 199, 68, 200, 201, 202, 203, 204, 205, 76, 72, 206, 207, 208, 209, 210, 211, 212, 214, 215, 216, 217, 218, 73, 219, 220, 221, 222, 223, 224, 14, 225, 38, 226, 227, 228, 229, 231, 166, 167, 168, 40, 232, 233, 234, 235, 75, 163, 164, 236, 237, 238, 239, 74, 240, 241, 242, 243, 77, 244, 797, 798, 799, 800, 801, 802, 803, 871, 872, 873, 874, 887, 888, 889, 858, 859, 860, 861, 862, 863, 864, 865, 866, 875, 876, 877, 878, 879, 880, 881, 882, 883, 884, 885, 886] (by decide +kernel) (by decide +kernel)
set_option maxRecDepth 20000 in
theorem gL_law_X8_redo : GoodIn wsL_law (wsV RL 67 RX8 yX8_redo wsX8_redo) := goodIn_app (goodIn_of _ (by decide +kernel)) ggL_law_X8_redo
set_option maxRecDepth 20000 in
theorem ggL_law_X9_redo : GoodIn wsL_law wsX9_redo := goodIn_r _ [664, 581, 144, 137, 145, 142, 143, 582, 583, 584, 5, 585, 586, 138, 139, 140, 141, 648, 649, 650, 651, 587, 588, 589, 590, 253, 131, 591, 592, 593, 594, 132, 135, 595, 596, 597, 598, 133, 599, 600, 601, 602, 120, 603, 604, 605, 606, 126, 125, 129, 127, 266, 267, 268, 269, 108, 122, 274, 275, 276, 277, 123, 607, 608, 609, 610, 611, 612, 613, 614, 136, 134, 615, 616, 617, 618, 258, 259, 260, 261, 262, 263, 264, 265, 270, 271, 272, 273, 128, 130, 254, 255, 256, 257, 631, 632, 633, 634, 804, 805, 806, 807, 808, 809, 810, 811, 812, 813, 814, 815, 816, 817, 818, 819, 820, 821, 822, 823, 824, 825, 826, 827, 828, 829, 830, 831, 832, 833, 834, 835, 836, 837, 838, 839, 840, 841, 842, 843, 844, 845, 846, 847, 848, 849, 850, 851, 852, 853, 854, 855, 856, 857] (by decide +kernel) (by decide +kernel)
set_option maxRecDepth 20000 in
theorem gL_law_X9_redo : GoodIn wsL_law (wsV RL 70 RX9 yX9_redo wsX9_redo) := goodIn_app (goodIn_of _ (by decide +kernel)) ggL_law_X9_redo
set_option maxRecDepth 20000 in
theorem ggL_law_X8_charAt : GoodIn wsL_law wsX8_charAt := goodIn_r _ [668, 15, 476, 623, 624, 625, 2, 626, 290, 323, 227, 228, 18, 229, 230, 50, 797, 798, 799, 800, 801, 802, 803, 858, 859, 860, 861] (by decide +kernel) (by decide +kernel)
set_option maxRecDepth 20000 in
theorem gL_law_X8_charAt : GoodIn wsL_law (wsV RL 71 RX8 yX8_charAt wsX8_charAt) := goodIn_app (goodIn_of _ (by decide +kernel)) ggL_law_X8_charAt
set_option maxRecDepth 20000 in
theorem ggL_law_X9_charAt : GoodIn wsL_law wsX9_charAt := goodIn_r _ [672, 253, 131, 152, 153, 5, 154, 804, 805, 806, 807, 808, 809, 810, 811, 812, 813, 814, 815, 816, 817, 818, 819, 820, 821, 822, 823, 824, 825, 826, 827, 828, 829, 830, 831, 832, 833, 834, 835, 836, 837, 838, 839, 840, 841, 842, 843, 844, 845, 846, 847, 848, 849, 850, 851, 852, 853, 854, 855, 856, 857] (by decide +kernel) (by decide +kernel)
set_option maxRecDepth 20000 in
theorem gL_law_X9_charAt : GoodIn wsL_law (wsV RL 75 RX9 yX9_charAt wsX9_charAt) := goodIn_app (goodIn_of _ (by decide +kernel)) ggL_law_X9_charAt
set_option maxRecDepth 20000 in
theorem ggL_law_X8_value : GoodIn wsL_law wsX8_value := goodIn_r _ [676, 15, 476, 290, 19, 490, 32, 639, 656, 797, 798, 799, 800, 801, 802, 803, 858, 859, 860, 861, 871, 872, 873, 874] (by decide +kernel) (by decide +kernel)
set_option maxRecDepth 20000 in
theorem gL_law_X8_value : GoodIn wsL_law (wsV RL 76 RX8 yX8_value wsX8_value) := goodIn_app (goodIn_of _ (by decide +kernel)) ggL_law_X8_value
set_option maxRecDepth 20000 in
theorem ggL_law_X9_value : GoodIn wsL_law wsX9_value := goodIn_r _ [680, 253, 299, 506, 586, 581, 804, 805, 806, 807, 808, 809, 810, 811, 812, 813, 814, 815, 816, 817, 818, 819, 820, 821, 822, 823, 824, 825, 826, 827, 828, 829, 830, 831, 832, 833, 834, 835, 836, 837, 838, 839, 840, 841, 842, 843, 844, 845, 846, 847, 848, 849, 850, 851, 852, 853, 854, 855, 856, 857] (by decide +kernel) (by decide +kernel)
set_option maxRecDepth 20000 in
theorem gL_law_X9_value : GoodIn wsL_law (wsV RL 79 RX9 yX9_value wsX9_value) := goodIn_app (goodIn_of _ (by decide +kernel)) ggL_law_X9_value
set_option maxRecDepth 20000 in
theorem ggL_law_X8_boundaryAt : GoodIn wsL_law wsX8_boundaryAt := goodIn_r _ [684, 314, 315, 2, 316, 472, 473, 474, 475, 15, 476, 290, 685, 686, 687, 688, 21, 689, 690, 691, 23, 692, 61, 693, 694, 695, 696, 323, 227, 228, 18, 229, 230, 50, 697, 698, 699, 700, 701, 223, 224, 14, 225, 38, 226, 231, 166, 167, 168, 40, 494, 495, 496, 497, 490, 28, 498, 499, 500, 501, 335, 797, 798, 799, 800, 801, 802, 803, 858, 859, 860, 861, 862, 863, 864, 865, 866] (by decide +kernel) (by decide +kernel)
set_option maxRecDepth 20000 in
theorem gL_law_X8_boundaryAt : GoodIn wsL_law (wsV RL 80 RX8 yX8_boundaryAt wsX8_boundaryAt) := goodIn_app (goodIn_of _ (by decide +kernel)) ggL_law_X8_boundaryAt
set_option maxRecDepth 20000 in
theorem ggL_law_X9_boundaryAt : GoodIn wsL_law wsX9_boundaryAt := goodIn_r _ [705, 132, 706, 707, 708, 5, 709, 710, 711, 712, 152, 153, 154, 482, 483, 484, 485, 253, 595, 596, 597, 598, 133, 713, 714, 715, 716, 131, 108, 717, 718, 719, 720, 506, 146, 147, 804, 805, 806, 807, 808, 809, 810, 811, 812, 813, 814, 815, 816, 817, 818, 819, 820, 821, 822, 823, 824, 825, 826, 827, 828, 829, 830, 831, 832, 833, 834, 835, 836, 837, 838, 839, 840, 841, 842, 843, 844, 845, 846, 847, 848, 849, 850, 851, 852, 853, 854, 855, 856, 857] (by decide +kernel) (by decide +kernel)
set_option maxRecDepth 20000 in
theorem gL_law_X9_boundaryAt : GoodIn wsL_law (wsV RL 83 RX9 yX9_boundaryAt wsX9_boundaryAt) := goodIn_app (goodIn_of _ (by decide +kernel)) ggL_law_X9_boundaryAt
set_option maxRecDepth 20000 in
theorem ggL_law_X8_next : GoodIn wsL_law wsX8_next := goodIn_r _ [724, 314, 315, 2, 316, 472, 473, 474, 475, 15, 476, 290, 725, 726, 727, 728, 685, 686, 687, 688, 21, 689, 690, 691, 23, 692, 61, 693, 694, 695, 696, 323, 227, 228, 18, 229, 230, 50, 697, 698, 699, 700, 701, 223, 224, 14, 225, 38, 226, 231, 166, 167, 168, 40, 494, 495, 496, 497, 490, 28, 498, 499, 500, 501, 335, 797, 798, 799, 800, 801, 802, 803, 858, 859, 860, 861, 862, 863, 864, 865, 866] (by decide +kernel) (by decide +kernel)
set_option maxRecDepth 20000 in
theorem gL_law_X8_next : GoodIn wsL_law (wsV RL 84 RX8 yX8_next wsX8_next) := goodIn_app (goodIn_of _ (by decide +kernel)) ggL_law_X8_next
set_option maxRecDepth 20000 in
theorem ggL_law_X9_next : GoodIn wsL_law wsX9_next := goodIn_r _ [732, 132, 706, 707, 708, 5, 709, 710, 711, 712, 152, 153, 154, 482, 483, 484, 485, 253, 595, 596, 597, 598, 133, 713, 714, 715, 716, 131, 108, 717, 718, 719, 720, 506, 146, 147, 804, 805, 806, 807, 808, 809, 810, 811, 812, 813, 814, 815, 816, 817, 818, 819, 820, 821, 822, 823, 824, 825, 826, 827, 828, 829, 830, 831, 832, 833, 834, 835, 836, 837, 838, 839, 840, 841, 842, 843, 844, 845, 846, 847, 848, 849, 850, 851, 852, 853, 854, 855, 856, 857] (by decide +kernel) (by decide +kernel)
set_option maxRecDepth 20000 in
theorem gL_law_X9_next : GoodIn wsL_law (wsV RL 87 RX9 yX9_next wsX9_next) := goodIn_app (goodIn_of _ (by decide +kernel)) ggL_law_X9_next
set_option maxRecDepth 20000 in
theorem ggL_law_X8_previous : GoodIn wsL_law wsX8_previous := goodIn_r _ [736, 314, 315, 2, 316, 472, 473, 474, 475, 15, 476, 290, 685, 686, 687, 688, 21, 689, 690, 691, 23, 692, 61, 693, 694, 695, 696, 323, 227, 228, 18, 229, 230, 50, 697, 698, 699, 700, 701, 223, 224, 14, 225, 38, 226, 231, 166, 167, 168, 40, 494, 495, 496, 497, 490, 28, 498, 499, 500, 501, 335, 797, 798, 799, 800, 801, 802, 803, 858, 859, 860, 861, 862, 863, 864, 865, 866] (by decide +kernel) (by decide +kernel)
set_option maxRecDepth 20000 in
theorem gL_law_X8_previous : GoodIn wsL_law (wsV RL 88 RX8 yX8_previous wsX8_previous) := goodIn_app (goodIn_of _ (by decide +kernel)) ggL_law_X8_previous
set_option maxRecDepth 20000 in
theorem ggL_law_X9_previous : GoodIn wsL_law wsX9_previous := goodIn_r _ [740, 132, 706, 707, 708, 5, 709, 710, 711, 712, 152, 153, 154, 482, 483, 484, 485, 253, 595, 596, 597, 598, 133, 713, 714, 715, 716, 131, 108, 717, 718, 719, 720, 506, 146, 147, 804, 805, 806, 807, 808, 809, 810, 811, 812, 813, 814, 815, 816, 817, 818, 819, 820, 821, 822, 823, 824, 825, 826, 827, 828, 829, 830, 831, 832, 833, 834, 835, 836, 837, 838, 839, 840, 841, 842, 843, 844, 845, 846, 847, 848, 849, 850, 851, 852, 853, 854, 855, 856, 857] (by decide +kernel) (by decide +kernel)
