set_option maxRecDepth 20000 in
theorem gL_law_X9_previous : GoodIn wsL_law (wsV RL 91 RX9 yX9_previous wsX9_previous) := goodIn_app (goodIn_of _ (by decide +kernel)) ggL_law_X9_previous
set_option maxRecDepth 20000 in
theorem ggL_law_X8_segmentCount : GoodIn wsL_law wsX8_segmentCount := goodIn_r _ [744, 15, 476, 290, 314, 315, 2, 316, 685, 686, 687, 688, 21, 689, 690, 691, 23, 692, 61, 693, 694, 695, 696, 323, 227, 228, 18, 229, 230, 50, 697, 698, 699, 700, 701, 223, 224, 14, 225, 38, 226, 231, 166, 167, 168, 40, 494, 495, 496, 497, 490, 28, 498, 499, 500, 501, 335, 797, 798, 799, 800, 801, 802, 803, 858, 859, 860, 861, 862, 863, 864, 865, 866] (by decide +kernel) (by decide +kernel)
set_option maxRecDepth 20000 in
theorem gL_law_X8_segmentCount : GoodIn wsL_law (wsV RL 92 RX8 yX8_segmentCount wsX8_segmentCount) := goodIn_app (goodIn_of _ (by decide +kernel)) ggL_law_X8_segmentCount
set_option maxRecDepth 20000 in
theorem ggL_law_X9_segmentCount : GoodIn wsL_law wsX9_segmentCount := goodIn_r _ [748, 749, 710, 711, 5, 712, 152, 153, 154, 750, 751, 752, 753, 132, 148, 595, 596, 597, 598, 133, 713, 714, 715, 716, 253, 131, 108, 717, 718, 719, 720, 506, 146, 147, 804, 805, 806, 807, 808, 809, 810, 811, 812, 813, 814, 815, 816, 817, 818, 819, 820, 821, 822, 823, 824, 825, 826, 827, 828, 829, 830, 831, 832, 833, 834, 835, 836, 837, 838, 839, 840, 841, 842, 843, 844, 845, 846, 847, 848, 849, 850, 851, 852, 853, 854, 855, 856, 857] (by decide +kernel) (by decide +kernel)
set_option maxRecDepth 20000 in
theorem gL_law_X9_segmentCount : GoodIn wsL_law (wsV RL 95 RX9 yX9_segmentCount wsX9_segmentCount) := goodIn_app (goodIn_of _ (by decide +kernel)) ggL_law_X9_segmentCount
set_option maxRecDepth 20000 in
theorem ggL_law_X8_segment : GoodIn wsL_law wsX8_segment := goodIn_r _ [757, 15, 476, 290, 314, 315, 2, 316, 685, 686, 687, 688, 21, 689, 690, 691, 23, 692, 61, 693, 694, 695, 696, 323, 227, 228, 18, 229, 230, 50, 697, 698, 699, 700, 701, 223, 224, 14, 225, 38, 226, 231, 166, 167, 168, 40, 494, 495, 496, 497, 490, 28, 498, 499, 500, 501, 335, 797, 798, 799, 800, 801, 802, 803, 858, 859, 860, 861, 862, 863, 864, 865, 866] (by decide +kernel) (by decide +kernel)
set_option maxRecDepth 20000 in
theorem gL_law_X8_segment : GoodIn wsL_law (wsV RL 96 RX8 yX8_segment wsX8_segment) := goodIn_app (goodIn_of _ (by decide +kernel)) ggL_law_X8_segment
set_option maxRecDepth 20000 in
theorem ggL_law_X9_segment : GoodIn wsL_law wsX9_segment := goodIn_r _ [761, 749, 148, 710, 711, 5, 712, 152, 153, 154, 750, 751, 752, 753, 132, 595, 596, 597, 598, 133, 713, 714, 715, 716, 253, 131, 108, 717, 718, 719, 720, 506, 146, 147, 804, 805, 806, 807, 808, 809, 810, 811, 812, 813, 814, 815, 816, 817, 818, 819, 820, 821, 822, 823, 824, 825, 826, 827, 828, 829, 830, 831, 832, 833, 834, 835, 836, 837, 838, 839, 840, 841, 842, 843, 844, 845, 846, 847, 848, 849, 850, 851, 852, 853, 854, 855, 856, 857] (by decide +kernel) (by decide +kernel)
set_option maxRecDepth 20000 in
theorem gL_law_X9_segment : GoodIn wsL_law (wsV RL 99 RX9 yX9_segment wsX9_segment) := goodIn_app (goodIn_of _ (by decide +kernel)) ggL_law_X9_segment
set_option maxRecDepth 20000 in
theorem ggL_law_X8_longest : GoodIn wsL_law wsX8_longest := goodIn_r _ [765, 15, 476, 290, 314, 315, 2, 316, 685, 686, 687, 688, 21, 689, 690, 691, 23, 692, 61, 693, 694, 695, 696, 323, 227, 228, 18, 229, 230, 50, 697, 698, 699, 700, 701, 223, 224, 14, 225, 38, 226, 231, 166, 167, 168, 40, 494, 495, 496, 497, 490, 28, 498, 499, 500, 501, 335, 797, 798, 799, 800, 801, 802, 803, 858, 859, 860, 861, 862, 863, 864, 865, 866] (by decide +kernel) (by decide +kernel)
set_option maxRecDepth 20000 in
theorem gL_law_X8_longest : GoodIn wsL_law (wsV RL 100 RX8 yX8_longest wsX8_longest) := goodIn_app (goodIn_of _ (by decide +kernel)) ggL_law_X8_longest
set_option maxRecDepth 20000 in
theorem ggL_law_X9_longest : GoodIn wsL_law wsX9_longest := goodIn_r _ [769, 749, 148, 710, 711, 5, 712, 152, 153, 154, 750, 751, 752, 753, 132, 595, 596, 597, 598, 133, 713, 714, 715, 716, 253, 131, 108, 717, 718, 719, 720, 506, 146, 147, 804, 805, 806, 807, 808, 809, 810, 811, 812, 813, 814, 815, 816, 817, 818, 819, 820, 821, 822, 823, 824, 825, 826, 827, 828, 829, 830, 831, 832, 833, 834, 835, 836, 837, 838, 839, 840, 841, 842, 843, 844, 845, 846, 847, 848, 849, 850, 851, 852, 853, 854, 855, 856, 857] (by decide +kernel) (by decide +kernel)
set_option maxRecDepth 20000 in
theorem gL_law_X9_longest : GoodIn wsL_law (wsV RL 103 RX9 yX9_longest wsX9_longest) := goodIn_app (goodIn_of _ (by decide +kernel)) ggL_law_X9_longest
set_option maxRecDepth 20000 in
theorem ggL_law_X8_segmentsWith : GoodIn wsL_law wsX8_segmentsWith := goodIn_r _ [773, 15, 476, 290, 314, 315, 2, 316, 162, 163, 164, 685, 686, 687, 688, 21, 689, 690, 691, 23, 692, 61, 693, 694, 695, 696, 323, 227, 228, 18, 229, 230, 50, 697, 698, 699, 700, 701, 223, 224, 14, 225, 38, 226, 231, 166, 167, 168, 40, 494, 495, 496, 497, 490, 28, 498, 499, 500, 501, 335, 797, 798, 799, 800, 801, 802, 803, 858, 859, 860, 861, 862, 863, 864, 865, 866] (by decide +kernel) (by decide +kernel)
set_option maxRecDepth 20000 in
theorem gL_law_X8_segmentsWith : GoodIn wsL_law (wsV RL 104 RX8 yX8_segmentsWith wsX8_segmentsWith) := goodIn_app (goodIn_of _ (by decide +kernel)) ggL_law_X8_segmentsWith
set_option maxRecDepth 20000 in
theorem ggL_law_X9_segmentsWith : GoodIn wsL_law wsX9_segmentsWith := goodIn_r _ [777, 749, 148, 108, 131, 710, 711, 5, 712, 152, 153, 154, 750, 751, 752, 753, 132, 595, 596, 597, 598, 133, 713, 714, 715, 716, 253, 717, 718, 719, 720, 506, 146, 147, 804, 805, 806, 807, 808, 809, 810, 811, 812, 813, 814, 815, 816, 817, 818, 819, 820, 821, 822, 823, 824, 825, 826, 827, 828, 829, 830, 831, 832, 833, 834, 835, 836, 837, 838, 839, 840, 841, 842, 843, 844, 845, 846, 847, 848, 849, 850, 851, 852, 853, 854, 855, 856, 857] (by decide +kernel) (by decide +kernel)
set_option maxRecDepth 20000 in
theorem gL_law_X9_segmentsWith : GoodIn wsL_law (wsV RL 107 RX9 yX9_segmentsWith wsX9_segmentsWith) := goodIn_app (goodIn_of _ (by decide +kernel)) ggL_law_X9_segmentsWith
set_option maxRecDepth 20000 in
theorem ggL_law_X8_looksAt : GoodIn wsL_law wsX8_looksAt := goodIn_r _ [781, 21, 15, 782, 314, 315, 2, 316, 623, 624, 625, 626, 476, 290, 783, 191, 192, 23, 193, 188, 189, 60, 194, 186, 46, 47, 48, 195, 196, 197, 198, 63, 199, 68, 200, 201, 202, 203, 204, 205, 76, 72, 206, 207, 208, 209, 210, 211, 212, 213, 214, 215, 216, 217, 218, 73, 219, 220, 221, 222, 223, 224, 14, 225, 38, 226, 227, 228, 18, 229, 230, 50, 231, 166, 167, 168, 40, 232, 233, 234, 235, 75, 163, 164, 236, 237, 238, 239, 74, 240, 241, 242, 243, 77, 244, 797, 798, 799, 800, 801, 802, 803, 862, 863, 864, 865, 866, 858, 859, 860, 861, 875, 876, 877, 878, 879, 880, 881, 882, 883, 884, 885, 886] (by decide +kernel) (by decide +kernel)
set_option maxRecDepth 20000 in
theorem gL_law_X8_looksAt : GoodIn wsL_law (wsV RL 108 RX8 yX8_looksAt wsX8_looksAt) := goodIn_app (goodIn_of _ (by decide +kernel)) ggL_law_X8_looksAt
set_option maxRecDepth 20000 in
theorem ggL_law_X9_looksAt : GoodIn wsL_law wsX9_looksAt := goodIn_r _ [787, 253, 710, 711, 5, 712, 152, 153, 154, 599, 600, 601, 602, 120, 603, 604, 605, 606, 126, 125, 129, 127, 266, 267, 268, 269, 108, 131, 122, 274, 275, 276, 277, 123, 804, 805, 806, 807, 808, 809, 810, 811, 812, 813, 814, 815, 816, 817, 818, 819, 820, 821, 822, 823, 824, 825, 826, 827, 828, 829, 830, 831, 832, 833, 834, 835, 836, 837, 838, 839, 840, 841, 842, 843, 844, 845, 846, 847, 848, 849, 850, 851, 852, 853, 854, 855, 856, 857] (by decide +kernel) (by decide +kernel)
set_option maxRecDepth 20000 in
theorem gL_law_X9_looksAt : GoodIn wsL_law (wsV RL 111 RX9 yX9_looksAt wsX9_looksAt) := goodIn_app (goodIn_of _ (by decide +kernel)) ggL_law_X9_looksAt
set_option maxRecDepth 20000 in
theorem ggL_law_X8_work : GoodIn wsL_law wsX8_work := goodIn_r _ [791, 21, 792, 314, 315, 2, 316, 797, 798, 799, 800, 801, 802, 803, 862, 863, 864, 865, 866] (by decide +kernel) (by decide +kernel)
set_option maxRecDepth 20000 in
theorem gL_law_X8_work : GoodIn wsL_law (wsV RL 112 RX8 yX8_work wsX8_work) := goodIn_app (goodIn_of _ (by decide +kernel)) ggL_law_X8_work
set_option maxRecDepth 20000 in
theorem ggL_law_X9_work : GoodIn wsL_law wsX9_work := goodIn_r _ [796, 134, 710, 711, 5, 712, 152, 153, 154, 804, 805, 806, 807, 808, 809, 810, 811, 812, 813, 814, 815, 816, 817, 818, 819, 820, 821, 822, 823, 824, 825, 826, 827, 828, 829, 830, 831, 832, 833, 834, 835, 836, 837, 838, 839, 840, 841, 842, 843, 844, 845, 846, 847, 848, 849, 850, 851, 852, 853, 854, 855, 856, 857] (by decide +kernel) (by decide +kernel)
set_option maxRecDepth 20000 in
theorem gL_law_X9_work : GoodIn wsL_law (wsV RL 115 RX9 yX9_work wsX9_work) := goodIn_app (goodIn_of _ (by decide +kernel)) ggL_law_X9_work
