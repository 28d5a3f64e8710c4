set_option maxRecDepth 20000 in
theorem ggL_law_X9_undo : GoodIn wsL_law wsX9_undo := goodIn_r _ [638, 160, 78, 80, 872, 873, 874, 875, 876, 877, 878, 879, 880, 881, 882, 883, 884] (by decide +kernel) (by decide +kernel)
set_option maxRecDepth 20000 in
theorem gL_law_X9_undo : GoodIn wsL_law (wsV RL 72 RX9 yX9_undo wsX9_undo) := goodIn_app (goodIn_of _ (by decide +kernel)) ggL_law_X9_undo
set_option maxRecDepth 20000 in
theorem ggL_law_X8_keep : GoodIn wsL_law wsX8_keep := goodIn_r _ [642, 20, 15, 21, 91, 643, 106, 107, 14, 108, 35, 37, 109, 110, 111, 112, 113, 114, 115, 116, 117, 28, 118, 45, 49, 119, 120, 121, 122, 50, 123, 124, 125, 126, 127, 47, 128, 55, 129, 130, 56, 131, 132, 133, 134, 39, 135, 136, 137, 138, 139, 140, 141, 866, 867, 868, 869, 870, 871, 885, 886, 887, 888, 889, 890, 891, 892, 903, 904, 905, 906, 907, 908, 909, 916, 917, 918, 919, 910, 911, 912, 913, 914, 915] (by decide +kernel) (by decide +kernel)
set_option maxRecDepth 20000 in
theorem gL_law_X8_keep : GoodIn wsL_law (wsV RL 73 RX8 yX8_keep wsX8_keep) := goodIn_app (goodIn_of _ (by decide +kernel)) ggL_law_X8_keep
set_option maxRecDepth 20000 in
theorem ggL_law_X9_keep : GoodIn wsL_law wsX9_keep := goodIn_r _ [647, 81, 78, 648, 872, 873, 874, 875, 876, 877, 878, 879, 880, 881, 882, 883, 884] (by decide +kernel) (by decide +kernel)
set_option maxRecDepth 20000 in
theorem gL_law_X9_keep : GoodIn wsL_law (wsV RL 76 RX9 yX9_keep wsX9_keep) := goodIn_app (goodIn_of _ (by decide +kernel)) ggL_law_X9_keep
set_option maxRecDepth 20000 in
theorem ggL_law_X8_restore : GoodIn wsL_law wsX8_restore := goodIn_r _ [652, 21, 19, 15, 20, 91, 96, 97, 98, 18, 99, 100, 65, 101, 102, 103, 104, 105, 106, 107, 14, 108, 35, 37, 109, 110, 111, 112, 113, 114, 115, 116, 117, 28, 118, 45, 49, 119, 120, 121, 122, 50, 123, 124, 125, 126, 127, 47, 128, 55, 129, 130, 56, 131, 132, 133, 134, 39, 135, 136, 137, 138, 139, 140, 141, 643, 866, 867, 868, 869, 870, 871, 885, 886, 887, 888, 889, 890, 891, 892, 893, 894, 903, 904, 905, 906, 907, 908, 909, 916, 917, 918, 919, 910, 911, 912, 913, 914, 915] (by decide +kernel) (by decide +kernel)
set_option maxRecDepth 20000 in
theorem gL_law_X8_restore : GoodIn wsL_law (wsV RL 77 RX8 yX8_restore wsX8_restore) := goodIn_app (goodIn_of _ (by decide +kernel)) ggL_law_X8_restore
set_option maxRecDepth 20000 in
theorem ggL_law_X9_restore : GoodIn wsL_law wsX9_restore := goodIn_r _ [656, 648, 78, 81, 150, 151, 152, 5, 153, 79, 154, 155, 156, 157, 158, 159, 160, 80, 161, 162, 163, 164, 872, 873, 874, 875, 876, 877, 878, 879, 880, 881, 882, 883, 884] (by decide +kernel) (by decide +kernel)
set_option maxRecDepth 20000 in
theorem gL_law_X9_restore : GoodIn wsL_law (wsV RL 80 RX9 yX9_restore wsX9_restore) := goodIn_app (goodIn_of _ (by decide +kernel)) ggL_law_X9_restore
set_option maxRecDepth 20000 in
theorem ggL_law_X8_date : GoodIn wsL_law wsX8_date := goodIn_r _ [660, 170, 171, 172, 173, 174, 175, 176, 177, 178, 179, 180, 181, 182, 183, 184, 185, 186, 187, 188, 189, 190, 661, 545, 546, 662, 548, 549, 663, 551, 552] (by decide +kernel) (by decide +kernel)
set_option maxRecDepth 20000 in
theorem gL_law_X8_date : GoodIn wsL_law (wsV RL 81 RX8 yX8_date wsX8_date) := goodIn_app (goodIn_of _ (by decide +kernel)) ggL_law_X8_date
set_option maxRecDepth 20000 in
theorem ggL_law_X9_date_ : GoodIn wsL_law wsX9_date_ := goodIn_r _ [667, 225, 226, 5, 227, 146, 147, 148, 149, 240, 241, 242, 243, 244, 245, 246, 247, 248] (by decide +kernel) (by decide +kernel)
set_option maxRecDepth 20000 in
theorem gL_law_X9_date_ : GoodIn wsL_law (wsV RL 84 RX9 yX9_date_ wsX9_date_) := goodIn_app (goodIn_of _ (by decide +kernel)) ggL_law_X9_date_
set_option maxRecDepth 20000 in
theorem ggL_law_X8_day : GoodIn wsL_law wsX8_day := goodIn_r _ [671, 672, 93, 94, 2, 95, 673, 674, 172, 675, 550, 551, 552, 547, 548, 549, 544, 545, 546, 181, 182, 183, 184, 185, 186, 187, 188, 189, 190, 178, 179, 180] (by decide +kernel) (by decide +kernel)
set_option maxRecDepth 20000 in
theorem gL_law_X8_day : GoodIn wsL_law (wsV RL 85 RX8 yX8_day wsX8_day) := goodIn_app (goodIn_of _ (by decide +kernel)) ggL_law_X8_day
set_option maxRecDepth 20000 in
theorem ggL_law_X9_day : GoodIn wsL_law wsX9_day := goodIn_r _ [679, 680, 147, 148, 5, 149, 595, 596, 597, 246, 247, 248, 243, 244, 245] (by decide +kernel) (by decide +kernel)
set_option maxRecDepth 20000 in
theorem gL_law_X9_day : GoodIn wsL_law (wsV RL 88 RX9 yX9_day wsX9_day) := goodIn_app (goodIn_of _ (by decide +kernel)) ggL_law_X9_day
set_option maxRecDepth 20000 in
theorem ggL_law_X8_band : GoodIn wsL_law wsX8_band := goodIn_r _ [684, 15, 169, 263, 429, 264, 446, 265, 211, 2, 212, 93, 94, 95, 685, 686, 687, 47, 688, 56, 689, 319, 320, 321, 690, 691, 692, 693, 694, 218, 219, 209, 220, 695, 315, 316, 28, 317, 50, 303, 318, 866, 867, 868, 869, 870, 871, 885, 886, 887, 888, 889, 890, 891, 892, 903, 904, 905, 906, 907, 908, 909, 916, 917, 918, 919] (by decide +kernel) (by decide +kernel)
set_option maxRecDepth 20000 in
theorem gL_law_X8_band : GoodIn wsL_law (wsV RL 89 RX8 yX8_band wsX8_band) := goodIn_app (goodIn_of _ (by decide +kernel)) ggL_law_X8_band
set_option maxRecDepth 20000 in
theorem ggL_law_X9_band : GoodIn wsL_law wsX9_band := goodIn_r _ [699, 78, 271, 272, 5, 273, 147, 148, 149, 84, 85, 86, 700, 701, 702, 703, 400, 401, 402, 403, 872, 873, 874, 875, 876, 877, 878, 879, 880, 881, 882, 883, 884] (by decide +kernel) (by decide +kernel)
set_option maxRecDepth 20000 in
theorem gL_law_X9_band : GoodIn wsL_law (wsV RL 92 RX9 yX9_band wsX9_band) := goodIn_app (goodIn_of _ (by decide +kernel)) ggL_law_X9_band
set_option maxRecDepth 20000 in
theorem ggL_law_X8_wear : GoodIn wsL_law wsX8_wear := goodIn_r _ [707, 15, 169, 263, 265, 211, 2, 212, 93, 94, 95, 690, 319, 320, 47, 321, 56, 866, 867, 868, 869, 870, 871, 885, 886, 887, 888, 889, 890, 891, 892, 903, 904, 905, 906, 907, 908, 909, 916, 917, 918, 919] (by decide +kernel) (by decide +kernel)
set_option maxRecDepth 20000 in
theorem gL_law_X8_wear : GoodIn wsL_law (wsV RL 93 RX8 yX8_wear wsX8_wear) := goodIn_app (goodIn_of _ (by decide +kernel)) ggL_law_X8_wear
set_option maxRecDepth 20000 in
theorem ggL_law_X9_wear : GoodIn wsL_law wsX9_wear := goodIn_r _ [711, 78, 271, 272, 5, 273, 147, 148, 149, 84, 85, 86, 872, 873, 874, 875, 876, 877, 878, 879, 880, 881, 882, 883, 884] (by decide +kernel) (by decide +kernel)
set_option maxRecDepth 20000 in
theorem gL_law_X9_wear : GoodIn wsL_law (wsV RL 96 RX9 yX9_wear wsX9_wear) := goodIn_app (goodIn_of _ (by decide +kernel)) ggL_law_X9_wear
set_option maxRecDepth 20000 in
theorem ggL_law_X8_print : GoodIn wsL_law wsX8_print := goodIn_r _ [715, 15, 716, 717, 718, 719, 720, 721, 722, 723, 724, 725, 14, 726, 110, 727, 295, 296, 297, 298, 200, 201, 202, 728, 729, 730, 39, 731, 138, 139, 732, 733, 172, 734, 735, 736, 737, 550, 551, 552, 738, 739, 740, 184, 185, 186, 741, 742, 743, 744, 745, 746, 547, 548, 549, 187, 188, 189, 190, 747, 748, 749, 544, 545, 546, 750, 751, 752, 753, 754, 755, 756, 181, 182, 183, 757, 674, 675, 178, 179, 180, 866, 867, 868, 869, 870, 871, 885, 886, 887, 888, 889, 890, 891, 892, 910, 911, 912, 913, 914, 915] (by decide +kernel) (by decide +kernel)
set_option maxRecDepth 20000 in
theorem gL_law_X8_print : GoodIn wsL_law (wsV RL 97 RX8 yX8_print wsX8_print) := goodIn_app (goodIn_of _ (by decide +kernel)) ggL_law_X8_print
set_option maxRecDepth 20000 in
theorem ggL_law_X9_print : GoodIn wsL_law wsX9_print := goodIn_r _ [761, 78, 147, 148, 5, 149, 762, 763, 764, 246, 247, 248, 765, 766, 767, 249, 250, 251, 872, 873, 874, 875, 876, 877, 878, 879, 880, 881, 882, 883, 884] (by decide +kernel) (by decide +kernel)
set_option maxRecDepth 20000 in
theorem gL_law_X9_print : GoodIn wsL_law (wsV RL 100 RX9 yX9_print wsX9_print) := goodIn_app (goodIn_of _ (by decide +kernel)) ggL_law_X9_print
set_option maxRecDepth 20000 in
theorem ggL_law_X8_rightOf : GoodIn wsL_law wsX8_rightOf := goodIn_r _ [771, 15, 170, 171, 172, 173, 174, 772, 773, 774, 14, 775, 114, 358, 362, 363, 866, 867, 868, 869, 870, 871, 885, 886, 887, 888, 889, 890, 891, 892, 920, 921, 922, 923] (by decide +kernel) (by decide +kernel)
set_option maxRecDepth 20000 in
theorem gL_law_X8_rightOf : GoodIn wsL_law (wsV RL 101 RX8 yX8_rightOf wsX8_rightOf) := goodIn_app (goodIn_of _ (by decide +kernel)) ggL_law_X8_rightOf
set_option maxRecDepth 20000 in
theorem ggL_law_X9_rightOf : GoodIn wsL_law wsX9_rightOf := goodIn_r _ [779, 78, 83, 225, 226, 5, 227, 146, 147, 148, 149, 872, 873, 874, 875, 876, 877, 878, 879, 880, 881, 882, 883, 884] (by decide +kernel) (by decide +kernel)
set_option maxRecDepth 20000 in
theorem gL_law_X9_rightOf : GoodIn wsL_law (wsV RL 104 RX9 yX9_rightOf wsX9_rightOf) := goodIn_app (goodIn_of _ (by decide +kernel)) ggL_law_X9_rightOf
set_option maxRecDepth 20000 in
theorem ggL_law_X8_count : GoodIn wsL_law wsX8_count := goodIn_r _ [783, 15, 91, 169, 415, 784, 785, 786, 787, 788, 789, 790, 791, 19, 630, 25, 489, 471, 792, 300, 301, 28, 302, 45, 303, 175, 176, 172, 177, 178, 179, 180, 181, 182, 183, 184, 185, 186, 187, 188, 189, 190, 673, 674, 675, 550, 551, 552, 547, 548, 549, 544, 545, 546, 866, 867, 868, 869, 870, 871, 885, 886, 887, 888, 889, 890, 891, 892, 903, 904, 905, 906, 907, 908, 909, 920, 921, 922, 923, 893, 894, 895, 896, 897, 898, 899, 900, 901, 902, 916, 917, 918, 919] (by decide +kernel) (by decide +kernel)
set_option maxRecDepth 20000 in
theorem gL_law_X8_count : GoodIn wsL_law (wsV RL 105 RX8 yX8_count wsX8_count) := goodIn_app (goodIn_of _ (by decide +kernel)) ggL_law_X8_count
set_option maxRecDepth 20000 in
theorem ggL_law_X9_count : GoodIn wsL_law wsX9_count := goodIn_r _ [796, 78, 83, 160, 499, 388, 389, 390, 5, 391, 392, 393, 394, 395, 84, 85, 86, 240, 241, 242, 243, 244, 245, 246, 247, 248, 595, 596, 597, 147, 148, 149, 872, 873, 874, 875, 876, 877, 878, 879, 880, 881, 882, 883, 884] (by decide +kernel) (by decide +kernel)
set_option maxRecDepth 20000 in
theorem gL_law_X9_count : GoodIn wsL_law (wsV RL 108 RX9 yX9_count wsX9_count) := goodIn_app (goodIn_of _ (by decide +kernel)) ggL_law_X9_count
set_option maxRecDepth 20000 in
theorem ggL_law_X8_even : GoodIn wsL_law wsX8_even := goodIn_r _ [800, 15, 169, 263, 801, 311, 209, 312, 802, 455, 456, 457, 47, 458, 56, 685, 686, 687, 688, 689, 319, 320, 321, 690, 866, 867, 868, 869, 870, 871, 885, 886, 887, 888, 889, 890, 891, 892, 903, 904, 905, 906, 907, 908, 909, 916, 917, 918, 919] (by decide +kernel) (by decide +kernel)
set_option maxRecDepth 20000 in
theorem gL_law_X8_even : GoodIn wsL_law (wsV RL 109 RX8 yX8_even wsX8_even) := goodIn_app (goodIn_of _ (by decide +kernel)) ggL_law_X8_even
set_option maxRecDepth 20000 in
theorem ggL_law_X9_even : GoodIn wsL_law wsX9_even := goodIn_r _ [806, 78, 807, 84, 85, 5, 86, 872, 873, 874, 875, 876, 877, 878, 879, 880, 881, 882, 883, 884] (by decide +kernel) (by decide +kernel)
set_option maxRecDepth 20000 in
theorem gL_law_X9_even : GoodIn wsL_law (wsV RL 113 RX9 yX9_even wsX9_even) := goodIn_app (goodIn_of _ (by decide +kernel)) ggL_law_X9_even
set_option maxRecDepth 20000 in
theorem ggL_law_X8_stepsTo : GoodIn wsL_law wsX8_stepsTo := goodIn_r _ [811, 15, 169, 170, 171, 172, 173, 174, 175, 176, 177, 178, 179, 180, 181, 182, 183, 184, 185, 186, 187, 188, 189, 190, 812, 813, 814, 28, 815, 45, 207, 208, 209, 210, 195, 196, 197, 47, 198, 129, 199, 200, 201, 202, 866, 867, 868, 869, 870, 871, 885, 886, 887, 888, 889, 890, 891, 892, 903, 904, 905, 906, 907, 908, 909, 916, 917, 918, 919] (by decide +kernel) (by decide +kernel)
set_option maxRecDepth 20000 in
theorem gL_law_X8_stepsTo : GoodIn wsL_law (wsV RL 114 RX8 yX8_stepsTo wsX8_stepsTo) := goodIn_app (goodIn_of _ (by decide +kernel)) ggL_law_X8_stepsTo
set_option maxRecDepth 20000 in
theorem ggL_law_X9_stepsTo : GoodIn wsL_law wsX9_stepsTo := goodIn_r _ [819, 225, 226, 5, 227, 146, 147, 148, 149, 232, 233, 234, 235, 236, 237, 238, 239, 78, 240, 241, 242, 243, 244, 245, 246, 247, 248, 249, 250, 251, 84, 85, 86, 252, 253, 254, 872, 873, 874, 875, 876, 877, 878, 879, 880, 881, 882, 883, 884] (by decide +kernel) (by decide +kernel)
set_option maxRecDepth 20000 in
theorem gL_law_X9_stepsTo : GoodIn wsL_law (wsV RL 117 RX9 yX9_stepsTo wsX9_stepsTo) := goodIn_app (goodIn_of _ (by decide +kernel)) ggL_law_X9_stepsTo
set_option maxRecDepth 20000 in
theorem ggL_law_X8_leastPress : GoodIn wsL_law wsX8_leastPress := goodIn_r _ [823, 15, 169, 824, 825, 826, 28, 827, 45, 314, 315, 316, 317, 50, 303, 318, 319, 320, 47, 321, 56, 322, 323, 324, 325, 49, 326, 327, 328, 329, 866, 867, 868, 869, 870, 871, 885, 886, 887, 888, 889, 890, 891, 892, 903, 904, 905, 906, 907, 908, 909, 916, 917, 918, 919] (by decide +kernel) (by decide +kernel)
set_option maxRecDepth 20000 in
theorem gL_law_X8_leastPress : GoodIn wsL_law (wsV RL 118 RX8 yX8_leastPress wsX8_leastPress) := goodIn_app (goodIn_of _ (by decide +kernel)) ggL_law_X8_leastPress
set_option maxRecDepth 20000 in
theorem ggL_law_X9_leastPress : GoodIn wsL_law wsX9_leastPress := goodIn_r _ [831, 396, 397, 398, 5, 399, 78, 400, 401, 402, 403, 84, 85, 86, 872, 873, 874, 875, 876, 877, 878, 879, 880, 881, 882, 883, 884] (by decide +kernel) (by decide +kernel)
set_option maxRecDepth 20000 in
theorem gL_law_X9_leastPress : GoodIn wsL_law (wsV RL 121 RX9 yX9_leastPress wsX9_leastPress) := goodIn_app (goodIn_of _ (by decide +kernel)) ggL_law_X9_leastPress
set_option maxRecDepth 20000 in
theorem ggL_law_X8_lasts : GoodIn wsL_law wsX8_lasts := goodIn_r _ [835, 278, 279, 2, 280, 93, 94, 95, 836, 837, 838, 839, 29, 15, 169, 415, 91, 92, 840, 116, 117, 28, 118, 45, 49, 119, 120, 121, 122, 50, 123, 124, 125, 126, 127, 47, 128, 55, 129, 130, 56, 131, 430, 431, 432, 433, 211, 212, 175, 176, 172, 177, 178, 179, 180, 181, 182, 183, 184, 185, 186, 187, 188, 189, 190, 191, 192, 193, 194, 195, 196, 197, 198, 199, 200, 201, 202, 203, 204, 205, 206, 207, 208, 209, 210, 213, 214, 215, 216, 217, 218, 219, 220, 841, 842, 843, 844, 845, 305, 306, 307, 308, 309, 310, 311, 312, 313, 300, 301, 302, 303, 314, 315, 316, 317, 318, 319, 320, 321, 322, 323, 324, 325, 326, 327, 328, 329, 330, 331, 332, 333, 334, 335, 336, 337, 338, 339, 340, 341, 342, 866, 867, 868, 869, 870, 871, 885, 886, 887, 888, 889, 890, 891, 892, 903, 904, 905, 906, 907, 908, 909, 916, 917, 918, 919] (by decide +kernel) (by decide +kernel)
set_option maxRecDepth 20000 in
theorem gL_law_X8_lasts : GoodIn wsL_law (wsV RL 122 RX8 yX8_lasts wsX8_lasts) := goodIn_app (goodIn_of _ (by decide +kernel)) ggL_law_X8_lasts
set_option maxRecDepth 20000 in
theorem ggL_law_X9_lasts : GoodIn wsL_law wsX9_lasts := goodIn_r _ [849, 850, 851, 852, 5, 853, 147, 148, 149, 150, 151, 152, 153, 79, 78, 154, 155, 854, 855, 856, 857, 146, 228, 229, 230, 231, 232, 233, 234, 235, 236, 237, 238, 239, 240, 241, 242, 243, 244, 245, 246, 247, 248, 249, 250, 251, 84, 85, 86, 252, 253, 254, 255, 256, 257, 258, 384, 385, 386, 387, 388, 389, 390, 391, 392, 393, 394, 395, 396, 397, 398, 399, 400, 401, 402, 403, 407, 408, 409, 410, 161, 162, 163, 164, 872, 873, 874, 875, 876, 877, 878, 879, 880, 881, 882, 883, 884] (by decide +kernel) (by decide +kernel)
set_option maxRecDepth 20000 in
theorem gL_law_X9_lasts : GoodIn wsL_law (wsV RL 125 RX9 yX9_lasts wsX9_lasts) := goodIn_app (goodIn_of _ (by decide +kernel)) ggL_law_X9_lasts
set_option maxRecDepth 20000 in
theorem ggL_law_X8_bestExchange : GoodIn wsL_law wsX8_bestExchange := goodIn_r _ [861, 278, 279, 2, 280, 93, 94, 95, 836, 837, 838, 839, 29, 15, 169, 415, 91, 92, 840, 116, 117, 28, 118, 45, 49, 119, 120, 121, 122, 50, 123, 124, 125, 126, 127, 47, 128, 55, 129, 130, 56, 131, 430, 431, 432, 433, 211, 212, 175, 176, 172, 177, 178, 179, 180, 181, 182, 183, 184, 185, 186, 187, 188, 189, 190, 191, 192, 193, 194, 195, 196, 197, 198, 199, 200, 201, 202, 203, 204, 205, 206, 207, 208, 209, 210, 213, 214, 215, 216, 217, 218, 219, 220, 841, 842, 843, 844, 845, 305, 306, 307, 308, 309, 310, 311, 312, 313, 300, 301, 302, 303, 314, 315, 316, 317, 318, 319, 320, 321, 322, 323, 324, 325, 326, 327, 328, 329, 330, 331, 332, 333, 334, 335, 336, 337, 338, 339, 340, 341, 342, 866, 867, 868, 869, 870, 871, 885, 886, 887, 888, 889, 890, 891, 892, 903, 904, 905, 906, 907, 908, 909, 916, 917, 918, 919] (by decide +kernel) (by decide +kernel)
set_option maxRecDepth 20000 in
theorem gL_law_X8_bestExchange : GoodIn wsL_law (wsV RL 126 RX8 yX8_bestExchange wsX8_bestExchange) := goodIn_app (goodIn_of _ (by decide +kernel)) ggL_law_X8_bestExchange
set_option maxRecDepth 20000 in
theorem ggL_law_X9_bestExchange : GoodIn wsL_law wsX9_bestExchange := goodIn_r _ [865, 851, 852, 5, 853, 147, 148, 149, 150, 151, 152, 153, 79, 78, 154, 155, 854, 855, 856, 857, 146, 850, 228, 229, 230, 231, 232, 233, 234, 235, 236, 237, 238, 239, 240, 241, 242, 243, 244, 245, 246, 247, 248, 249, 250, 251, 84, 85, 86, 252, 253, 254, 255, 256, 257, 258, 384, 385, 386, 387, 388, 389, 390, 391, 392, 393, 394, 395, 396, 397, 398, 399, 400, 401, 402, 403, 407, 408, 409, 410, 161, 162, 163, 164, 438, 439, 440, 441, 872, 873, 874, 875, 876, 877, 878, 879, 880, 881, 882, 883, 884] (by decide +kernel) (by decide +kernel)
set_option maxRecDepth 20000 in
theorem gL_law_X9_bestExchange : GoodIn wsL_law (wsV RL 129 RX9 yX9_bestExchange wsX9_bestExchange) := goodIn_app (goodIn_of _ (by decide +kernel)) ggL_law_X9_bestExchange
