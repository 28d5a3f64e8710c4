set_option maxRecDepth 20000 in
theorem ggL_law_X8_init : GoodIn wsL_law wsX8_init := goodIn_r _ [8, 9, 10, 11, 12, 13, 14, 15, 16, 17, 18, 19, 20, 21, 22, 23, 24, 25, 26, 27, 28, 29, 30, 31, 32, 33, 34, 35, 36, 37, 38, 39, 40, 41, 42, 43, 44, 45, 46, 47, 48, 49, 50, 51, 52, 53, 54, 55, 56, 57, 58, 59, 60, 61, 62, 63, 64, 65, 66, 67, 68, 69, 70, 71, 72, 73, 885, 886, 887, 888, 889, 890, 891, 892, 866, 867, 868, 869, 870, 871, 893, 894, 895, 896, 897, 898, 899, 900, 901, 902, 903, 904, 905, 906, 907, 908, 909, 910, 911, 912, 913, 914, 915, 916, 917, 918, 919] (by decide +kernel) (by decide +kernel)
set_option maxRecDepth 20000 in
theorem gL_law_X8_init : GoodIn wsL_law (wsX8_init) := ggL_law_X8_init
set_option maxRecDepth 20000 in
theorem ggL_law_X9_init : GoodIn wsL_law wsX9_init := goodIn_r _ [76, 77, 10, 11, 48, 78, 79, 80, 81, 82, 83, 84, 85, 5, 86, 872, 873, 874, 875, 876, 877, 878, 879, 880, 881, 882, 883, 884] (by decide +kernel) (by decide +kernel)
set_option maxRecDepth 20000 in
theorem gL_law_X9_init : GoodIn wsL_law (wsX9_init) := ggL_law_X9_init
set_option maxRecDepth 20000 in
theorem ggL_law_X8_pass : GoodIn wsL_law wsX8_pass := goodIn_r _ [90, 15, 91, 92, 19, 93, 94, 2, 95, 96, 97, 98, 18, 99, 100, 65, 101, 102, 103, 104, 105, 106, 107, 14, 108, 35, 37, 109, 110, 111, 112, 113, 114, 115, 116, 117, 28, 118, 45, 49, 119, 120, 121, 122, 50, 123, 124, 125, 126, 127, 47, 128, 55, 129, 130, 56, 131, 132, 133, 134, 39, 135, 136, 137, 138, 139, 140, 141, 866, 867, 868, 869, 870, 871, 885, 886, 887, 888, 889, 890, 891, 892, 893, 894, 903, 904, 905, 906, 907, 908, 909, 916, 917, 918, 919, 910, 911, 912, 913, 914, 915] (by decide +kernel) (by decide +kernel)
set_option maxRecDepth 20000 in
theorem gL_law_X8_pass : GoodIn wsL_law (wsV RL 13 RX8 yX8_pass wsX8_pass) := goodIn_app (goodIn_of _ (by decide +kernel)) ggL_law_X8_pass
set_option maxRecDepth 20000 in
theorem ggL_law_X9_pass : GoodIn wsL_law wsX9_pass := goodIn_r _ [145, 78, 146, 147, 148, 5, 149, 150, 151, 152, 153, 79, 154, 155, 156, 157, 158, 159, 160, 80, 161, 162, 163, 164, 872, 873, 874, 875, 876, 877, 878, 879, 880, 881, 882, 883, 884] (by decide +kernel) (by decide +kernel)
set_option maxRecDepth 20000 in
theorem gL_law_X9_pass : GoodIn wsL_law (wsV RL 17 RX9 yX9_pass wsX9_pass) := goodIn_app (goodIn_of _ (by decide +kernel)) ggL_law_X9_pass
set_option maxRecDepth 20000 in
theorem ggL_law_X8_adjust : GoodIn wsL_law wsX8_adjust := goodIn_r _ [168, 19, 15, 169, 170, 171, 172, 173, 174, 96, 97, 98, 18, 99, 100, 65, 101, 102, 103, 104, 105, 106, 107, 14, 108, 35, 37, 109, 110, 111, 112, 113, 114, 115, 116, 117, 28, 118, 45, 49, 119, 120, 121, 122, 50, 123, 124, 125, 126, 127, 47, 128, 55, 129, 130, 56, 131, 132, 133, 134, 39, 135, 136, 137, 138, 139, 140, 141, 175, 176, 177, 178, 179, 180, 181, 182, 183, 184, 185, 186, 187, 188, 189, 190, 191, 192, 193, 194, 195, 196, 197, 198, 199, 200, 201, 202, 203, 204, 205, 206, 207, 208, 209, 210, 211, 2, 212, 93, 94, 95, 213, 214, 215, 216, 217, 218, 219, 220, 866, 867, 868, 869, 870, 871, 885, 886, 887, 888, 889, 890, 891, 892, 893, 894, 903, 904, 905, 906, 907, 908, 909, 916, 917, 918, 919, 910, 911, 912, 913, 914, 915] (by decide +kernel) (by decide +kernel)
set_option maxRecDepth 20000 in
theorem gL_law_X8_adjust : GoodIn wsL_law (wsV RL 18 RX8 yX8_adjust wsX8_adjust) := goodIn_app (goodIn_of _ (by decide +kernel)) ggL_law_X8_adjust
set_option maxRecDepth 20000 in
theorem ggL_law_X9_adjust : GoodIn wsL_law wsX9_adjust := goodIn_r _ [224, 225, 226, 5, 227, 146, 147, 148, 149, 150, 151, 152, 153, 79, 78, 154, 155, 228, 229, 230, 231, 232, 233, 234, 235, 236, 237, 238, 239, 240, 241, 242, 243, 244, 245, 246, 247, 248, 249, 250, 251, 84, 85, 86, 252, 253, 254, 255, 256, 257, 258, 156, 157, 158, 159, 160, 80, 161, 162, 163, 164, 872, 873, 874, 875, 876, 877, 878, 879, 880, 881, 882, 883, 884] (by decide +kernel) (by decide +kernel)
set_option maxRecDepth 20000 in
theorem gL_law_X9_adjust : GoodIn wsL_law (wsV RL 21 RX9 yX9_adjust wsX9_adjust) := goodIn_app (goodIn_of _ (by decide +kernel)) ggL_law_X9_adjust
set_option maxRecDepth 20000 in
theorem ggL_law_X8_turn : GoodIn wsL_law wsX8_turn := goodIn_r _ [262, 19, 15, 169, 263, 264, 265, 211, 2, 212, 93, 94, 95, 96, 97, 98, 18, 99, 100, 65, 101, 102, 103, 104, 105, 106, 107, 14, 108, 35, 37, 109, 110, 111, 112, 113, 114, 115, 116, 117, 28, 118, 45, 49, 119, 120, 121, 122, 50, 123, 124, 125, 126, 127, 47, 128, 55, 129, 130, 56, 131, 132, 133, 134, 39, 135, 136, 137, 138, 139, 140, 141, 266, 204, 205, 206, 207, 208, 209, 210, 213, 214, 215, 216, 217, 218, 219, 220, 199, 200, 201, 202, 866, 867, 868, 869, 870, 871, 885, 886, 887, 888, 889, 890, 891, 892, 903, 904, 905, 906, 907, 908, 909, 916, 917, 918, 919, 893, 894, 910, 911, 912, 913, 914, 915] (by decide +kernel) (by decide +kernel)
set_option maxRecDepth 20000 in
theorem gL_law_X8_turn : GoodIn wsL_law (wsV RL 22 RX8 yX8_turn wsX8_turn) := goodIn_app (goodIn_of _ (by decide +kernel)) ggL_law_X8_turn
set_option maxRecDepth 20000 in
theorem ggL_law_X9_turn : GoodIn wsL_law wsX9_turn := goodIn_r _ [270, 78, 271, 272, 5, 273, 147, 148, 149, 150, 151, 152, 153, 79, 154, 155, 255, 256, 257, 258, 84, 85, 86, 252, 253, 254, 156, 157, 158, 159, 160, 80, 161, 162, 163, 164, 872, 873, 874, 875, 876, 877, 878, 879, 880, 881, 882, 883, 884] (by decide +kernel) (by decide +kernel)
set_option maxRecDepth 20000 in
theorem gL_law_X9_turn : GoodIn wsL_law (wsV RL 26 RX9 yX9_turn wsX9_turn) := goodIn_app (goodIn_of _ (by decide +kernel)) ggL_law_X9_turn
set_option maxRecDepth 20000 in
theorem ggL_law_X8_press : GoodIn wsL_law wsX8_press := goodIn_r _ [277, 19, 15, 278, 279, 2, 280, 93, 94, 95, 96, 97, 98, 18, 99, 100, 65, 101, 102, 103, 104, 105, 106, 107, 14, 108, 35, 37, 109, 110, 111, 112, 113, 114, 115, 116, 117, 28, 118, 45, 49, 119, 120, 121, 122, 50, 123, 124, 125, 126, 127, 47, 128, 55, 129, 130, 56, 131, 132, 133, 134, 39, 135, 136, 137, 138, 139, 140, 141, 281, 282, 283, 284, 285, 286, 287, 288, 289, 290, 291, 292, 293, 176, 172, 177, 178, 179, 180, 181, 182, 183, 184, 185, 186, 187, 188, 189, 190, 294, 295, 296, 297, 298, 200, 201, 202, 299, 300, 301, 302, 303, 304, 305, 306, 307, 308, 309, 310, 311, 209, 312, 313, 314, 315, 316, 317, 318, 319, 320, 321, 322, 323, 324, 325, 326, 327, 328, 329, 330, 331, 332, 333, 218, 219, 220, 334, 335, 336, 337, 338, 339, 340, 341, 342, 199, 343, 344, 345, 346, 347, 348, 349, 350, 351, 352, 353, 354, 355, 356, 357, 358, 359, 360, 361, 362, 363, 364, 365, 366, 367, 10, 11, 368, 369, 370, 371, 866, 867, 868, 869, 870, 871, 893, 894, 885, 886, 887, 888, 889, 890, 891, 892, 903, 904, 905, 906, 907, 908, 909, 916, 917, 918, 919, 910, 911, 912, 913, 914, 915, 920, 921, 922, 923] (by decide +kernel) (by decide +kernel)
set_option maxRecDepth 20000 in
theorem gL_law_X8_press : GoodIn wsL_law (wsV RL 27 RX8 yX8_press wsX8_press) := goodIn_app (goodIn_of _ (by decide +kernel)) ggL_law_X8_press
set_option maxRecDepth 20000 in
theorem ggL_law_X9_press : GoodIn wsL_law wsX9_press := goodIn_r _ [375, 147, 148, 5, 149, 150, 151, 152, 153, 79, 78, 154, 155, 376, 377, 378, 379, 83, 380, 381, 382, 383, 384, 385, 386, 387, 388, 389, 390, 391, 392, 393, 394, 395, 84, 85, 86, 240, 241, 242, 243, 244, 245, 246, 247, 248, 396, 397, 398, 399, 400, 401, 402, 403, 252, 253, 254, 404, 405, 406, 407, 408, 409, 410, 156, 157, 158, 159, 160, 80, 161, 162, 163, 164, 872, 873, 874, 875, 876, 877, 878, 879, 880, 881, 882, 883, 884] (by decide +kernel) (by decide +kernel)
set_option maxRecDepth 20000 in
theorem gL_law_X9_press : GoodIn wsL_law (wsV RL 30 RX9 yX9_press wsX9_press) := goodIn_app (goodIn_of _ (by decide +kernel)) ggL_law_X9_press
set_option maxRecDepth 20000 in
theorem ggL_law_X8_fill : GoodIn wsL_law wsX8_fill := goodIn_r _ [414, 15, 169, 415, 19, 93, 94, 2, 95, 96, 97, 98, 18, 99, 100, 65, 101, 102, 103, 104, 105, 106, 107, 14, 108, 35, 37, 109, 110, 111, 112, 113, 114, 115, 116, 117, 28, 118, 45, 49, 119, 120, 121, 122, 50, 123, 124, 125, 126, 127, 47, 128, 55, 129, 130, 56, 131, 132, 133, 134, 39, 135, 136, 137, 138, 139, 140, 141, 416, 417, 418, 419, 420, 219, 209, 220, 866, 867, 868, 869, 870, 871, 885, 886, 887, 888, 889, 890, 891, 892, 903, 904, 905, 906, 907, 908, 909, 893, 894, 916, 917, 918, 919, 910, 911, 912, 913, 914, 915] (by decide +kernel) (by decide +kernel)
set_option maxRecDepth 20000 in
theorem gL_law_X8_fill : GoodIn wsL_law (wsV RL 31 RX8 yX8_fill wsX8_fill) := goodIn_app (goodIn_of _ (by decide +kernel)) ggL_law_X8_fill
set_option maxRecDepth 20000 in
theorem ggL_law_X9_fill : GoodIn wsL_law wsX9_fill := goodIn_r _ [424, 78, 147, 148, 5, 149, 150, 151, 152, 153, 79, 154, 155, 252, 253, 254, 156, 157, 158, 159, 160, 80, 161, 162, 163, 164, 872, 873, 874, 875, 876, 877, 878, 879, 880, 881, 882, 883, 884] (by decide +kernel) (by decide +kernel)
set_option maxRecDepth 20000 in
theorem gL_law_X9_fill : GoodIn wsL_law (wsV RL 34 RX9 yX9_fill wsX9_fill) := goodIn_app (goodIn_of _ (by decide +kernel)) ggL_law_X9_fill
set_option maxRecDepth 20000 in
theorem ggL_law_X8_exchange : GoodIn wsL_law wsX8_exchange := goodIn_r _ [428, 19, 15, 169, 263, 429, 265, 211, 2, 212, 93, 94, 95, 96, 97, 98, 18, 99, 100, 65, 101, 102, 103, 104, 105, 106, 107, 14, 108, 35, 37, 109, 110, 111, 112, 113, 114, 115, 116, 117, 28, 118, 45, 49, 119, 120, 121, 122, 50, 123, 124, 125, 126, 127, 47, 128, 55, 129, 130, 56, 131, 132, 133, 134, 39, 135, 136, 137, 138, 139, 140, 141, 430, 431, 432, 433, 866, 867, 868, 869, 870, 871, 885, 886, 887, 888, 889, 890, 891, 892, 903, 904, 905, 906, 907, 908, 909, 916, 917, 918, 919, 893, 894, 910, 911, 912, 913, 914, 915] (by decide +kernel) (by decide +kernel)
set_option maxRecDepth 20000 in
theorem gL_law_X8_exchange : GoodIn wsL_law (wsV RL 35 RX8 yX8_exchange wsX8_exchange) := goodIn_app (goodIn_of _ (by decide +kernel)) ggL_law_X8_exchange
set_option maxRecDepth 20000 in
theorem ggL_law_X9_exchange : GoodIn wsL_law wsX9_exchange := goodIn_r _ [437, 78, 271, 272, 5, 273, 147, 148, 149, 150, 151, 152, 153, 79, 154, 155, 438, 439, 440, 441, 84, 85, 86, 156, 157, 158, 159, 160, 80, 161, 162, 163, 164, 872, 873, 874, 875, 876, 877, 878, 879, 880, 881, 882, 883, 884] (by decide +kernel) (by decide +kernel)
set_option maxRecDepth 20000 in
theorem gL_law_X9_exchange : GoodIn wsL_law (wsV RL 38 RX9 yX9_exchange wsX9_exchange) := goodIn_app (goodIn_of _ (by decide +kernel)) ggL_law_X9_exchange
set_option maxRecDepth 20000 in
theorem ggL_law_X8_tighten : GoodIn wsL_law wsX8_tighten := goodIn_r _ [445, 15, 169, 263, 446, 19, 265, 211, 2, 212, 93, 94, 95, 96, 97, 98, 18, 99, 100, 65, 101, 102, 103, 104, 105, 106, 107, 14, 108, 35, 37, 109, 110, 111, 112, 113, 114, 115, 116, 117, 28, 118, 45, 49, 119, 120, 121, 122, 50, 123, 124, 125, 126, 127, 47, 128, 55, 129, 130, 56, 131, 132, 133, 134, 39, 135, 136, 137, 138, 139, 140, 141, 866, 867, 868, 869, 870, 871, 885, 886, 887, 888, 889, 890, 891, 892, 903, 904, 905, 906, 907, 908, 909, 916, 917, 918, 919, 893, 894, 910, 911, 912, 913, 914, 915] (by decide +kernel) (by decide +kernel)
set_option maxRecDepth 20000 in
theorem gL_law_X8_tighten : GoodIn wsL_law (wsV RL 39 RX8 yX8_tighten wsX8_tighten) := goodIn_app (goodIn_of _ (by decide +kernel)) ggL_law_X8_tighten
set_option maxRecDepth 20000 in
theorem ggL_law_X9_tighten : GoodIn wsL_law wsX9_tighten := goodIn_r _ [450, 78, 271, 272, 5, 273, 147, 148, 149, 84, 85, 86, 150, 151, 152, 153, 79, 154, 155, 156, 157, 158, 159, 160, 80, 161, 162, 163, 164, 872, 873, 874, 875, 876, 877, 878, 879, 880, 881, 882, 883, 884] (by decide +kernel) (by decide +kernel)
set_option maxRecDepth 20000 in
theorem gL_law_X9_tighten : GoodIn wsL_law (wsV RL 42 RX9 yX9_tighten wsX9_tighten) := goodIn_app (goodIn_of _ (by decide +kernel)) ggL_law_X9_tighten
set_option maxRecDepth 20000 in
theorem ggL_law_X8_replace : GoodIn wsL_law wsX8_replace := goodIn_r _ [454, 19, 15, 169, 263, 265, 211, 2, 212, 93, 94, 95, 96, 97, 98, 18, 99, 100, 65, 101, 102, 103, 104, 105, 106, 107, 14, 108, 35, 37, 109, 110, 111, 112, 113, 114, 115, 116, 117, 28, 118, 45, 49, 119, 120, 121, 122, 50, 123, 124, 125, 126, 127, 47, 128, 55, 129, 130, 56, 131, 132, 133, 134, 39, 135, 136, 137, 138, 139, 140, 141, 455, 456, 457, 458, 459, 460, 461, 462, 866, 867, 868, 869, 870, 871, 885, 886, 887, 888, 889, 890, 891, 892, 903, 904, 905, 906, 907, 908, 909, 893, 894, 916, 917, 918, 919, 910, 911, 912, 913, 914, 915] (by decide +kernel) (by decide +kernel)
set_option maxRecDepth 20000 in
theorem gL_law_X8_replace : GoodIn wsL_law (wsV RL 43 RX8 yX8_replace wsX8_replace) := goodIn_app (goodIn_of _ (by decide +kernel)) ggL_law_X8_replace
set_option maxRecDepth 20000 in
theorem ggL_law_X9_replace : GoodIn wsL_law wsX9_replace := goodIn_r _ [466, 78, 271, 272, 5, 273, 147, 148, 149, 150, 151, 152, 153, 79, 154, 155, 84, 85, 86, 156, 157, 158, 159, 160, 80, 161, 162, 163, 164, 872, 873, 874, 875, 876, 877, 878, 879, 880, 881, 882, 883, 884] (by decide +kernel) (by decide +kernel)
set_option maxRecDepth 20000 in
theorem gL_law_X9_replace : GoodIn wsL_law (wsV RL 46 RX9 yX9_replace wsX9_replace) := goodIn_app (goodIn_of _ (by decide +kernel)) ggL_law_X9_replace
set_option maxRecDepth 20000 in
theorem ggL_law_X8_set : GoodIn wsL_law wsX8_set := goodIn_r _ [470, 15, 169, 471, 19, 472, 473, 2, 474, 93, 94, 95, 475, 476, 477, 478, 479, 480, 96, 97, 98, 18, 99, 100, 65, 101, 102, 103, 104, 105, 106, 107, 14, 108, 35, 37, 109, 110, 111, 112, 113, 114, 115, 116, 117, 28, 118, 45, 49, 119, 120, 121, 122, 50, 123, 124, 125, 126, 127, 47, 128, 55, 129, 130, 56, 131, 132, 133, 134, 39, 135, 136, 137, 138, 139, 140, 141, 866, 867, 868, 869, 870, 871, 885, 886, 887, 888, 889, 890, 891, 892, 903, 904, 905, 906, 907, 908, 909, 893, 894, 916, 917, 918, 919, 910, 911, 912, 913, 914, 915] (by decide +kernel) (by decide +kernel)
set_option maxRecDepth 20000 in
theorem gL_law_X8_set : GoodIn wsL_law (wsV RL 47 RX8 yX8_set wsX8_set) := goodIn_app (goodIn_of _ (by decide +kernel)) ggL_law_X8_set
set_option maxRecDepth 20000 in
theorem ggL_law_X9_set : GoodIn wsL_law wsX9_set := goodIn_r _ [484, 78, 147, 148, 5, 149, 150, 151, 152, 153, 79, 154, 155, 156, 157, 158, 159, 160, 80, 161, 162, 163, 164, 872, 873, 874, 875, 876, 877, 878, 879, 880, 881, 882, 883, 884] (by decide +kernel) (by decide +kernel)
set_option maxRecDepth 20000 in
theorem gL_law_X9_set : GoodIn wsL_law (wsV RL 50 RX9 yX9_set wsX9_set) := goodIn_app (goodIn_of _ (by decide +kernel)) ggL_law_X9_set
set_option maxRecDepth 20000 in
theorem ggL_law_X8_type : GoodIn wsL_law wsX8_type := goodIn_r _ [488, 25, 489, 490, 491, 492, 24, 493, 494, 72, 866, 867, 868, 869, 870, 871, 895, 896, 897, 898, 899, 900, 901, 902] (by decide +kernel) (by decide +kernel)
set_option maxRecDepth 20000 in
theorem gL_law_X8_type : GoodIn wsL_law (wsV RL 51 RX8 yX8_type wsX8_type) := goodIn_app (goodIn_of _ (by decide +kernel)) ggL_law_X8_type
set_option maxRecDepth 20000 in
theorem ggL_law_X9_type : GoodIn wsL_law wsX9_type := goodIn_r _ [498, 499, 82, 872, 873, 874, 875, 876, 877, 878, 879, 880, 881, 882, 883, 884] (by decide +kernel) (by decide +kernel)
set_option maxRecDepth 20000 in
theorem gL_law_X9_type : GoodIn wsL_law (wsV RL 55 RX9 yX9_type wsX9_type) := goodIn_app (goodIn_of _ (by decide +kernel)) ggL_law_X9_type
set_option maxRecDepth 20000 in
theorem ggL_law_X8_clearText : GoodIn wsL_law wsX8_clearText := goodIn_r _ [503, 25, 489, 866, 867, 868, 869, 870, 871, 895, 896, 897, 898, 899, 900, 901, 902] (by decide +kernel) (by decide +kernel)
set_option maxRecDepth 20000 in
theorem gL_law_X8_clearText : GoodIn wsL_law (wsV RL 56 RX8 yX8_clearText wsX8_clearText) := goodIn_app (goodIn_of _ (by decide +kernel)) ggL_law_X8_clearText
set_option maxRecDepth 20000 in
theorem ggL_law_X9_clearText : GoodIn wsL_law wsX9_clearText := goodIn_r _ [507, 499, 872, 873, 874, 875, 876, 877, 878, 879, 880, 881, 882, 883, 884] (by decide +kernel) (by decide +kernel)
set_option maxRecDepth 20000 in
theorem gL_law_X9_clearText : GoodIn wsL_law (wsV RL 60 RX9 yX9_clearText wsX9_clearText) := goodIn_app (goodIn_of _ (by decide +kernel)) ggL_law_X9_clearText
set_option maxRecDepth 20000 in
theorem ggL_law_X8_fault : GoodIn wsL_law wsX8_fault := goodIn_r _ [511, 25, 512, 513, 514, 24, 515, 516, 517, 494, 518, 519, 520, 521, 522, 523, 524, 525, 526, 527, 528, 529, 530, 531, 532, 72, 533, 534, 535, 536, 537, 538, 539, 540, 541, 542, 172, 543, 187, 188, 189, 190, 544, 545, 546, 547, 548, 549, 550, 551, 552, 181, 182, 183, 184, 185, 186, 553, 554, 555, 556, 557, 558, 559, 560, 561, 562, 563, 564, 565, 566, 567, 568, 569, 866, 867, 868, 869, 870, 871, 895, 896, 897, 898, 899, 900, 901, 902] (by decide +kernel) (by decide +kernel)
set_option maxRecDepth 20000 in
theorem gL_law_X8_fault : GoodIn wsL_law (wsV RL 61 RX8 yX8_fault wsX8_fault) := goodIn_app (goodIn_of _ (by decide +kernel)) ggL_law_X8_fault
set_option maxRecDepth 20000 in
theorem ggL_law_X9_fault : GoodIn wsL_law wsX9_fault := goodIn_r _ [573, 574, 575, 576, 577, 578, 5, 579, 499, 580, 581, 582, 583, 78, 146, 584, 585, 586, 587, 82, 588, 589, 590, 591, 147, 148, 149, 592, 593, 594, 595, 596, 597, 246, 247, 248, 243, 244, 245, 228, 229, 230, 231, 232, 233, 234, 235, 236, 237, 238, 239, 240, 241, 242, 249, 250, 251, 84, 85, 86, 252, 253, 254, 255, 256, 257, 258, 598, 599, 600, 601, 602, 603, 604, 605, 376, 377, 378, 379, 83, 155, 154, 380, 381, 382, 383, 384, 385, 386, 387, 388, 389, 390, 391, 392, 393, 394, 395, 396, 397, 398, 399, 400, 401, 402, 403, 404, 405, 406, 407, 408, 409, 410, 872, 873, 874, 875, 876, 877, 878, 879, 880, 881, 882, 883, 884] (by decide +kernel) (by decide +kernel)
set_option maxRecDepth 20000 in
theorem gL_law_X9_fault : GoodIn wsL_law (wsV RL 64 RX9 yX9_fault wsX9_fault) := goodIn_app (goodIn_of _ (by decide +kernel)) ggL_law_X9_fault
set_option maxRecDepth 20000 in
theorem ggL_law_X8_doAll : GoodIn wsL_law wsX8_doAll := goodIn_r _ [609, 25, 15, 91, 610, 92, 19, 611, 512, 513, 514, 24, 515, 516, 517, 494, 518, 519, 520, 521, 522, 523, 524, 525, 526, 527, 528, 529, 530, 531, 532, 72, 533, 534, 535, 536, 537, 538, 539, 540, 541, 542, 172, 543, 187, 188, 189, 190, 544, 545, 546, 547, 548, 549, 550, 551, 552, 181, 182, 183, 184, 185, 186, 553, 554, 555, 556, 557, 558, 559, 560, 561, 562, 563, 564, 565, 566, 567, 568, 569, 96, 97, 98, 18, 99, 100, 65, 101, 102, 103, 104, 105, 106, 107, 14, 108, 35, 37, 109, 110, 111, 112, 113, 114, 115, 116, 117, 28, 118, 45, 49, 119, 120, 121, 122, 50, 123, 124, 125, 126, 127, 47, 128, 55, 129, 130, 56, 131, 132, 133, 134, 39, 135, 136, 137, 138, 139, 140, 141, 612, 613, 614, 615, 616, 2, 617, 618, 169, 619, 620, 191, 192, 193, 194, 195, 196, 197, 198, 199, 200, 201, 202, 203, 204, 205, 206, 207, 208, 209, 210, 211, 212, 93, 94, 95, 213, 214, 215, 216, 217, 218, 219, 220, 175, 176, 177, 178, 179, 180, 281, 282, 283, 284, 285, 286, 287, 288, 289, 290, 291, 292, 293, 294, 295, 296, 297, 298, 299, 300, 301, 302, 303, 304, 305, 306, 307, 308, 309, 310, 311, 312, 313, 314, 315, 316, 317, 318, 319, 320, 321, 322, 323, 324, 325, 326, 327, 328, 329, 330, 331, 332, 333, 334, 335, 336, 337, 338, 339, 340, 341, 342, 343, 344, 345, 346, 347, 348, 349, 350, 351, 352, 353, 354, 355, 356, 357, 358, 359, 360, 361, 362, 363, 364, 365, 366, 367, 10, 11, 368, 369, 370, 371, 416, 417, 418, 419, 420, 621, 866, 867, 868, 869, 870, 871, 885, 886, 887, 888, 889, 890, 891, 892, 895, 896, 897, 898, 899, 900, 901, 902, 893, 894, 903, 904, 905, 906, 907, 908, 909, 916, 917, 918, 919, 910, 911, 912, 913, 914, 915, 920, 921, 922, 923] (by decide +kernel) (by decide +kernel)
set_option maxRecDepth 20000 in
theorem gL_law_X8_doAll : GoodIn wsL_law (wsV RL 65 RX8 yX8_doAll wsX8_doAll) := goodIn_app (goodIn_of _ (by decide +kernel)) ggL_law_X8_doAll
set_option maxRecDepth 20000 in
theorem ggL_law_X9_doAll : GoodIn wsL_law wsX9_doAll := goodIn_r _ [625, 574, 575, 576, 577, 578, 5, 579, 499, 580, 581, 582, 583, 78, 146, 584, 585, 586, 587, 82, 588, 589, 590, 591, 147, 148, 149, 592, 593, 594, 595, 596, 597, 246, 247, 248, 243, 244, 245, 228, 229, 230, 231, 232, 233, 234, 235, 236, 237, 238, 239, 240, 241, 242, 249, 250, 251, 84, 85, 86, 252, 253, 254, 255, 256, 257, 258, 598, 599, 600, 601, 602, 603, 604, 605, 376, 377, 378, 379, 83, 155, 154, 380, 381, 382, 383, 384, 385, 386, 387, 388, 389, 390, 391, 392, 393, 394, 395, 396, 397, 398, 399, 400, 401, 402, 403, 404, 405, 406, 407, 408, 409, 410, 150, 151, 152, 153, 79, 156, 157, 158, 159, 160, 80, 161, 162, 163, 164, 872, 873, 874, 875, 876, 877, 878, 879, 880, 881, 882, 883, 884] (by decide +kernel) (by decide +kernel)
set_option maxRecDepth 20000 in
theorem gL_law_X9_doAll : GoodIn wsL_law (wsV RL 68 RX9 yX9_doAll wsX9_doAll) := goodIn_app (goodIn_of _ (by decide +kernel)) ggL_law_X9_doAll
set_option maxRecDepth 20000 in
theorem ggL_law_X8_undo : GoodIn wsL_law wsX8_undo := goodIn_r _ [629, 19, 630, 15, 631, 632, 633, 18, 634, 100, 65, 105, 106, 107, 14, 108, 35, 37, 109, 110, 111, 112, 113, 114, 115, 116, 117, 28, 118, 45, 49, 119, 120, 121, 122, 50, 123, 124, 125, 126, 127, 47, 128, 55, 129, 130, 56, 131, 132, 133, 134, 39, 135, 136, 137, 138, 139, 140, 141, 866, 867, 868, 869, 870, 871, 893, 894, 885, 886, 887, 888, 889, 890, 891, 892, 903, 904, 905, 906, 907, 908, 909, 916, 917, 918, 919, 910, 911, 912, 913, 914, 915] (by decide +kernel) (by decide +kernel)
set_option maxRecDepth 20000 in
theorem gL_law_X8_undo : GoodIn wsL_law (wsV RL 69 RX8 yX8_undo wsX8_undo) := goodIn_app (goodIn_of _ (by decide +kernel)) ggL_law_X8_undo
