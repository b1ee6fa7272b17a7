set_option maxRecDepth 20000 in
theorem ggL_law_X6_init : GoodIn wsL_law wsX6_init := goodIn_r _ [9, 10, 11, 12, 13, 14, 15, 16, 17, 18, 19, 20, 21, 22, 23, 24, 25, 26, 27, 28, 29, 30, 31, 32, 33, 34, 35, 36, 37, 38, 39, 40, 41, 42, 43, 44, 45, 46, 47, 48, 49, 50, 51, 52, 53, 54, 55, 56, 57, 58, 59, 60, 61, 62, 63, 64, 65, 66, 67, 68, 69, 70, 71, 72, 73, 74, 75, 76, 910, 911, 912, 913, 862, 863, 864, 865, 866, 867, 868, 869, 914, 915, 916, 917, 918, 919, 920, 921, 922, 923, 924, 925, 926, 927, 928, 929, 930, 931, 932, 933, 934, 935] (by decide +kernel) (by decide +kernel)
set_option maxRecDepth 20000 in
theorem gL_law_X6_init : GoodIn wsL_law (wsX6_init) := ggL_law_X6_init
set_option maxRecDepth 20000 in
theorem ggL_law_X7_init : GoodIn wsL_law wsX7_init := goodIn_r _ [79, 80, 11, 12, 48, 81, 82, 83, 84, 85, 86, 87, 88, 89, 90, 91, 92, 93, 94, 95, 96, 97, 98, 99, 100, 101, 870, 871, 872, 873, 874, 875, 876, 877, 878, 879, 880, 881, 882, 883, 884, 885, 886, 887, 888, 889, 890, 891, 892, 893, 894, 895, 896, 897, 898, 899, 900, 901, 902, 903, 904, 905, 906, 907, 908, 909] (by decide +kernel) (by decide +kernel)
set_option maxRecDepth 20000 in
theorem gL_law_X7_init : GoodIn wsL_law (wsX7_init) := ggL_law_X7_init
set_option maxRecDepth 20000 in
theorem ggL_law_X6_write : GoodIn wsL_law wsX6_write := goodIn_r _ [105, 16, 106, 107, 108, 15, 109, 110, 43, 862, 863, 864, 865, 866, 867, 868, 869, 910, 911, 912, 913] (by decide +kernel) (by decide +kernel)
set_option maxRecDepth 20000 in
theorem gL_law_X6_write : GoodIn wsL_law (wsV RL 15 RX6 yX6_write wsX6_write) := goodIn_app (goodIn_of _ (by decide +kernel)) ggL_law_X6_write
set_option maxRecDepth 20000 in
theorem ggL_law_X7_write : GoodIn wsL_law wsX7_write := goodIn_r _ [114, 115, 116, 117, 81, 118, 119, 5, 120, 870, 871, 872, 873, 874, 875, 876, 877, 878, 879, 880, 881, 882, 883, 884, 885, 886, 887, 888, 889, 890, 891, 892, 893, 894, 895, 896, 897, 898, 899, 900, 901, 902, 903, 904, 905, 906, 907, 908, 909] (by decide +kernel) (by decide +kernel)
set_option maxRecDepth 20000 in
theorem gL_law_X7_write : GoodIn wsL_law (wsV RL 19 RX7 yX7_write wsX7_write) := goodIn_app (goodIn_of _ (by decide +kernel)) ggL_law_X7_write
set_option maxRecDepth 20000 in
theorem ggL_law_X6_wipe : GoodIn wsL_law wsX6_wipe := goodIn_r _ [124, 16, 125, 126, 127, 15, 128, 110, 862, 863, 864, 865, 866, 867, 868, 869, 910, 911, 912, 913] (by decide +kernel) (by decide +kernel)
set_option maxRecDepth 20000 in
theorem gL_law_X6_wipe : GoodIn wsL_law (wsV RL 20 RX6 yX6_wipe wsX6_wipe) := goodIn_app (goodIn_of _ (by decide +kernel)) ggL_law_X6_wipe
set_option maxRecDepth 20000 in
theorem ggL_law_X7_wipe : GoodIn wsL_law wsX7_wipe := goodIn_r _ [132, 115, 117, 870, 871, 872, 873, 874, 875, 876, 877, 878, 879, 880, 881, 882, 883, 884, 885, 886, 887, 888, 889, 890, 891, 892, 893, 894, 895, 896, 897, 898, 899, 900, 901, 902, 903, 904, 905, 906, 907, 908, 909] (by decide +kernel) (by decide +kernel)
set_option maxRecDepth 20000 in
theorem gL_law_X7_wipe : GoodIn wsL_law (wsV RL 24 RX7 yX7_wipe wsX7_wipe) := goodIn_app (goodIn_of _ (by decide +kernel)) ggL_law_X7_wipe
set_option maxRecDepth 20000 in
theorem ggL_law_X6_fault : GoodIn wsL_law wsX6_fault := goodIn_r _ [136, 16, 21, 26, 137, 138, 139, 15, 140, 141, 44, 110, 142, 143, 144, 19, 145, 146, 147, 148, 149, 150, 151, 152, 153, 24, 154, 155, 156, 157, 158, 159, 160, 161, 162, 163, 43, 164, 165, 166, 167, 168, 169, 170, 171, 172, 173, 174, 175, 176, 177, 178, 179, 50, 180, 181, 182, 183, 49, 51, 52, 53, 184, 185, 186, 187, 188, 189, 190, 191, 58, 59, 862, 863, 864, 865, 866, 867, 868, 869, 910, 911, 912, 913, 914, 915, 916, 917, 918, 919, 920, 921, 922, 923, 924, 925, 926, 927, 928] (by decide +kernel) (by decide +kernel)
set_option maxRecDepth 20000 in
theorem gL_law_X6_fault : GoodIn wsL_law (wsV RL 25 RX6 yX6_fault wsX6_fault) := goodIn_app (goodIn_of _ (by decide +kernel)) ggL_law_X6_fault
set_option maxRecDepth 20000 in
theorem ggL_law_X7_fault : GoodIn wsL_law wsX7_fault := goodIn_r _ [195, 115, 196, 197, 198, 5, 199, 200, 201, 202, 117, 81, 203, 204, 205, 206, 207, 208, 118, 119, 120, 209, 210, 211, 212, 213, 214, 215, 216, 89, 217, 218, 219, 220, 221, 222, 223, 224, 90, 870, 871, 872, 873, 874, 875, 876, 877, 878, 879, 880, 881, 882, 883, 884, 885, 886, 887, 888, 889, 890, 891, 892, 893, 894, 895, 896, 897, 898, 899, 900, 901, 902, 903, 904, 905, 906, 907, 908, 909] (by decide +kernel) (by decide +kernel)
set_option maxRecDepth 20000 in
theorem gL_law_X7_fault : GoodIn wsL_law (wsV RL 28 RX7 yX7_fault wsX7_fault) := goodIn_app (goodIn_of _ (by decide +kernel)) ggL_law_X7_fault
set_option maxRecDepth 20000 in
theorem ggL_law_X6_room : GoodIn wsL_law wsX6_room := goodIn_r _ [228, 16, 21, 26, 20, 25, 30, 38, 137, 138, 139, 15, 140, 141, 44, 110, 142, 143, 144, 19, 145, 146, 147, 148, 149, 150, 151, 152, 153, 24, 154, 155, 156, 157, 158, 159, 160, 161, 162, 163, 43, 164, 165, 166, 167, 168, 169, 170, 171, 172, 173, 174, 175, 176, 177, 178, 179, 50, 180, 181, 182, 183, 49, 51, 52, 53, 184, 185, 186, 187, 188, 189, 190, 191, 58, 59, 229, 230, 231, 232, 233, 234, 235, 236, 237, 238, 239, 240, 241, 242, 243, 29, 244, 245, 246, 247, 248, 37, 249, 250, 862, 863, 864, 865, 866, 867, 868, 869, 914, 915, 916, 917, 918, 919, 920, 921, 922, 923, 924, 925, 910, 911, 912, 913, 926, 927, 928, 929, 930, 934, 935] (by decide +kernel) (by decide +kernel)
set_option maxRecDepth 20000 in
theorem gL_law_X6_room : GoodIn wsL_law (wsV RL 29 RX6 yX6_room wsX6_room) := goodIn_app (goodIn_of _ (by decide +kernel)) ggL_law_X6_room
set_option maxRecDepth 20000 in
theorem ggL_law_X7_room : GoodIn wsL_law wsX7_room := goodIn_r _ [254, 115, 201, 255, 202, 256, 203, 257, 204, 258, 259, 82, 89, 83, 84, 85, 86, 87, 90, 88, 260, 94, 196, 197, 198, 5, 199, 200, 117, 81, 205, 206, 207, 208, 118, 119, 120, 209, 210, 211, 212, 213, 214, 215, 216, 217, 218, 219, 220, 221, 222, 223, 224, 870, 871, 872, 873, 874, 875, 876, 877, 878, 879, 880, 881, 882, 883, 884, 885, 886, 887, 888, 889, 890, 891, 892, 893, 894, 895, 896, 897, 898, 899, 900, 901, 902, 903, 904, 905, 906, 907, 908, 909] (by decide +kernel) (by decide +kernel)
set_option maxRecDepth 20000 in
theorem gL_law_X7_room : GoodIn wsL_law (wsV RL 32 RX7 yX7_room wsX7_room) := goodIn_app (goodIn_of _ (by decide +kernel)) ggL_law_X7_room
set_option maxRecDepth 20000 in
theorem ggL_law_X6_about : GoodIn wsL_law wsX6_about := goodIn_r _ [264, 20, 25, 30, 34, 16, 265, 266, 267, 19, 268, 146, 51, 269, 270, 271, 272, 147, 273, 274, 275, 276, 277, 278, 279, 280, 281, 282, 283, 284, 150, 52, 285, 286, 287, 288, 148, 289, 290, 291, 292, 293, 294, 295, 296, 297, 50, 298, 299, 300, 301, 49, 302, 303, 304, 305, 306, 307, 308, 309, 310, 311, 312, 313, 314, 315, 316, 317, 318, 319, 2, 320, 321, 322, 323, 324, 53, 862, 863, 864, 865, 866, 867, 868, 869, 914, 915, 916, 917, 918, 919, 920, 921, 922, 923, 924, 925, 926, 927, 928, 929, 930, 931, 932, 933, 910, 911, 912, 913] (by decide +kernel) (by decide +kernel)
set_option maxRecDepth 20000 in
theorem gL_law_X6_about : GoodIn wsL_law (wsV RL 33 RX6 yX6_about wsX6_about) := goodIn_app (goodIn_of _ (by decide +kernel)) ggL_law_X6_about
set_option maxRecDepth 20000 in
theorem ggL_law_X7_about : GoodIn wsL_law wsX7_about := goodIn_r _ [328, 115, 255, 84, 257, 258, 256, 260, 329, 117, 330, 331, 332, 5, 333, 97, 85, 334, 335, 336, 337, 259, 338, 339, 340, 341, 342, 83, 343, 344, 345, 346, 347, 348, 349, 350, 351, 352, 353, 82, 354, 355, 356, 357, 358, 359, 360, 361, 362, 363, 364, 365, 366, 367, 368, 369, 370, 371, 372, 373, 374, 375, 376, 377, 378, 379, 380, 86, 870, 871, 872, 873, 874, 875, 876, 877, 878, 879, 880, 881, 882, 883, 884, 885, 886, 887, 888, 889, 890, 891, 892, 893, 894, 895, 896, 897, 898, 899, 900, 901, 902, 903, 904, 905, 906, 907, 908, 909] (by decide +kernel) (by decide +kernel)
set_option maxRecDepth 20000 in
theorem gL_law_X7_about : GoodIn wsL_law (wsV RL 37 RX7 yX7_about wsX7_about) := goodIn_app (goodIn_of _ (by decide +kernel)) ggL_law_X7_about
set_option maxRecDepth 20000 in
theorem ggL_law_X6_ring : GoodIn wsL_law wsX6_ring := goodIn_r _ [384, 20, 385, 386, 387, 19, 388, 146, 389, 282, 283, 284, 51, 150, 52, 390, 303, 304, 305, 49, 273, 274, 275, 276, 391, 307, 308, 309, 310, 270, 271, 272, 147, 277, 278, 279, 280, 281, 285, 286, 287, 288, 148, 311, 312, 313, 314, 315, 316, 317, 318, 50, 319, 2, 320, 392, 295, 296, 297, 298, 299, 300, 301, 302, 306, 321, 322, 323, 324, 53, 862, 863, 864, 865, 866, 867, 868, 869, 914, 915, 916, 917, 918, 919, 920, 921, 922, 923, 924, 925] (by decide +kernel) (by decide +kernel)
set_option maxRecDepth 20000 in
theorem gL_law_X6_ring : GoodIn wsL_law (wsV RL 38 RX6 yX6_ring wsX6_ring) := goodIn_app (goodIn_of _ (by decide +kernel)) ggL_law_X6_ring
set_option maxRecDepth 20000 in
theorem ggL_law_X7_ring : GoodIn wsL_law wsX7_ring := goodIn_r _ [396, 115, 82, 83, 84, 85, 86, 397, 398, 399, 5, 400, 255, 118, 119, 120, 330, 331, 332, 333, 97, 258, 334, 335, 257, 336, 337, 259, 338, 343, 344, 345, 346, 347, 348, 349, 350, 351, 352, 353, 354, 355, 356, 357, 358, 359, 360, 361, 362, 363, 364, 365, 366, 367, 368, 369, 370, 371, 372, 373, 374, 375, 376, 339, 340, 341, 342, 377, 378, 379, 380, 870, 871, 872, 873, 874, 875, 876, 877, 878, 879, 880, 881, 882, 883, 884, 885, 886, 887, 888, 889, 890, 891, 892, 893, 894, 895, 896, 897, 898, 899, 900, 901, 902, 903, 904, 905, 906, 907, 908, 909] (by decide +kernel) (by decide +kernel)
set_option maxRecDepth 20000 in
theorem gL_law_X7_ring : GoodIn wsL_law (wsV RL 42 RX7 yX7_ring wsX7_ring) := goodIn_app (goodIn_of _ (by decide +kernel)) ggL_law_X7_ring
set_option maxRecDepth 20000 in
theorem ggL_law_X6_stuff : GoodIn wsL_law wsX6_stuff := goodIn_r _ [404, 25, 862, 863, 864, 865, 866, 867, 868, 869, 926, 927, 928] (by decide +kernel) (by decide +kernel)
set_option maxRecDepth 20000 in
theorem gL_law_X6_stuff : GoodIn wsL_law (wsV RL 43 RX6 yX6_stuff wsX6_stuff) := goodIn_app (goodIn_of _ (by decide +kernel)) ggL_law_X6_stuff
set_option maxRecDepth 20000 in
theorem ggL_law_X7_stuff : GoodIn wsL_law wsX7_stuff := goodIn_r _ [408, 115, 256, 87, 88, 118, 119, 5, 120, 870, 871, 872, 873, 874, 875, 876, 877, 878, 879, 880, 881, 882, 883, 884, 885, 886, 887, 888, 889, 890, 891, 892, 893, 894, 895, 896, 897, 898, 899, 900, 901, 902, 903, 904, 905, 906, 907, 908, 909] (by decide +kernel) (by decide +kernel)
set_option maxRecDepth 20000 in
theorem gL_law_X7_stuff : GoodIn wsL_law (wsV RL 46 RX7 yX7_stuff wsX7_stuff) := goodIn_app (goodIn_of _ (by decide +kernel)) ggL_law_X7_stuff
set_option maxRecDepth 20000 in
theorem ggL_law_X6_noise : GoodIn wsL_law wsX6_noise := goodIn_r _ [412, 20, 413, 414, 2, 415, 391, 307, 308, 19, 309, 310, 270, 271, 272, 147, 273, 274, 275, 276, 277, 278, 279, 280, 146, 281, 282, 283, 284, 51, 150, 52, 285, 286, 287, 288, 148, 311, 312, 313, 314, 315, 316, 317, 318, 50, 319, 320, 862, 863, 864, 865, 866, 867, 868, 869, 914, 915, 916, 917, 918, 919, 920, 921, 922, 923, 924, 925] (by decide +kernel) (by decide +kernel)
set_option maxRecDepth 20000 in
theorem gL_law_X6_noise : GoodIn wsL_law (wsV RL 47 RX6 yX6_noise wsX6_noise) := goodIn_app (goodIn_of _ (by decide +kernel)) ggL_law_X6_noise
set_option maxRecDepth 20000 in
theorem ggL_law_X7_noise : GoodIn wsL_law wsX7_noise := goodIn_r _ [419, 115, 420, 118, 119, 5, 120, 330, 331, 332, 333, 255, 97, 85, 258, 334, 335, 257, 336, 337, 259, 338, 354, 355, 356, 357, 358, 359, 360, 361, 362, 363, 364, 365, 343, 344, 345, 346, 84, 347, 348, 349, 366, 367, 368, 369, 370, 371, 372, 373, 83, 374, 375, 376, 870, 871, 872, 873, 874, 875, 876, 877, 878, 879, 880, 881, 882, 883, 884, 885, 886, 887, 888, 889, 890, 891, 892, 893, 894, 895, 896, 897, 898, 899, 900, 901, 902, 903, 904, 905, 906, 907, 908, 909] (by decide +kernel) (by decide +kernel)
