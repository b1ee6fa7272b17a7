set_option maxRecDepth 20000 in
theorem gL_law_X7_noise : GoodIn wsL_law (wsV RL 50 RX7 yX7_noise wsX7_noise) := goodIn_app (goodIn_of _ (by decide +kernel)) ggL_law_X7_noise
set_option maxRecDepth 20000 in
theorem ggL_law_X6_from : GoodIn wsL_law wsX6_from := goodIn_r _ [424, 20, 385, 386, 387, 19, 388, 146, 413, 414, 2, 415, 425, 316, 317, 318, 50, 319, 320, 281, 282, 283, 284, 51, 150, 52, 862, 863, 864, 865, 866, 867, 868, 869, 914, 915, 916, 917, 918, 919, 920, 921, 922, 923, 924, 925] (by decide +kernel) (by decide +kernel)
set_option maxRecDepth 20000 in
theorem gL_law_X6_from : GoodIn wsL_law (wsV RL 51 RX6 yX6_from wsX6_from) := goodIn_app (goodIn_of _ (by decide +kernel)) ggL_law_X6_from
set_option maxRecDepth 20000 in
theorem ggL_law_X7_from : GoodIn wsL_law wsX7_from := goodIn_r _ [429, 115, 420, 397, 398, 399, 5, 400, 255, 118, 119, 120, 330, 331, 332, 333, 97, 85, 258, 334, 335, 257, 336, 337, 259, 338, 370, 371, 372, 373, 83, 343, 344, 345, 346, 84, 347, 348, 349, 374, 375, 376, 870, 871, 872, 873, 874, 875, 876, 877, 878, 879, 880, 881, 882, 883, 884, 885, 886, 887, 888, 889, 890, 891, 892, 893, 894, 895, 896, 897, 898, 899, 900, 901, 902, 903, 904, 905, 906, 907, 908, 909] (by decide +kernel) (by decide +kernel)
set_option maxRecDepth 20000 in
theorem gL_law_X7_from : GoodIn wsL_law (wsV RL 55 RX7 yX7_from wsX7_from) := goodIn_app (goodIn_of _ (by decide +kernel)) ggL_law_X7_from
set_option maxRecDepth 20000 in
theorem ggL_law_X6_voice : GoodIn wsL_law wsX6_voice := goodIn_r _ [433, 20, 385, 386, 387, 19, 388, 146, 862, 863, 864, 865, 866, 867, 868, 869, 914, 915, 916, 917, 918, 919, 920, 921, 922, 923, 924, 925] (by decide +kernel) (by decide +kernel)
set_option maxRecDepth 20000 in
theorem gL_law_X6_voice : GoodIn wsL_law (wsV RL 56 RX6 yX6_voice wsX6_voice) := goodIn_app (goodIn_of _ (by decide +kernel)) ggL_law_X6_voice
set_option maxRecDepth 20000 in
theorem ggL_law_X7_voice : GoodIn wsL_law wsX7_voice := goodIn_r _ [437, 115, 420, 85, 397, 398, 399, 5, 400, 255, 118, 119, 120, 870, 871, 872, 873, 874, 875, 876, 877, 878, 879, 880, 881, 882, 883, 884, 885, 886, 887, 888, 889, 890, 891, 892, 893, 894, 895, 896, 897, 898, 899, 900, 901, 902, 903, 904, 905, 906, 907, 908, 909] (by decide +kernel) (by decide +kernel)
set_option maxRecDepth 20000 in
theorem gL_law_X7_voice : GoodIn wsL_law (wsV RL 59 RX7 yX7_voice wsX7_voice) := goodIn_app (goodIn_of _ (by decide +kernel)) ggL_law_X7_voice
set_option maxRecDepth 20000 in
theorem ggL_law_X6_music : GoodIn wsL_law wsX6_music := goodIn_r _ [441, 20, 862, 863, 864, 865, 866, 867, 868, 869, 914, 915, 916, 917, 918, 919, 920, 921, 922, 923, 924, 925] (by decide +kernel) (by decide +kernel)
set_option maxRecDepth 20000 in
theorem gL_law_X6_music : GoodIn wsL_law (wsV RL 60 RX6 yX6_music wsX6_music) := goodIn_app (goodIn_of _ (by decide +kernel)) ggL_law_X6_music
set_option maxRecDepth 20000 in
theorem ggL_law_X7_music : GoodIn wsL_law wsX7_music := goodIn_r _ [445, 115, 420, 258, 259, 118, 119, 5, 120, 870, 871, 872, 873, 874, 875, 876, 877, 878, 879, 880, 881, 882, 883, 884, 885, 886, 887, 888, 889, 890, 891, 892, 893, 894, 895, 896, 897, 898, 899, 900, 901, 902, 903, 904, 905, 906, 907, 908, 909] (by decide +kernel) (by decide +kernel)
set_option maxRecDepth 20000 in
theorem gL_law_X7_music : GoodIn wsL_law (wsV RL 64 RX7 yX7_music wsX7_music) := goodIn_app (goodIn_of _ (by decide +kernel)) ggL_law_X7_music
set_option maxRecDepth 20000 in
theorem ggL_law_X6_eats : GoodIn wsL_law wsX6_eats := goodIn_r _ [449, 20, 862, 863, 864, 865, 866, 867, 868, 869, 914, 915, 916, 917, 918, 919, 920, 921, 922, 923, 924, 925] (by decide +kernel) (by decide +kernel)
set_option maxRecDepth 20000 in
theorem gL_law_X6_eats : GoodIn wsL_law (wsV RL 65 RX6 yX6_eats wsX6_eats) := goodIn_app (goodIn_of _ (by decide +kernel)) ggL_law_X6_eats
set_option maxRecDepth 20000 in
theorem ggL_law_X7_eats : GoodIn wsL_law wsX7_eats := goodIn_r _ [453, 115, 420, 257, 118, 119, 5, 120, 870, 871, 872, 873, 874, 875, 876, 877, 878, 879, 880, 881, 882, 883, 884, 885, 886, 887, 888, 889, 890, 891, 892, 893, 894, 895, 896, 897, 898, 899, 900, 901, 902, 903, 904, 905, 906, 907, 908, 909] (by decide +kernel) (by decide +kernel)
set_option maxRecDepth 20000 in
theorem gL_law_X7_eats : GoodIn wsL_law (wsV RL 68 RX7 yX7_eats wsX7_eats) := goodIn_app (goodIn_of _ (by decide +kernel)) ggL_law_X7_eats
set_option maxRecDepth 20000 in
theorem ggL_law_X6_minute : GoodIn wsL_law wsX6_minute := goodIn_r _ [457, 30, 20, 458, 459, 460, 29, 461, 245, 65, 462, 463, 464, 465, 466, 234, 235, 19, 236, 146, 49, 50, 51, 52, 53, 148, 150, 467, 468, 469, 470, 54, 471, 310, 270, 271, 272, 147, 273, 274, 275, 276, 277, 278, 279, 280, 281, 282, 283, 284, 285, 286, 287, 288, 311, 312, 313, 314, 315, 316, 317, 318, 319, 2, 320, 472, 473, 474, 475, 476, 477, 478, 298, 299, 300, 301, 302, 303, 304, 305, 321, 322, 323, 324, 479, 480, 481, 482, 149, 483, 484, 485, 486, 487, 488, 489, 490, 862, 863, 864, 865, 866, 867, 868, 869, 929, 930, 914, 915, 916, 917, 918, 919, 920, 921, 922, 923, 924, 925] (by decide +kernel) (by decide +kernel)
set_option maxRecDepth 20000 in
theorem gL_law_X6_minute : GoodIn wsL_law (wsV RL 69 RX6 yX6_minute wsX6_minute) := goodIn_app (goodIn_of _ (by decide +kernel)) ggL_law_X6_minute
set_option maxRecDepth 20000 in
theorem ggL_law_X7_minute : GoodIn wsL_law wsX7_minute := goodIn_r _ [494, 115, 255, 85, 97, 334, 258, 495, 496, 497, 5, 498, 260, 91, 499, 500, 501, 502, 82, 83, 84, 86, 330, 331, 332, 333, 335, 257, 336, 337, 259, 338, 503, 504, 505, 506, 98, 507, 508, 509, 510, 358, 359, 360, 361, 362, 363, 364, 365, 343, 344, 345, 346, 347, 348, 349, 366, 367, 368, 369, 511, 512, 513, 514, 354, 355, 356, 357, 370, 371, 372, 373, 374, 375, 376, 350, 351, 352, 353, 377, 378, 379, 380, 870, 871, 872, 873, 874, 875, 876, 877, 878, 879, 880, 881, 882, 883, 884, 885, 886, 887, 888, 889, 890, 891, 892, 893, 894, 895, 896, 897, 898, 899, 900, 901, 902, 903, 904, 905, 906, 907, 908, 909] (by decide +kernel) (by decide +kernel)
set_option maxRecDepth 20000 in
theorem gL_law_X7_minute : GoodIn wsL_law (wsV RL 72 RX7 yX7_minute wsX7_minute) := goodIn_app (goodIn_of _ (by decide +kernel)) ggL_law_X7_minute
set_option maxRecDepth 20000 in
theorem ggL_law_X6_breaks : GoodIn wsL_law wsX6_breaks := goodIn_r _ [518, 20, 30, 385, 386, 387, 19, 388, 146, 458, 459, 460, 29, 461, 245, 65, 462, 463, 464, 465, 466, 234, 235, 236, 49, 50, 51, 52, 53, 148, 150, 519, 520, 521, 522, 523, 177, 178, 179, 524, 181, 182, 183, 862, 863, 864, 865, 866, 867, 868, 869, 914, 915, 916, 917, 918, 919, 920, 921, 922, 923, 924, 925, 929, 930] (by decide +kernel) (by decide +kernel)
set_option maxRecDepth 20000 in
theorem gL_law_X6_breaks : GoodIn wsL_law (wsV RL 73 RX6 yX6_breaks wsX6_breaks) := goodIn_app (goodIn_of _ (by decide +kernel)) ggL_law_X6_breaks
set_option maxRecDepth 20000 in
theorem ggL_law_X7_breaks : GoodIn wsL_law wsX7_breaks := goodIn_r _ [528, 115, 84, 255, 82, 85, 86, 83, 397, 398, 399, 5, 400, 118, 119, 120, 495, 496, 497, 498, 260, 91, 499, 500, 501, 502, 258, 529, 530, 531, 532, 533, 534, 535, 536, 870, 871, 872, 873, 874, 875, 876, 877, 878, 879, 880, 881, 882, 883, 884, 885, 886, 887, 888, 889, 890, 891, 892, 893, 894, 895, 896, 897, 898, 899, 900, 901, 902, 903, 904, 905, 906, 907, 908, 909] (by decide +kernel) (by decide +kernel)
set_option maxRecDepth 20000 in
theorem gL_law_X7_breaks : GoodIn wsL_law (wsV RL 76 RX7 yX7_breaks wsX7_breaks) := goodIn_app (goodIn_of _ (by decide +kernel)) ggL_law_X7_breaks
set_option maxRecDepth 20000 in
theorem ggL_law_X6_joins : GoodIn wsL_law wsX6_joins := goodIn_r _ [540, 20, 30, 385, 386, 387, 19, 388, 146, 458, 459, 460, 29, 461, 245, 65, 462, 463, 464, 465, 466, 234, 235, 236, 49, 50, 51, 52, 53, 148, 150, 541, 542, 543, 544, 545, 862, 863, 864, 865, 866, 867, 868, 869, 914, 915, 916, 917, 918, 919, 920, 921, 922, 923, 924, 925, 929, 930] (by decide +kernel) (by decide +kernel)
set_option maxRecDepth 20000 in
theorem gL_law_X6_joins : GoodIn wsL_law (wsV RL 77 RX6 yX6_joins wsX6_joins) := goodIn_app (goodIn_of _ (by decide +kernel)) ggL_law_X6_joins
set_option maxRecDepth 20000 in
theorem ggL_law_X7_joins : GoodIn wsL_law wsX7_joins := goodIn_r _ [549, 115, 84, 397, 398, 399, 5, 400, 255, 118, 119, 120, 495, 496, 497, 498, 260, 91, 499, 500, 501, 502, 82, 83, 85, 86, 258, 550, 551, 552, 553, 870, 871, 872, 873, 874, 875, 876, 877, 878, 879, 880, 881, 882, 883, 884, 885, 886, 887, 888, 889, 890, 891, 892, 893, 894, 895, 896, 897, 898, 899, 900, 901, 902, 903, 904, 905, 906, 907, 908, 909] (by decide +kernel) (by decide +kernel)
set_option maxRecDepth 20000 in
theorem gL_law_X7_joins : GoodIn wsL_law (wsV RL 80 RX7 yX7_joins wsX7_joins) := goodIn_app (goodIn_of _ (by decide +kernel)) ggL_law_X7_joins
set_option maxRecDepth 20000 in
theorem ggL_law_X6_home : GoodIn wsL_law wsX6_home := goodIn_r _ [557, 20, 30, 385, 386, 387, 19, 388, 146, 458, 459, 460, 29, 461, 245, 65, 462, 463, 464, 465, 466, 234, 235, 236, 49, 50, 51, 52, 53, 148, 150, 541, 542, 543, 544, 545, 862, 863, 864, 865, 866, 867, 868, 869, 914, 915, 916, 917, 918, 919, 920, 921, 922, 923, 924, 925, 929, 930] (by decide +kernel) (by decide +kernel)
set_option maxRecDepth 20000 in
theorem gL_law_X6_home : GoodIn wsL_law (wsV RL 81 RX6 yX6_home wsX6_home) := goodIn_app (goodIn_of _ (by decide +kernel)) ggL_law_X6_home
set_option maxRecDepth 20000 in
theorem ggL_law_X7_home : GoodIn wsL_law wsX7_home := goodIn_r _ [561, 115, 255, 397, 398, 399, 5, 400, 118, 119, 120, 495, 496, 497, 498, 260, 91, 499, 500, 501, 502, 82, 83, 84, 85, 86, 258, 550, 551, 552, 553, 870, 871, 872, 873, 874, 875, 876, 877, 878, 879, 880, 881, 882, 883, 884, 885, 886, 887, 888, 889, 890, 891, 892, 893, 894, 895, 896, 897, 898, 899, 900, 901, 902, 903, 904, 905, 906, 907, 908, 909] (by decide +kernel) (by decide +kernel)
set_option maxRecDepth 20000 in
theorem gL_law_X7_home : GoodIn wsL_law (wsV RL 84 RX7 yX7_home wsX7_home) := goodIn_app (goodIn_of _ (by decide +kernel)) ggL_law_X7_home
set_option maxRecDepth 20000 in
theorem ggL_law_X6_hush : GoodIn wsL_law wsX6_hush := goodIn_r _ [565, 30, 20, 458, 459, 460, 29, 461, 245, 65, 462, 463, 464, 465, 466, 234, 235, 19, 236, 146, 49, 50, 51, 52, 53, 148, 150, 566, 567, 568, 569, 862, 863, 864, 865, 866, 867, 868, 869, 929, 930, 914, 915, 916, 917, 918, 919, 920, 921, 922, 923, 924, 925] (by decide +kernel) (by decide +kernel)
set_option maxRecDepth 20000 in
theorem gL_law_X6_hush : GoodIn wsL_law (wsV RL 85 RX6 yX6_hush wsX6_hush) := goodIn_app (goodIn_of _ (by decide +kernel)) ggL_law_X6_hush
