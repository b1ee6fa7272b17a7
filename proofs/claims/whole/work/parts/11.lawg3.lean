set_option maxRecDepth 20000 in
theorem ggL_law_X6_tables : GoodIn wsL_law wsX6_tables := goodIn_r _ [712, 713, 714, 2, 715, 716, 717, 718, 719, 720, 721, 722, 723, 724, 725, 726, 727, 728, 729, 730, 20, 622, 477, 275, 478, 731, 732, 733, 734, 735, 736, 737, 738, 739, 19, 740, 146, 50, 476, 319, 320, 863, 864, 865, 866, 867, 868, 869, 870, 915, 916, 917, 918, 919, 920, 921, 922, 923, 924, 925, 926] (by decide +kernel) (by decide +kernel)
set_option maxRecDepth 20000 in
theorem gL_law_X6_tables : GoodIn wsL_law (wsV RL 126 RX6 yX6_tables wsX6_tables) := goodIn_app (goodIn_of _ (by decide +kernel)) ggL_law_X6_tables
set_option maxRecDepth 20000 in
theorem ggL_law_X7_tables : GoodIn wsL_law wsX7_tables := goodIn_r _ [744, 115, 745, 420, 118, 119, 5, 120, 746, 747, 748, 749, 99, 100, 101, 533, 534, 535, 536, 255, 83, 750, 751, 752, 753, 374, 375, 376, 871, 872, 873, 874, 875, 876, 877, 878, 879, 880, 881, 882, 883, 884, 885, 886, 887, 888, 889, 890, 891, 892, 893, 894, 895, 896, 897, 898, 899, 900, 901, 902, 903, 904, 905, 906, 907, 908, 909, 910] (by decide +kernel) (by decide +kernel)
set_option maxRecDepth 20000 in
theorem gL_law_X7_tables : GoodIn wsL_law (wsV RL 130 RX7 yX7_tables wsX7_tables) := goodIn_app (goodIn_of _ (by decide +kernel)) ggL_law_X7_tables
set_option maxRecDepth 20000 in
theorem ggL_law_X6_tableAt : GoodIn wsL_law wsX6_tableAt := goodIn_r _ [757, 713, 714, 2, 715, 716, 717, 718, 719, 720, 721, 722, 723, 724, 725, 726, 727, 728, 729, 730, 20, 622, 477, 275, 478, 731, 732, 733, 734, 735, 736, 737, 738, 739, 19, 740, 146, 50, 476, 319, 320, 863, 864, 865, 866, 867, 868, 869, 870, 915, 916, 917, 918, 919, 920, 921, 922, 923, 924, 925, 926] (by decide +kernel) (by decide +kernel)
set_option maxRecDepth 20000 in
theorem gL_law_X6_tableAt : GoodIn wsL_law (wsV RL 131 RX6 yX6_tableAt wsX6_tableAt) := goodIn_app (goodIn_of _ (by decide +kernel)) ggL_law_X6_tableAt
set_option maxRecDepth 20000 in
theorem ggL_law_X7_tableAt : GoodIn wsL_law wsX7_tableAt := goodIn_r _ [761, 115, 745, 420, 101, 118, 119, 5, 120, 746, 747, 748, 749, 99, 100, 533, 534, 535, 536, 255, 83, 750, 751, 752, 753, 374, 375, 376, 871, 872, 873, 874, 875, 876, 877, 878, 879, 880, 881, 882, 883, 884, 885, 886, 887, 888, 889, 890, 891, 892, 893, 894, 895, 896, 897, 898, 899, 900, 901, 902, 903, 904, 905, 906, 907, 908, 909, 910] (by decide +kernel) (by decide +kernel)
set_option maxRecDepth 20000 in
theorem gL_law_X7_tableAt : GoodIn wsL_law (wsV RL 135 RX7 yX7_tableAt wsX7_tableAt) := goodIn_app (goodIn_of _ (by decide +kernel)) ggL_law_X7_tableAt
set_option maxRecDepth 20000 in
theorem ggL_law_X6_chance : GoodIn wsL_law wsX6_chance := goodIn_r _ [765, 20, 766, 767, 21, 768, 769, 275, 770, 385, 386, 387, 19, 388, 146, 229, 230, 231, 232, 147, 149, 233, 234, 235, 236, 49, 50, 51, 52, 53, 148, 150, 771, 772, 773, 2, 774, 392, 295, 296, 297, 298, 299, 300, 301, 281, 282, 283, 284, 302, 303, 304, 305, 273, 274, 276, 306, 307, 308, 309, 310, 270, 271, 272, 277, 278, 279, 280, 285, 286, 287, 288, 311, 312, 313, 314, 315, 316, 317, 318, 319, 320, 321, 322, 323, 324, 775, 776, 777, 863, 864, 865, 866, 867, 868, 869, 870, 915, 916, 917, 918, 919, 920, 921, 922, 923, 924, 925, 926] (by decide +kernel) (by decide +kernel)
set_option maxRecDepth 20000 in
theorem gL_law_X6_chance : GoodIn wsL_law (wsV RL 136 RX6 yX6_chance wsX6_chance) := goodIn_app (goodIn_of _ (by decide +kernel)) ggL_law_X6_chance
set_option maxRecDepth 20000 in
theorem ggL_law_X7_chance : GoodIn wsL_law wsX7_chance := goodIn_r _ [781, 115, 782, 783, 784, 255, 337, 397, 398, 399, 5, 400, 118, 119, 120, 330, 331, 332, 333, 97, 85, 258, 334, 335, 257, 336, 259, 338, 347, 348, 349, 339, 340, 341, 342, 83, 343, 344, 345, 346, 84, 350, 351, 352, 353, 82, 354, 355, 356, 357, 358, 359, 360, 361, 362, 363, 364, 365, 366, 367, 368, 369, 370, 371, 372, 373, 374, 375, 376, 377, 378, 379, 380, 86, 785, 786, 787, 871, 872, 873, 874, 875, 876, 877, 878, 879, 880, 881, 882, 883, 884, 885, 886, 887, 888, 889, 890, 891, 892, 893, 894, 895, 896, 897, 898, 899, 900, 901, 902, 903, 904, 905, 906, 907, 908, 909, 910] (by decide +kernel) (by decide +kernel)
set_option maxRecDepth 20000 in
theorem gL_law_X7_chance : GoodIn wsL_law (wsV RL 140 RX7 yX7_chance wsX7_chance) := goodIn_app (goodIn_of _ (by decide +kernel)) ggL_law_X7_chance
set_option maxRecDepth 20000 in
theorem ggL_law_X6_meter : GoodIn wsL_law wsX6_meter := goodIn_r _ [791, 34, 792, 793, 794, 33, 795, 796, 69, 70, 863, 864, 865, 866, 867, 868, 869, 870, 932, 933, 934] (by decide +kernel) (by decide +kernel)
set_option maxRecDepth 20000 in
theorem gL_law_X6_meter : GoodIn wsL_law (wsV RL 141 RX6 yX6_meter wsX6_meter) := goodIn_app (goodIn_of _ (by decide +kernel)) ggL_law_X6_meter
set_option maxRecDepth 20000 in
theorem ggL_law_X7_meter : GoodIn wsL_law wsX7_meter := goodIn_r _ [800, 115, 801, 802, 329, 95, 96, 118, 119, 5, 120, 871, 872, 873, 874, 875, 876, 877, 878, 879, 880, 881, 882, 883, 884, 885, 886, 887, 888, 889, 890, 891, 892, 893, 894, 895, 896, 897, 898, 899, 900, 901, 902, 903, 904, 905, 906, 907, 908, 909, 910] (by decide +kernel) (by decide +kernel)
set_option maxRecDepth 20000 in
theorem gL_law_X7_meter : GoodIn wsL_law (wsV RL 144 RX7 yX7_meter wsX7_meter) := goodIn_app (goodIn_of _ (by decide +kernel)) ggL_law_X7_meter
set_option maxRecDepth 20000 in
theorem ggL_law_X6_unmeter : GoodIn wsL_law wsX6_unmeter := goodIn_r _ [806, 34, 807, 808, 809, 33, 810, 796, 863, 864, 865, 866, 867, 868, 869, 870, 932, 933, 934] (by decide +kernel) (by decide +kernel)
set_option maxRecDepth 20000 in
theorem gL_law_X6_unmeter : GoodIn wsL_law (wsV RL 145 RX6 yX6_unmeter wsX6_unmeter) := goodIn_app (goodIn_of _ (by decide +kernel)) ggL_law_X6_unmeter
set_option maxRecDepth 20000 in
theorem ggL_law_X7_unmeter : GoodIn wsL_law wsX7_unmeter := goodIn_r _ [814, 115, 329, 871, 872, 873, 874, 875, 876, 877, 878, 879, 880, 881, 882, 883, 884, 885, 886, 887, 888, 889, 890, 891, 892, 893, 894, 895, 896, 897, 898, 899, 900, 901, 902, 903, 904, 905, 906, 907, 908, 909, 910] (by decide +kernel) (by decide +kernel)
set_option maxRecDepth 20000 in
theorem gL_law_X7_unmeter : GoodIn wsL_law (wsV RL 148 RX7 yX7_unmeter wsX7_unmeter) := goodIn_app (goodIn_of _ (by decide +kernel)) ggL_law_X7_unmeter
set_option maxRecDepth 20000 in
theorem ggL_law_X6_came : GoodIn wsL_law wsX6_came := goodIn_r _ [818, 20, 618, 619, 620, 2, 621, 21, 622, 477, 275, 478, 229, 230, 231, 19, 232, 147, 149, 233, 234, 235, 236, 146, 49, 50, 51, 52, 53, 148, 150, 566, 567, 568, 569, 819, 820, 821, 822, 34, 269, 270, 271, 272, 273, 274, 276, 277, 278, 279, 280, 281, 282, 283, 284, 285, 286, 287, 288, 823, 824, 825, 33, 826, 796, 69, 70, 827, 828, 829, 467, 468, 469, 470, 54, 471, 310, 311, 312, 313, 314, 315, 316, 317, 318, 319, 320, 472, 473, 474, 475, 476, 298, 299, 300, 301, 302, 303, 304, 305, 321, 322, 323, 324, 479, 480, 481, 482, 487, 488, 489, 490, 863, 864, 865, 866, 867, 868, 869, 870, 915, 916, 917, 918, 919, 920, 921, 922, 923, 924, 925, 926, 932, 933, 934] (by decide +kernel) (by decide +kernel)
set_option maxRecDepth 20000 in
theorem gL_law_X6_came : GoodIn wsL_law (wsV RL 149 RX6 yX6_came wsX6_came) := goodIn_app (goodIn_of _ (by decide +kernel)) ggL_law_X6_came
set_option maxRecDepth 20000 in
theorem ggL_law_X7_came : GoodIn wsL_law wsX7_came := goodIn_r _ [833, 115, 255, 335, 329, 95, 96, 330, 331, 332, 5, 333, 97, 85, 258, 334, 257, 336, 337, 259, 338, 606, 607, 608, 609, 358, 359, 360, 361, 362, 363, 364, 365, 343, 344, 345, 346, 84, 347, 348, 349, 366, 367, 368, 369, 118, 119, 120, 503, 504, 505, 506, 98, 507, 508, 509, 510, 511, 512, 513, 514, 82, 83, 354, 355, 356, 357, 370, 371, 372, 373, 374, 375, 376, 350, 351, 352, 353, 377, 378, 379, 380, 86, 871, 872, 873, 874, 875, 876, 877, 878, 879, 880, 881, 882, 883, 884, 885, 886, 887, 888, 889, 890, 891, 892, 893, 894, 895, 896, 897, 898, 899, 900, 901, 902, 903, 904, 905, 906, 907, 908, 909, 910] (by decide +kernel) (by decide +kernel)
set_option maxRecDepth 20000 in
theorem gL_law_X7_came : GoodIn wsL_law (wsV RL 152 RX7 yX7_came wsX7_came) := goodIn_app (goodIn_of _ (by decide +kernel)) ggL_law_X7_came
set_option maxRecDepth 20000 in
theorem ggL_law_X6_keep : GoodIn wsL_law wsX6_keep := goodIn_r _ [837, 38, 20, 838, 839, 840, 37, 841, 76, 250, 842, 230, 231, 19, 232, 147, 149, 233, 234, 235, 236, 146, 49, 50, 51, 52, 53, 148, 150, 863, 864, 865, 866, 867, 868, 869, 870, 915, 916, 917, 918, 919, 920, 921, 922, 923, 924, 925, 926, 935, 936] (by decide +kernel) (by decide +kernel)
set_option maxRecDepth 20000 in
theorem gL_law_X6_keep : GoodIn wsL_law (wsV RL 153 RX6 yX6_keep wsX6_keep) := goodIn_app (goodIn_of _ (by decide +kernel)) ggL_law_X6_keep
set_option maxRecDepth 20000 in
theorem ggL_law_X7_keep : GoodIn wsL_law wsX7_keep := goodIn_r _ [846, 115, 94, 92, 257, 259, 255, 118, 119, 5, 120, 499, 500, 501, 502, 82, 83, 84, 85, 86, 258, 871, 872, 873, 874, 875, 876, 877, 878, 879, 880, 881, 882, 883, 884, 885, 886, 887, 888, 889, 890, 891, 892, 893, 894, 895, 896, 897, 898, 899, 900, 901, 902, 903, 904, 905, 906, 907, 908, 909, 910] (by decide +kernel) (by decide +kernel)
set_option maxRecDepth 20000 in
theorem gL_law_X7_keep : GoodIn wsL_law (wsV RL 156 RX7 yX7_keep wsX7_keep) := goodIn_app (goodIn_of _ (by decide +kernel)) ggL_law_X7_keep
set_option maxRecDepth 20000 in
theorem ggL_law_X6_again : GoodIn wsL_law wsX6_again := goodIn_r _ [850, 38, 20, 30, 851, 852, 853, 37, 854, 250, 855, 856, 857, 858, 76, 229, 230, 231, 19, 232, 147, 149, 233, 234, 235, 236, 146, 49, 50, 51, 52, 53, 148, 150, 241, 242, 243, 29, 244, 245, 863, 864, 865, 866, 867, 868, 869, 870, 915, 916, 917, 918, 919, 920, 921, 922, 923, 924, 925, 926, 935, 936, 930, 931] (by decide +kernel) (by decide +kernel)
set_option maxRecDepth 20000 in
theorem gL_law_X6_again : GoodIn wsL_law (wsV RL 157 RX6 yX6_again wsX6_again) := goodIn_app (goodIn_of _ (by decide +kernel)) ggL_law_X6_again
set_option maxRecDepth 20000 in
theorem ggL_law_X7_again : GoodIn wsL_law wsX7_again := goodIn_r _ [862, 115, 94, 92, 257, 259, 260, 255, 118, 119, 5, 120, 586, 587, 588, 589, 82, 83, 84, 85, 86, 258, 871, 872, 873, 874, 875, 876, 877, 878, 879, 880, 881, 882, 883, 884, 885, 886, 887, 888, 889, 890, 891, 892, 893, 894, 895, 896, 897, 898, 899, 900, 901, 902, 903, 904, 905, 906, 907, 908, 909, 910] (by decide +kernel) (by decide +kernel)
set_option maxRecDepth 20000 in
theorem gL_law_X7_again : GoodIn wsL_law (wsV RL 160 RX7 yX7_again wsX7_again) := goodIn_app (goodIn_of _ (by decide +kernel)) ggL_law_X7_again
