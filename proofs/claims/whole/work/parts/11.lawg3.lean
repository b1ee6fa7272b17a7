set_option maxRecDepth 20000 in
theorem gL_law_X6_quietest : GoodIn wsL_law (wsV RL 122 RX6 yX6_quietest wsX6_quietest) := goodIn_app (goodIn_of _ (by decide +kernel)) ggL_law_X6_quietest
set_option maxRecDepth 20000 in
theorem ggL_law_X7_quietest : GoodIn wsL_law wsX7_quietest := goodIn_r _ [706, 115, 707, 330, 331, 332, 5, 333, 255, 97, 85, 258, 334, 335, 257, 336, 337, 259, 338, 533, 534, 535, 536, 83, 354, 355, 356, 357, 358, 359, 360, 361, 362, 363, 364, 365, 343, 344, 345, 346, 84, 347, 348, 349, 366, 367, 368, 369, 370, 371, 372, 373, 374, 375, 376, 870, 871, 872, 873, 874, 875, 876, 877, 878, 879, 880, 881, 882, 883, 884, 885, 886, 887, 888, 889, 890, 891, 892, 893, 894, 895, 896, 897, 898, 899, 900, 901, 902, 903, 904, 905, 906, 907, 908, 909] (by decide +kernel) (by decide +kernel)
set_option maxRecDepth 20000 in
theorem gL_law_X7_quietest : GoodIn wsL_law (wsV RL 125 RX7 yX7_quietest wsX7_quietest) := goodIn_app (goodIn_of _ (by decide +kernel)) ggL_law_X7_quietest
set_option maxRecDepth 20000 in
theorem ggL_law_X6_tables : GoodIn wsL_law wsX6_tables := goodIn_r _ [711, 712, 713, 2, 714, 715, 716, 717, 718, 719, 720, 721, 722, 723, 724, 725, 726, 727, 728, 729, 20, 622, 477, 275, 478, 730, 731, 732, 733, 734, 735, 736, 737, 738, 19, 739, 146, 50, 476, 319, 320, 862, 863, 864, 865, 866, 867, 868, 869, 914, 915, 916, 917, 918, 919, 920, 921, 922, 923, 924, 925] (by decide +kernel) (by decide +kernel)
set_option maxRecDepth 20000 in
theorem gL_law_X6_tables : GoodIn wsL_law (wsV RL 126 RX6 yX6_tables wsX6_tables) := goodIn_app (goodIn_of _ (by decide +kernel)) ggL_law_X6_tables
set_option maxRecDepth 20000 in
theorem ggL_law_X7_tables : GoodIn wsL_law wsX7_tables := goodIn_r _ [743, 115, 744, 420, 118, 119, 5, 120, 745, 746, 747, 748, 99, 100, 101, 533, 534, 535, 536, 255, 83, 749, 750, 751, 752, 374, 375, 376, 870, 871, 872, 873, 874, 875, 876, 877, 878, 879, 880, 881, 882, 883, 884, 885, 886, 887, 888, 889, 890, 891, 892, 893, 894, 895, 896, 897, 898, 899, 900, 901, 902, 903, 904, 905, 906, 907, 908, 909] (by decide +kernel) (by decide +kernel)
set_option maxRecDepth 20000 in
theorem gL_law_X7_tables : GoodIn wsL_law (wsV RL 130 RX7 yX7_tables wsX7_tables) := goodIn_app (goodIn_of _ (by decide +kernel)) ggL_law_X7_tables
set_option maxRecDepth 20000 in
theorem ggL_law_X6_tableAt : GoodIn wsL_law wsX6_tableAt := goodIn_r _ [756, 712, 713, 2, 714, 715, 716, 717, 718, 719, 720, 721, 722, 723, 724, 725, 726, 727, 728, 729, 20, 622, 477, 275, 478, 730, 731, 732, 733, 734, 735, 736, 737, 738, 19, 739, 146, 50, 476, 319, 320, 862, 863, 864, 865, 866, 867, 868, 869, 914, 915, 916, 917, 918, 919, 920, 921, 922, 923, 924, 925] (by decide +kernel) (by decide +kernel)
set_option maxRecDepth 20000 in
theorem gL_law_X6_tableAt : GoodIn wsL_law (wsV RL 131 RX6 yX6_tableAt wsX6_tableAt) := goodIn_app (goodIn_of _ (by decide +kernel)) ggL_law_X6_tableAt
set_option maxRecDepth 20000 in
theorem ggL_law_X7_tableAt : GoodIn wsL_law wsX7_tableAt := goodIn_r _ [760, 115, 744, 420, 101, 118, 119, 5, 120, 745, 746, 747, 748, 99, 100, 533, 534, 535, 536, 255, 83, 749, 750, 751, 752, 374, 375, 376, 870, 871, 872, 873, 874, 875, 876, 877, 878, 879, 880, 881, 882, 883, 884, 885, 886, 887, 888, 889, 890, 891, 892, 893, 894, 895, 896, 897, 898, 899, 900, 901, 902, 903, 904, 905, 906, 907, 908, 909] (by decide +kernel) (by decide +kernel)
set_option maxRecDepth 20000 in
theorem gL_law_X7_tableAt : GoodIn wsL_law (wsV RL 135 RX7 yX7_tableAt wsX7_tableAt) := goodIn_app (goodIn_of _ (by decide +kernel)) ggL_law_X7_tableAt
set_option maxRecDepth 20000 in
theorem ggL_law_X6_chance : GoodIn wsL_law wsX6_chance := goodIn_r _ [764, 20, 765, 766, 21, 767, 768, 275, 769, 385, 386, 387, 19, 388, 146, 229, 230, 231, 232, 147, 149, 233, 234, 235, 236, 49, 50, 51, 52, 53, 148, 150, 770, 771, 772, 2, 773, 392, 295, 296, 297, 298, 299, 300, 301, 281, 282, 283, 284, 302, 303, 304, 305, 273, 274, 276, 306, 307, 308, 309, 310, 270, 271, 272, 277, 278, 279, 280, 285, 286, 287, 288, 311, 312, 313, 314, 315, 316, 317, 318, 319, 320, 321, 322, 323, 324, 774, 775, 776, 862, 863, 864, 865, 866, 867, 868, 869, 914, 915, 916, 917, 918, 919, 920, 921, 922, 923, 924, 925] (by decide +kernel) (by decide +kernel)
set_option maxRecDepth 20000 in
theorem gL_law_X6_chance : GoodIn wsL_law (wsV RL 136 RX6 yX6_chance wsX6_chance) := goodIn_app (goodIn_of _ (by decide +kernel)) ggL_law_X6_chance
set_option maxRecDepth 20000 in
theorem ggL_law_X7_chance : GoodIn wsL_law wsX7_chance := goodIn_r _ [780, 115, 781, 782, 783, 255, 337, 397, 398, 399, 5, 400, 118, 119, 120, 330, 331, 332, 333, 97, 85, 258, 334, 335, 257, 336, 259, 338, 347, 348, 349, 339, 340, 341, 342, 83, 343, 344, 345, 346, 84, 350, 351, 352, 353, 82, 354, 355, 356, 357, 358, 359, 360, 361, 362, 363, 364, 365, 366, 367, 368, 369, 370, 371, 372, 373, 374, 375, 376, 377, 378, 379, 380, 86, 784, 785, 786, 870, 871, 872, 873, 874, 875, 876, 877, 878, 879, 880, 881, 882, 883, 884, 885, 886, 887, 888, 889, 890, 891, 892, 893, 894, 895, 896, 897, 898, 899, 900, 901, 902, 903, 904, 905, 906, 907, 908, 909] (by decide +kernel) (by decide +kernel)
set_option maxRecDepth 20000 in
theorem gL_law_X7_chance : GoodIn wsL_law (wsV RL 140 RX7 yX7_chance wsX7_chance) := goodIn_app (goodIn_of _ (by decide +kernel)) ggL_law_X7_chance
set_option maxRecDepth 20000 in
theorem ggL_law_X6_meter : GoodIn wsL_law wsX6_meter := goodIn_r _ [790, 34, 791, 792, 793, 33, 794, 795, 69, 70, 862, 863, 864, 865, 866, 867, 868, 869, 931, 932, 933] (by decide +kernel) (by decide +kernel)
set_option maxRecDepth 20000 in
theorem gL_law_X6_meter : GoodIn wsL_law (wsV RL 141 RX6 yX6_meter wsX6_meter) := goodIn_app (goodIn_of _ (by decide +kernel)) ggL_law_X6_meter
set_option maxRecDepth 20000 in
theorem ggL_law_X7_meter : GoodIn wsL_law wsX7_meter := goodIn_r _ [799, 115, 800, 801, 329, 95, 96, 118, 119, 5, 120, 870, 871, 872, 873, 874, 875, 876, 877, 878, 879, 880, 881, 882, 883, 884, 885, 886, 887, 888, 889, 890, 891, 892, 893, 894, 895, 896, 897, 898, 899, 900, 901, 902, 903, 904, 905, 906, 907, 908, 909] (by decide +kernel) (by decide +kernel)
set_option maxRecDepth 20000 in
theorem gL_law_X7_meter : GoodIn wsL_law (wsV RL 144 RX7 yX7_meter wsX7_meter) := goodIn_app (goodIn_of _ (by decide +kernel)) ggL_law_X7_meter
set_option maxRecDepth 20000 in
theorem ggL_law_X6_unmeter : GoodIn wsL_law wsX6_unmeter := goodIn_r _ [805, 34, 806, 807, 808, 33, 809, 795, 862, 863, 864, 865, 866, 867, 868, 869, 931, 932, 933] (by decide +kernel) (by decide +kernel)
set_option maxRecDepth 20000 in
theorem gL_law_X6_unmeter : GoodIn wsL_law (wsV RL 145 RX6 yX6_unmeter wsX6_unmeter) := goodIn_app (goodIn_of _ (by decide +kernel)) ggL_law_X6_unmeter
set_option maxRecDepth 20000 in
theorem ggL_law_X7_unmeter : GoodIn wsL_law wsX7_unmeter := goodIn_r _ [813, 115, 329, 870, 871, 872, 873, 874, 875, 876, 877, 878, 879, 880, 881, 882, 883, 884, 885, 886, 887, 888, 889, 890, 891, 892, 893, 894, 895, 896, 897, 898, 899, 900, 901, 902, 903, 904, 905, 906, 907, 908, 909] (by decide +kernel) (by decide +kernel)
set_option maxRecDepth 20000 in
theorem gL_law_X7_unmeter : GoodIn wsL_law (wsV RL 148 RX7 yX7_unmeter wsX7_unmeter) := goodIn_app (goodIn_of _ (by decide +kernel)) ggL_law_X7_unmeter
set_option maxRecDepth 20000 in
theorem ggL_law_X6_came : GoodIn wsL_law wsX6_came := goodIn_r _ [817, 20, 618, 619, 620, 2, 621, 21, 622, 477, 275, 478, 229, 230, 231, 19, 232, 147, 149, 233, 234, 235, 236, 146, 49, 50, 51, 52, 53, 148, 150, 566, 567, 568, 569, 818, 819, 820, 821, 34, 269, 270, 271, 272, 273, 274, 276, 277, 278, 279, 280, 281, 282, 283, 284, 285, 286, 287, 288, 822, 823, 824, 33, 825, 795, 69, 70, 826, 827, 828, 467, 468, 469, 470, 54, 471, 310, 311, 312, 313, 314, 315, 316, 317, 318, 319, 320, 472, 473, 474, 475, 476, 298, 299, 300, 301, 302, 303, 304, 305, 321, 322, 323, 324, 479, 480, 481, 482, 487, 488, 489, 490, 862, 863, 864, 865, 866, 867, 868, 869, 914, 915, 916, 917, 918, 919, 920, 921, 922, 923, 924, 925, 931, 932, 933] (by decide +kernel) (by decide +kernel)
set_option maxRecDepth 20000 in
theorem gL_law_X6_came : GoodIn wsL_law (wsV RL 149 RX6 yX6_came wsX6_came) := goodIn_app (goodIn_of _ (by decide +kernel)) ggL_law_X6_came
set_option maxRecDepth 20000 in
theorem ggL_law_X7_came : GoodIn wsL_law wsX7_came := goodIn_r _ [832, 115, 255, 335, 329, 95, 96, 330, 331, 332, 5, 333, 97, 85, 258, 334, 257, 336, 337, 259, 338, 606, 607, 608, 609, 358, 359, 360, 361, 362, 363, 364, 365, 343, 344, 345, 346, 84, 347, 348, 349, 366, 367, 368, 369, 118, 119, 120, 503, 504, 505, 506, 98, 507, 508, 509, 510, 511, 512, 513, 514, 82, 83, 354, 355, 356, 357, 370, 371, 372, 373, 374, 375, 376, 350, 351, 352, 353, 377, 378, 379, 380, 86, 870, 871, 872, 873, 874, 875, 876, 877, 878, 879, 880, 881, 882, 883, 884, 885, 886, 887, 888, 889, 890, 891, 892, 893, 894, 895, 896, 897, 898, 899, 900, 901, 902, 903, 904, 905, 906, 907, 908, 909] (by decide +kernel) (by decide +kernel)
set_option maxRecDepth 20000 in
theorem gL_law_X7_came : GoodIn wsL_law (wsV RL 152 RX7 yX7_came wsX7_came) := goodIn_app (goodIn_of _ (by decide +kernel)) ggL_law_X7_came
set_option maxRecDepth 20000 in
theorem ggL_law_X6_keep : GoodIn wsL_law wsX6_keep := goodIn_r _ [836, 38, 20, 837, 838, 839, 37, 840, 76, 250, 841, 230, 231, 19, 232, 147, 149, 233, 234, 235, 236, 146, 49, 50, 51, 52, 53, 148, 150, 862, 863, 864, 865, 866, 867, 868, 869, 914, 915, 916, 917, 918, 919, 920, 921, 922, 923, 924, 925, 934, 935] (by decide +kernel) (by decide +kernel)
set_option maxRecDepth 20000 in
theorem gL_law_X6_keep : GoodIn wsL_law (wsV RL 153 RX6 yX6_keep wsX6_keep) := goodIn_app (goodIn_of _ (by decide +kernel)) ggL_law_X6_keep
set_option maxRecDepth 20000 in
theorem ggL_law_X7_keep : GoodIn wsL_law wsX7_keep := goodIn_r _ [845, 115, 94, 92, 257, 259, 255, 118, 119, 5, 120, 499, 500, 501, 502, 82, 83, 84, 85, 86, 258, 870, 871, 872, 873, 874, 875, 876, 877, 878, 879, 880, 881, 882, 883, 884, 885, 886, 887, 888, 889, 890, 891, 892, 893, 894, 895, 896, 897, 898, 899, 900, 901, 902, 903, 904, 905, 906, 907, 908, 909] (by decide +kernel) (by decide +kernel)
set_option maxRecDepth 20000 in
theorem gL_law_X7_keep : GoodIn wsL_law (wsV RL 156 RX7 yX7_keep wsX7_keep) := goodIn_app (goodIn_of _ (by decide +kernel)) ggL_law_X7_keep
set_option maxRecDepth 20000 in
theorem ggL_law_X6_again : GoodIn wsL_law wsX6_again := goodIn_r _ [849, 38, 20, 30, 850, 851, 852, 37, 853, 250, 854, 855, 856, 857, 76, 229, 230, 231, 19, 232, 147, 149, 233, 234, 235, 236, 146, 49, 50, 51, 52, 53, 148, 150, 241, 242, 243, 29, 244, 245, 862, 863, 864, 865, 866, 867, 868, 869, 914, 915, 916, 917, 918, 919, 920, 921, 922, 923, 924, 925, 934, 935, 929, 930] (by decide +kernel) (by decide +kernel)
set_option maxRecDepth 20000 in
theorem gL_law_X6_again : GoodIn wsL_law (wsV RL 157 RX6 yX6_again wsX6_again) := goodIn_app (goodIn_of _ (by decide +kernel)) ggL_law_X6_again
set_option maxRecDepth 20000 in
theorem ggL_law_X7_again : GoodIn wsL_law wsX7_again := goodIn_r _ [861, 115, 94, 92, 257, 259, 260, 255, 118, 119, 5, 120, 586, 587, 588, 589, 82, 83, 84, 85, 86, 258, 870, 871, 872, 873, 874, 875, 876, 877, 878, 879, 880, 881, 882, 883, 884, 885, 886, 887, 888, 889, 890, 891, 892, 893, 894, 895, 896, 897, 898, 899, 900, 901, 902, 903, 904, 905, 906, 907, 908, 909] (by decide +kernel) (by decide +kernel)
set_option maxRecDepth 20000 in
theorem gL_law_X7_again : GoodIn wsL_law (wsV RL 160 RX7 yX7_again wsX7_again) := goodIn_app (goodIn_of _ (by decide +kernel)) ggL_law_X7_again
