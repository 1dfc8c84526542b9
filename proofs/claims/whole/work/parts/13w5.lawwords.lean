set_option maxRecDepth 20000 in
theorem ggL_law_X4_kinds : GoodIn wsL_law wsX4_kinds := goodIn_r _ [689, 17, 197, 201, 202, 203, 16, 204, 37, 674, 675, 676, 2, 677, 200, 26, 23, 25, 463, 407, 408, 409, 333, 280, 281, 282, 46, 334, 284, 285, 286, 287, 206, 207, 208, 45, 47, 288, 289, 290, 291, 292, 43, 44, 293, 34, 35, 353, 354, 355, 858, 859, 860, 861, 862, 863, 864, 865, 895, 896, 897, 898, 899, 900, 901, 902, 903, 904, 905, 906, 907, 908] rfl (by decide +kernel)
set_option maxRecDepth 20000 in
theorem gL_law_X4_kinds : GoodIn wsL_law (wsV RL 116 RX4 yX4_kinds wsX4_kinds) := goodIn_app (goodIn_of _ (by decide +kernel)) ggL_law_X4_kinds
set_option maxRecDepth 20000 in
theorem ggL_law_X5_kinds : GoodIn wsL_law wsX5_kinds := goodIn_r _ [693, 67, 213, 214, 215, 5, 216, 142, 150, 151, 152, 682, 683, 684, 685, 145, 76, 77, 339, 340, 341, 342, 143, 320, 321, 322, 323, 324, 221, 222, 223, 302, 303, 304, 305, 68, 217, 218, 219, 220, 69, 306, 307, 308, 309, 138, 310, 311, 312, 313, 314, 315, 316, 317, 318, 319, 866, 867, 868, 869, 870, 871, 872, 873, 874, 875, 876, 877, 878, 879, 880, 881, 882, 883, 884, 885, 886, 887, 888, 889, 890, 891, 892, 893, 894] rfl (by decide +kernel)
set_option maxRecDepth 20000 in
theorem gL_law_X5_kinds : GoodIn wsL_law (wsV RL 119 RX5 yX5_kinds wsX5_kinds) := goodIn_app (goodIn_of _ (by decide +kernel)) ggL_law_X5_kinds
set_option maxRecDepth 20000 in
theorem ggL_law_X4_haunts : GoodIn wsL_law wsX4_haunts := goodIn_r _ [697, 17, 278, 198, 387, 201, 202, 203, 16, 204, 37, 674, 675, 676, 2, 677, 200, 26, 23, 25, 463, 407, 408, 409, 333, 280, 281, 282, 46, 334, 284, 285, 286, 287, 206, 207, 208, 45, 47, 288, 289, 290, 291, 292, 43, 44, 293, 34, 35, 353, 354, 355, 858, 859, 860, 861, 862, 863, 864, 865, 895, 896, 897, 898, 899, 900, 901, 902, 903, 904, 905, 906, 907, 908] rfl (by decide +kernel)
set_option maxRecDepth 20000 in
theorem gL_law_X4_haunts : GoodIn wsL_law (wsV RL 120 RX4 yX4_haunts wsX4_haunts) := goodIn_app (goodIn_of _ (by decide +kernel)) ggL_law_X4_haunts
set_option maxRecDepth 20000 in
theorem ggL_law_X5_haunts : GoodIn wsL_law wsX5_haunts := goodIn_r _ [701, 68, 213, 214, 215, 5, 216, 142, 150, 151, 152, 298, 299, 300, 301, 189, 190, 191, 192, 138, 140, 682, 683, 684, 685, 145, 76, 77, 339, 340, 341, 342, 143, 320, 321, 322, 323, 324, 221, 222, 223, 302, 303, 304, 305, 217, 218, 219, 220, 69, 67, 306, 307, 308, 309, 310, 311, 312, 313, 314, 315, 316, 317, 318, 319, 866, 867, 868, 869, 870, 871, 872, 873, 874, 875, 876, 877, 878, 879, 880, 881, 882, 883, 884, 885, 886, 887, 888, 889, 890, 891, 892, 893, 894] rfl (by decide +kernel)
set_option maxRecDepth 20000 in
theorem gL_law_X5_haunts : GoodIn wsL_law (wsV RL 123 RX5 yX5_haunts wsX5_haunts) := goodIn_app (goodIn_of _ (by decide +kernel)) ggL_law_X5_haunts
set_option maxRecDepth 20000 in
theorem ggL_law_X4_odds : GoodIn wsL_law wsX4_odds := goodIn_r _ [705, 17, 278, 86, 200, 229, 230, 231, 16, 232, 36, 91, 92, 2, 93, 579, 580, 581, 582, 401, 402, 403, 404, 352, 405, 349, 350, 351, 42, 333, 280, 281, 282, 37, 46, 406, 407, 408, 409, 334, 284, 285, 286, 287, 206, 207, 208, 45, 47, 288, 289, 290, 291, 292, 43, 44, 293, 34, 35, 583, 584, 585, 586, 40, 457, 398, 399, 400, 41, 353, 354, 355, 858, 859, 860, 861, 862, 863, 864, 865, 895, 896, 897, 898, 899, 900, 901, 902, 903, 904, 905, 906, 907, 908] rfl (by decide +kernel)
set_option maxRecDepth 20000 in
theorem gL_law_X4_odds : GoodIn wsL_law (wsV RL 124 RX4 yX4_odds wsX4_odds) := goodIn_app (goodIn_of _ (by decide +kernel)) ggL_law_X4_odds
set_option maxRecDepth 20000 in
theorem ggL_law_X5_odds : GoodIn wsL_law wsX5_odds := goodIn_r _ [709, 143, 142, 237, 238, 239, 5, 240, 189, 190, 191, 192, 138, 140, 150, 151, 152, 298, 299, 300, 301, 533, 534, 535, 536, 74, 537, 538, 539, 540, 541, 75, 542, 543, 544, 545, 546, 144, 66, 339, 340, 341, 342, 320, 321, 322, 323, 324, 221, 222, 223, 302, 303, 304, 305, 68, 217, 218, 219, 220, 69, 67, 306, 307, 308, 309, 310, 311, 312, 313, 314, 315, 316, 317, 318, 319, 360, 361, 362, 363, 364, 365, 366, 547, 548, 549, 550, 422, 423, 424, 425, 551, 552, 553, 554, 555, 556, 557, 558, 710, 711, 712, 866, 867, 868, 869, 870, 871, 872, 873, 874, 875, 876, 877, 878, 879, 880, 881, 882, 883, 884, 885, 886, 887, 888, 889, 890, 891, 892, 893, 894] rfl (by decide +kernel)
set_option maxRecDepth 20000 in
theorem gL_law_X5_odds : GoodIn wsL_law (wsV RL 128 RX5 yX5_odds wsX5_odds) := goodIn_app (goodIn_of _ (by decide +kernel)) ggL_law_X5_odds
set_option maxRecDepth 20000 in
theorem ggL_law_X4_sheet : GoodIn wsL_law wsX4_sheet := goodIn_r _ [716, 28, 87, 88, 89, 2, 90, 13, 91, 92, 93, 98, 99, 100, 101, 717, 718, 719, 30, 720, 60, 61, 59, 721, 499, 500, 501, 858, 859, 860, 861, 862, 863, 864, 865, 914, 915, 916] rfl (by decide +kernel)
set_option maxRecDepth 20000 in
theorem gL_law_X4_sheet : GoodIn wsL_law (wsV RL 129 RX4 yX4_sheet wsX4_sheet) := goodIn_app (goodIn_of _ (by decide +kernel)) ggL_law_X4_sheet
set_option maxRecDepth 20000 in
theorem ggL_law_X5_sheet : GoodIn wsL_law wsX5_sheet := goodIn_r _ [725, 135, 78, 79, 80, 146, 147, 5, 148, 149, 150, 151, 152, 153, 154, 155, 156, 157, 162, 163, 164, 165, 866, 867, 868, 869, 870, 871, 872, 873, 874, 875, 876, 877, 878, 879, 880, 881, 882, 883, 884, 885, 886, 887, 888, 889, 890, 891, 892, 893, 894] rfl (by decide +kernel)
set_option maxRecDepth 20000 in
theorem gL_law_X5_sheet : GoodIn wsL_law (wsV RL 133 RX5 yX5_sheet wsX5_sheet) := goodIn_app (goodIn_of _ (by decide +kernel)) ggL_law_X5_sheet
set_option maxRecDepth 20000 in
theorem ggL_law_X4_lose : GoodIn wsL_law wsX4_lose := goodIn_r _ [729, 87, 88, 89, 2, 90, 13, 91, 92, 93, 102, 103, 104, 30, 105, 60, 730, 731, 732, 733, 61, 858, 859, 860, 861, 862, 863, 864, 865, 914, 915, 916] rfl (by decide +kernel)
set_option maxRecDepth 20000 in
theorem gL_law_X4_lose : GoodIn wsL_law (wsV RL 134 RX4 yX4_lose wsX4_lose) := goodIn_app (goodIn_of _ (by decide +kernel)) ggL_law_X4_lose
set_option maxRecDepth 20000 in
theorem ggL_law_X5_lose : GoodIn wsL_law wsX5_lose := goodIn_r _ [737, 78, 146, 147, 5, 148, 149, 150, 151, 152, 866, 867, 868, 869, 870, 871, 872, 873, 874, 875, 876, 877, 878, 879, 880, 881, 882, 883, 884, 885, 886, 887, 888, 889, 890, 891, 892, 893, 894] rfl (by decide +kernel)
set_option maxRecDepth 20000 in
theorem gL_law_X5_lose : GoodIn wsL_law (wsV RL 137 RX5 yX5_lose wsX5_lose) := goodIn_app (goodIn_of _ (by decide +kernel)) ggL_law_X5_lose
