set_option maxRecDepth 20000 in
theorem ggL_law_X4_day : GoodIn wsL_law wsX4_day := goodIn_r _ [621, 17, 387, 595, 86, 91, 92, 2, 93, 596, 597, 598, 599, 198, 600, 601, 602, 603, 604, 507, 508, 16, 509, 44, 34, 43, 35, 605, 606, 607, 608, 21, 200, 609, 401, 402, 403, 404, 352, 405, 349, 350, 351, 36, 42, 333, 280, 281, 282, 37, 46, 406, 407, 408, 409, 334, 284, 285, 286, 287, 206, 207, 208, 45, 47, 288, 289, 290, 291, 292, 293, 482, 483, 484, 20, 485, 54, 52, 55, 354, 355, 486, 487, 488, 489, 490, 51, 491, 492, 411, 412, 413, 39, 493, 494, 495, 496, 497, 498, 499, 500, 501, 502, 503, 504, 505, 506, 510, 511, 512, 513, 514, 515, 516, 517, 518, 53, 519, 520, 521, 522, 523, 524, 525, 526, 858, 859, 860, 861, 862, 863, 864, 865, 895, 896, 897, 898, 899, 900, 901, 902, 903, 904, 905, 906, 907, 908, 909, 910, 911, 912, 913] rfl (by decide +kernel)
set_option maxRecDepth 20000 in
theorem gL_law_X4_day : GoodIn wsL_law (wsV RL 96 RX4 yX4_day wsX4_day) := goodIn_app (goodIn_of _ (by decide +kernel)) ggL_law_X4_day
set_option maxRecDepth 20000 in
theorem ggL_law_X5_day : GoodIn wsL_law wsX5_day := goodIn_r _ [625, 142, 150, 151, 5, 152, 614, 615, 616, 617, 68, 189, 190, 191, 192, 138, 140, 422, 423, 424, 425, 310, 311, 312, 533, 534, 535, 536, 74, 537, 538, 539, 540, 541, 75, 542, 543, 544, 545, 546, 144, 66, 339, 340, 341, 342, 143, 320, 321, 322, 323, 324, 221, 222, 223, 302, 303, 304, 305, 217, 218, 219, 220, 69, 67, 306, 307, 308, 309, 313, 314, 315, 316, 317, 318, 319, 360, 361, 362, 363, 364, 365, 366, 547, 548, 549, 550, 551, 552, 553, 554, 555, 556, 557, 558, 866, 867, 868, 869, 870, 871, 872, 873, 874, 875, 876, 877, 878, 879, 880, 881, 882, 883, 884, 885, 886, 887, 888, 889, 890, 891, 892, 893, 894] rfl (by decide +kernel)
set_option maxRecDepth 20000 in
theorem gL_law_X5_day : GoodIn wsL_law (wsV RL 99 RX5 yX5_day wsX5_day) := goodIn_app (goodIn_of _ (by decide +kernel)) ggL_law_X5_day
set_option maxRecDepth 20000 in
theorem ggL_law_X4_post : GoodIn wsL_law wsX4_post := goodIn_r _ [629, 17, 387, 595, 229, 230, 231, 16, 232, 36, 91, 92, 2, 93, 630, 631, 632, 633, 333, 280, 281, 282, 37, 46, 354, 355, 288, 289, 290, 291, 292, 43, 44, 293, 34, 35, 634, 635, 636, 637, 638, 639, 640, 641, 45, 47, 605, 606, 607, 608, 21, 200, 609, 401, 402, 403, 404, 352, 405, 349, 350, 351, 42, 406, 407, 408, 409, 334, 284, 285, 286, 287, 206, 207, 208, 482, 483, 484, 20, 485, 54, 52, 55, 486, 487, 488, 489, 490, 51, 491, 492, 411, 412, 413, 39, 493, 494, 495, 496, 497, 498, 499, 500, 501, 502, 503, 504, 505, 506, 507, 508, 509, 510, 511, 512, 513, 514, 515, 516, 517, 518, 53, 519, 520, 521, 522, 523, 524, 525, 526, 642, 643, 644, 645, 858, 859, 860, 861, 862, 863, 864, 865, 895, 896, 897, 898, 899, 900, 901, 902, 903, 904, 905, 906, 907, 908, 909, 910, 911, 912, 913] rfl (by decide +kernel)
set_option maxRecDepth 20000 in
theorem gL_law_X4_post : GoodIn wsL_law (wsV RL 100 RX4 yX4_post wsX4_post) := goodIn_app (goodIn_of _ (by decide +kernel)) ggL_law_X4_post
set_option maxRecDepth 20000 in
theorem ggL_law_X5_post : GoodIn wsL_law wsX5_post := goodIn_r _ [649, 542, 237, 238, 239, 5, 240, 189, 190, 191, 192, 138, 140, 150, 151, 152, 316, 317, 318, 319, 68, 320, 321, 322, 323, 142, 324, 306, 307, 308, 309, 310, 311, 312, 313, 314, 315, 650, 651, 652, 653, 67, 69, 533, 534, 535, 536, 74, 537, 538, 539, 540, 541, 75, 543, 544, 545, 546, 144, 66, 339, 340, 341, 342, 143, 221, 222, 223, 302, 303, 304, 305, 217, 218, 219, 220, 360, 361, 362, 363, 364, 365, 366, 547, 548, 549, 550, 422, 423, 424, 425, 551, 552, 553, 554, 555, 556, 557, 558, 866, 867, 868, 869, 870, 871, 872, 873, 874, 875, 876, 877, 878, 879, 880, 881, 882, 883, 884, 885, 886, 887, 888, 889, 890, 891, 892, 893, 894] rfl (by decide +kernel)
set_option maxRecDepth 20000 in
theorem gL_law_X5_post : GoodIn wsL_law (wsV RL 103 RX5 yX5_post wsX5_post) := goodIn_app (goodIn_of _ (by decide +kernel)) ggL_law_X5_post
set_option maxRecDepth 20000 in
theorem ggL_law_X4_reading : GoodIn wsL_law wsX4_reading := goodIn_r _ [657, 17, 26, 23, 25, 229, 230, 231, 16, 232, 36, 858, 859, 860, 861, 862, 863, 864, 865, 895, 896, 897, 898, 899, 900, 901, 902, 903, 904, 905, 906, 907, 908] rfl (by decide +kernel)
set_option maxRecDepth 20000 in
theorem gL_law_X4_reading : GoodIn wsL_law (wsV RL 104 RX4 yX4_reading wsX4_reading) := goodIn_app (goodIn_of _ (by decide +kernel)) ggL_law_X4_reading
set_option maxRecDepth 20000 in
theorem ggL_law_X5_reading : GoodIn wsL_law wsX5_reading := goodIn_r _ [661, 145, 76, 77, 237, 238, 239, 5, 240, 189, 190, 191, 192, 138, 140, 150, 151, 152, 866, 867, 868, 869, 870, 871, 872, 873, 874, 875, 876, 877, 878, 879, 880, 881, 882, 883, 884, 885, 886, 887, 888, 889, 890, 891, 892, 893, 894] rfl (by decide +kernel)
set_option maxRecDepth 20000 in
theorem gL_law_X5_reading : GoodIn wsL_law (wsV RL 107 RX5 yX5_reading wsX5_reading) := goodIn_app (goodIn_of _ (by decide +kernel)) ggL_law_X5_reading
set_option maxRecDepth 20000 in
theorem ggL_law_X4_back : GoodIn wsL_law wsX4_back := goodIn_r _ [665, 26, 91, 92, 2, 93, 858, 859, 860, 861, 862, 863, 864, 865] rfl (by decide +kernel)
set_option maxRecDepth 20000 in
theorem gL_law_X4_back : GoodIn wsL_law (wsV RL 108 RX4 yX4_back wsX4_back) := goodIn_app (goodIn_of _ (by decide +kernel)) ggL_law_X4_back
set_option maxRecDepth 20000 in
theorem ggL_law_X5_back : GoodIn wsL_law wsX5_back := goodIn_r _ [669, 145, 150, 151, 5, 152, 866, 867, 868, 869, 870, 871, 872, 873, 874, 875, 876, 877, 878, 879, 880, 881, 882, 883, 884, 885, 886, 887, 888, 889, 890, 891, 892, 893, 894] rfl (by decide +kernel)
set_option maxRecDepth 20000 in
theorem gL_law_X5_back : GoodIn wsL_law (wsV RL 111 RX5 yX5_back wsX5_back) := goodIn_app (goodIn_of _ (by decide +kernel)) ggL_law_X5_back
set_option maxRecDepth 20000 in
theorem ggL_law_X4_reaches : GoodIn wsL_law wsX4_reaches := goodIn_r _ [673, 17, 199, 201, 202, 203, 16, 204, 37, 674, 675, 676, 2, 677, 200, 26, 23, 25, 463, 407, 408, 409, 333, 280, 281, 282, 46, 334, 284, 285, 286, 287, 206, 207, 208, 45, 47, 288, 289, 290, 291, 292, 43, 44, 293, 34, 35, 353, 354, 355, 858, 859, 860, 861, 862, 863, 864, 865, 895, 896, 897, 898, 899, 900, 901, 902, 903, 904, 905, 906, 907, 908] rfl (by decide +kernel)
set_option maxRecDepth 20000 in
theorem gL_law_X4_reaches : GoodIn wsL_law (wsV RL 112 RX4 yX4_reaches wsX4_reaches) := goodIn_app (goodIn_of _ (by decide +kernel)) ggL_law_X4_reaches
set_option maxRecDepth 20000 in
theorem ggL_law_X5_reaches : GoodIn wsL_law wsX5_reaches := goodIn_r _ [681, 69, 213, 214, 215, 5, 216, 142, 150, 151, 152, 682, 683, 684, 685, 145, 76, 77, 339, 340, 341, 342, 143, 320, 321, 322, 323, 324, 221, 222, 223, 302, 303, 304, 305, 68, 217, 218, 219, 220, 67, 306, 307, 308, 309, 138, 310, 311, 312, 313, 314, 315, 316, 317, 318, 319, 866, 867, 868, 869, 870, 871, 872, 873, 874, 875, 876, 877, 878, 879, 880, 881, 882, 883, 884, 885, 886, 887, 888, 889, 890, 891, 892, 893, 894] rfl (by decide +kernel)
set_option maxRecDepth 20000 in
theorem gL_law_X5_reaches : GoodIn wsL_law (wsV RL 115 RX5 yX5_reaches wsX5_reaches) := goodIn_app (goodIn_of _ (by decide +kernel)) ggL_law_X5_reaches
