set_option maxRecDepth 20000 in
theorem ggL_law_X4_is : GoodIn wsL_law wsX4_is := goodIn_r _ [346, 17, 347, 229, 230, 231, 16, 232, 36, 348, 349, 350, 351, 42, 352, 333, 280, 281, 282, 37, 46, 353, 354, 2, 355, 858, 859, 860, 861, 862, 863, 864, 865, 895, 896, 897, 898, 899, 900, 901, 902, 903, 904, 905, 906, 907, 908] rfl (by decide +kernel)
set_option maxRecDepth 20000 in
theorem gL_law_X4_is : GoodIn wsL_law (wsV RL 54 RX4 yX4_is wsX4_is) := goodIn_app (goodIn_of _ (by decide +kernel)) ggL_law_X4_is
set_option maxRecDepth 20000 in
theorem ggL_law_X5_is : GoodIn wsL_law wsX5_is := goodIn_r _ [359, 144, 237, 238, 239, 5, 240, 189, 190, 191, 192, 138, 140, 150, 151, 152, 360, 361, 362, 363, 66, 316, 317, 318, 319, 68, 320, 321, 322, 323, 142, 324, 364, 365, 366, 866, 867, 868, 869, 870, 871, 872, 873, 874, 875, 876, 877, 878, 879, 880, 881, 882, 883, 884, 885, 886, 887, 888, 889, 890, 891, 892, 893, 894] rfl (by decide +kernel)
set_option maxRecDepth 20000 in
theorem gL_law_X5_is : GoodIn wsL_law (wsV RL 57 RX5 yX5_is wsX5_is) := goodIn_app (goodIn_of _ (by decide +kernel)) ggL_law_X5_is
set_option maxRecDepth 20000 in
theorem ggL_law_X4_cover : GoodIn wsL_law wsX4_cover := goodIn_r _ [370, 17, 201, 202, 203, 16, 204, 37, 371, 372, 373, 374, 46, 333, 280, 281, 282, 334, 284, 285, 286, 287, 206, 207, 208, 45, 47, 288, 289, 290, 291, 292, 43, 44, 293, 34, 35, 354, 2, 355, 858, 859, 860, 861, 862, 863, 864, 865, 895, 896, 897, 898, 899, 900, 901, 902, 903, 904, 905, 906, 907, 908] rfl (by decide +kernel)
set_option maxRecDepth 20000 in
theorem gL_law_X4_cover : GoodIn wsL_law (wsV RL 58 RX4 yX4_cover wsX4_cover) := goodIn_app (goodIn_of _ (by decide +kernel)) ggL_law_X4_cover
set_option maxRecDepth 20000 in
theorem ggL_law_X5_cover : GoodIn wsL_law wsX5_cover := goodIn_r _ [378, 213, 214, 215, 5, 216, 142, 150, 151, 152, 379, 380, 381, 382, 68, 302, 303, 304, 305, 217, 218, 219, 220, 69, 67, 306, 307, 308, 309, 138, 310, 311, 312, 313, 314, 315, 316, 317, 318, 319, 320, 321, 322, 323, 324, 866, 867, 868, 869, 870, 871, 872, 873, 874, 875, 876, 877, 878, 879, 880, 881, 882, 883, 884, 885, 886, 887, 888, 889, 890, 891, 892, 893, 894] rfl (by decide +kernel)
set_option maxRecDepth 20000 in
theorem gL_law_X5_cover : GoodIn wsL_law (wsV RL 61 RX5 yX5_cover wsX5_cover) := goodIn_app (goodIn_of _ (by decide +kernel)) ggL_law_X5_cover
set_option maxRecDepth 20000 in
theorem ggL_law_X4_bare : GoodIn wsL_law wsX4_bare := goodIn_r _ [386, 17, 387, 86, 371, 372, 373, 16, 374, 37, 46, 333, 280, 281, 282, 334, 284, 285, 286, 287, 206, 207, 208, 45, 47, 288, 289, 290, 291, 292, 43, 44, 293, 34, 35, 354, 2, 355, 858, 859, 860, 861, 862, 863, 864, 865, 895, 896, 897, 898, 899, 900, 901, 902, 903, 904, 905, 906, 907, 908] rfl (by decide +kernel)
set_option maxRecDepth 20000 in
theorem gL_law_X4_bare : GoodIn wsL_law (wsV RL 62 RX4 yX4_bare wsX4_bare) := goodIn_app (goodIn_of _ (by decide +kernel)) ggL_law_X4_bare
set_option maxRecDepth 20000 in
theorem ggL_law_X5_bare : GoodIn wsL_law wsX5_bare := goodIn_r _ [391, 142, 379, 380, 381, 5, 382, 68, 302, 303, 304, 305, 217, 218, 219, 220, 69, 67, 306, 307, 308, 309, 138, 310, 311, 312, 150, 151, 152, 313, 314, 315, 316, 317, 318, 319, 320, 321, 322, 323, 324, 866, 867, 868, 869, 870, 871, 872, 873, 874, 875, 876, 877, 878, 879, 880, 881, 882, 883, 884, 885, 886, 887, 888, 889, 890, 891, 892, 893, 894] rfl (by decide +kernel)
set_option maxRecDepth 20000 in
theorem gL_law_X5_bare : GoodIn wsL_law (wsV RL 66 RX5 yX5_bare wsX5_bare) := goodIn_app (goodIn_of _ (by decide +kernel)) ggL_law_X5_bare
set_option maxRecDepth 20000 in
theorem ggL_law_X4_dig : GoodIn wsL_law wsX4_dig := goodIn_r _ [395, 17, 396, 347, 200, 229, 230, 231, 16, 232, 36, 397, 398, 399, 400, 41, 352, 40, 34, 401, 402, 403, 404, 405, 349, 350, 351, 42, 333, 280, 281, 282, 37, 46, 406, 407, 408, 409, 334, 284, 285, 286, 287, 206, 207, 208, 45, 47, 288, 289, 290, 291, 292, 43, 44, 293, 35, 353, 354, 2, 355, 410, 411, 412, 413, 39, 858, 859, 860, 861, 862, 863, 864, 865, 895, 896, 897, 898, 899, 900, 901, 902, 903, 904, 905, 906, 907, 908] rfl (by decide +kernel)
set_option maxRecDepth 20000 in
theorem gL_law_X4_dig : GoodIn wsL_law (wsV RL 67 RX4 yX4_dig wsX4_dig) := goodIn_app (goodIn_of _ (by decide +kernel)) ggL_law_X4_dig
set_option maxRecDepth 20000 in
theorem ggL_law_X5_dig : GoodIn wsL_law wsX5_dig := goodIn_r _ [417, 144, 66, 237, 238, 239, 5, 240, 189, 190, 191, 192, 138, 140, 150, 151, 152, 360, 361, 362, 363, 316, 317, 318, 319, 68, 320, 321, 322, 323, 142, 324, 339, 340, 341, 342, 143, 221, 222, 223, 302, 303, 304, 305, 217, 218, 219, 220, 69, 67, 306, 307, 308, 309, 310, 311, 312, 313, 314, 315, 418, 419, 420, 421, 364, 365, 366, 422, 423, 424, 425, 866, 867, 868, 869, 870, 871, 872, 873, 874, 875, 876, 877, 878, 879, 880, 881, 882, 883, 884, 885, 886, 887, 888, 889, 890, 891, 892, 893, 894] rfl (by decide +kernel)
set_option maxRecDepth 20000 in
theorem gL_law_X5_dig : GoodIn wsL_law (wsV RL 70 RX5 yX5_dig wsX5_dig) := goodIn_app (goodIn_of _ (by decide +kernel)) ggL_law_X5_dig
set_option maxRecDepth 20000 in
theorem ggL_law_X4_fill : GoodIn wsL_law wsX4_fill := goodIn_r _ [429, 17, 387, 347, 430, 431, 432, 433, 434, 435, 436, 858, 859, 860, 861, 862, 863, 864, 865, 895, 896, 897, 898, 899, 900, 901, 902, 903, 904, 905, 906, 907, 908] rfl (by decide +kernel)
set_option maxRecDepth 20000 in
theorem gL_law_X4_fill : GoodIn wsL_law (wsV RL 71 RX4 yX4_fill wsX4_fill) := goodIn_app (goodIn_of _ (by decide +kernel)) ggL_law_X4_fill
set_option maxRecDepth 20000 in
theorem ggL_law_X5_fill : GoodIn wsL_law wsX5_fill := goodIn_r _ [440, 142, 144, 441, 442, 5, 443, 866, 867, 868, 869, 870, 871, 872, 873, 874, 875, 876, 877, 878, 879, 880, 881, 882, 883, 884, 885, 886, 887, 888, 889, 890, 891, 892, 893, 894] rfl (by decide +kernel)
set_option maxRecDepth 20000 in
theorem gL_law_X5_fill : GoodIn wsL_law (wsV RL 74 RX5 yX5_fill wsX5_fill) := goodIn_app (goodIn_of _ (by decide +kernel)) ggL_law_X5_fill
