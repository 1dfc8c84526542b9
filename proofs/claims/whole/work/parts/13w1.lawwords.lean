set_option maxRecDepth 20000 in
theorem ggL_law_X4_charge : GoodIn wsL_law wsX4_charge := goodIn_r _ [253, 17, 199, 201, 202, 203, 16, 204, 37, 91, 92, 2, 93, 858, 859, 860, 861, 862, 863, 864, 865, 895, 896, 897, 898, 899, 900, 901, 902, 903, 904, 905, 906, 907, 908] rfl (by decide +kernel)
set_option maxRecDepth 20000 in
theorem gL_law_X4_charge : GoodIn wsL_law (wsV RL 32 RX4 yX4_charge wsX4_charge) := goodIn_app (goodIn_of _ (by decide +kernel)) ggL_law_X4_charge
set_option maxRecDepth 20000 in
theorem ggL_law_X5_charge : GoodIn wsL_law wsX5_charge := goodIn_r _ [257, 249, 69, 213, 214, 215, 5, 216, 142, 150, 151, 152, 866, 867, 868, 869, 870, 871, 872, 873, 874, 875, 876, 877, 878, 879, 880, 881, 882, 883, 884, 885, 886, 887, 888, 889, 890, 891, 892, 893, 894] rfl (by decide +kernel)
set_option maxRecDepth 20000 in
theorem gL_law_X5_charge : GoodIn wsL_law (wsV RL 35 RX5 yX5_charge wsX5_charge) := goodIn_app (goodIn_of _ (by decide +kernel)) ggL_law_X5_charge
set_option maxRecDepth 20000 in
theorem ggL_law_X4_hush : GoodIn wsL_law wsX4_hush := goodIn_r _ [261, 17, 200, 201, 202, 203, 16, 204, 37, 858, 859, 860, 861, 862, 863, 864, 865, 895, 896, 897, 898, 899, 900, 901, 902, 903, 904, 905, 906, 907, 908] rfl (by decide +kernel)
set_option maxRecDepth 20000 in
theorem gL_law_X4_hush : GoodIn wsL_law (wsV RL 36 RX4 yX4_hush wsX4_hush) := goodIn_app (goodIn_of _ (by decide +kernel)) ggL_law_X4_hush
set_option maxRecDepth 20000 in
theorem ggL_law_X5_hush : GoodIn wsL_law wsX5_hush := goodIn_r _ [265, 143, 213, 214, 215, 5, 216, 142, 150, 151, 152, 866, 867, 868, 869, 870, 871, 872, 873, 874, 875, 876, 877, 878, 879, 880, 881, 882, 883, 884, 885, 886, 887, 888, 889, 890, 891, 892, 893, 894] rfl (by decide +kernel)
set_option maxRecDepth 20000 in
theorem gL_law_X5_hush : GoodIn wsL_law (wsV RL 40 RX5 yX5_hush wsX5_hush) := goodIn_app (goodIn_of _ (by decide +kernel)) ggL_law_X5_hush
set_option maxRecDepth 20000 in
theorem ggL_law_X4_haul : GoodIn wsL_law wsX4_haul := goodIn_r _ [269, 17, 198, 201, 202, 203, 16, 204, 37, 229, 230, 231, 232, 36, 858, 859, 860, 861, 862, 863, 864, 865, 895, 896, 897, 898, 899, 900, 901, 902, 903, 904, 905, 906, 907, 908] rfl (by decide +kernel)
set_option maxRecDepth 20000 in
theorem gL_law_X4_haul : GoodIn wsL_law (wsV RL 41 RX4 yX4_haul wsX4_haul) := goodIn_app (goodIn_of _ (by decide +kernel)) ggL_law_X4_haul
set_option maxRecDepth 20000 in
theorem ggL_law_X5_haul : GoodIn wsL_law wsX5_haul := goodIn_r _ [273, 68, 213, 214, 215, 5, 216, 142, 150, 151, 152, 237, 238, 239, 240, 189, 190, 191, 192, 138, 140, 866, 867, 868, 869, 870, 871, 872, 873, 874, 875, 876, 877, 878, 879, 880, 881, 882, 883, 884, 885, 886, 887, 888, 889, 890, 891, 892, 893, 894] rfl (by decide +kernel)
set_option maxRecDepth 20000 in
theorem gL_law_X5_haul : GoodIn wsL_law (wsV RL 44 RX5 yX5_haul wsX5_haul) := goodIn_app (goodIn_of _ (by decide +kernel)) ggL_law_X5_haul
set_option maxRecDepth 20000 in
theorem ggL_law_X4_sees : GoodIn wsL_law wsX4_sees := goodIn_r _ [277, 17, 278, 201, 202, 203, 16, 204, 37, 279, 280, 281, 282, 46, 283, 284, 285, 286, 287, 206, 207, 208, 45, 47, 288, 289, 290, 291, 292, 43, 44, 293, 34, 35, 858, 859, 860, 861, 862, 863, 864, 865, 895, 896, 897, 898, 899, 900, 901, 902, 903, 904, 905, 906, 907, 908] rfl (by decide +kernel)
set_option maxRecDepth 20000 in
theorem gL_law_X4_sees : GoodIn wsL_law (wsV RL 45 RX4 yX4_sees wsX4_sees) := goodIn_app (goodIn_of _ (by decide +kernel)) ggL_law_X4_sees
set_option maxRecDepth 20000 in
theorem ggL_law_X5_sees : GoodIn wsL_law wsX5_sees := goodIn_r _ [297, 213, 214, 215, 5, 216, 142, 150, 151, 152, 298, 299, 300, 301, 189, 190, 191, 192, 138, 140, 302, 303, 304, 305, 68, 217, 218, 219, 220, 69, 67, 306, 307, 308, 309, 310, 311, 312, 313, 314, 315, 316, 317, 318, 319, 320, 321, 322, 323, 324, 866, 867, 868, 869, 870, 871, 872, 873, 874, 875, 876, 877, 878, 879, 880, 881, 882, 883, 884, 885, 886, 887, 888, 889, 890, 891, 892, 893, 894] rfl (by decide +kernel)
set_option maxRecDepth 20000 in
theorem gL_law_X5_sees : GoodIn wsL_law (wsV RL 49 RX5 yX5_sees wsX5_sees) := goodIn_app (goodIn_of _ (by decide +kernel)) ggL_law_X5_sees
set_option maxRecDepth 20000 in
theorem ggL_law_X4_shot : GoodIn wsL_law wsX4_shot := goodIn_r _ [328, 17, 229, 230, 231, 16, 232, 36, 329, 330, 331, 332, 37, 38, 333, 280, 281, 282, 46, 334, 284, 285, 286, 287, 206, 207, 208, 45, 47, 288, 289, 290, 291, 292, 43, 44, 293, 34, 35, 858, 859, 860, 861, 862, 863, 864, 865, 895, 896, 897, 898, 899, 900, 901, 902, 903, 904, 905, 906, 907, 908] rfl (by decide +kernel)
set_option maxRecDepth 20000 in
theorem gL_law_X4_shot : GoodIn wsL_law (wsV RL 50 RX4 yX4_shot wsX4_shot) := goodIn_app (goodIn_of _ (by decide +kernel)) ggL_law_X4_shot
set_option maxRecDepth 20000 in
theorem ggL_law_X5_shot : GoodIn wsL_law wsX5_shot := goodIn_r _ [338, 237, 238, 239, 5, 240, 189, 190, 191, 192, 138, 140, 150, 151, 152, 339, 340, 341, 342, 143, 320, 321, 322, 323, 142, 324, 221, 222, 223, 302, 303, 304, 305, 68, 217, 218, 219, 220, 69, 67, 306, 307, 308, 309, 310, 311, 312, 313, 314, 315, 316, 317, 318, 319, 866, 867, 868, 869, 870, 871, 872, 873, 874, 875, 876, 877, 878, 879, 880, 881, 882, 883, 884, 885, 886, 887, 888, 889, 890, 891, 892, 893, 894] rfl (by decide +kernel)
set_option maxRecDepth 20000 in
theorem gL_law_X5_shot : GoodIn wsL_law (wsV RL 53 RX5 yX5_shot wsX5_shot) := goodIn_app (goodIn_of _ (by decide +kernel)) ggL_law_X5_shot
