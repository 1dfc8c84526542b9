set_option maxRecDepth 20000 in
theorem ggL_law_X4_init : GoodIn wsL_law wsX4_init := goodIn_r _ [8, 9, 10, 11, 12, 13, 14, 15, 16, 17, 18, 19, 20, 21, 22, 23, 24, 25, 26, 27, 28, 29, 30, 31, 32, 33, 34, 35, 36, 37, 38, 39, 40, 41, 42, 43, 44, 45, 46, 47, 48, 49, 50, 51, 52, 53, 54, 55, 56, 57, 58, 59, 60, 61, 858, 859, 860, 861, 862, 863, 864, 865, 895, 896, 897, 898, 899, 900, 901, 902, 903, 904, 905, 906, 907, 908, 909, 910, 911, 912, 913, 914, 915, 916] rfl (by decide +kernel)
set_option maxRecDepth 20000 in
theorem gL_law_X4_init : GoodIn wsL_law (wsX4_init) := ggL_law_X4_init
set_option maxRecDepth 20000 in
theorem ggL_law_X5_init : GoodIn wsL_law wsX5_init := goodIn_r _ [64, 65, 10, 11, 22, 66, 67, 68, 69, 70, 71, 72, 73, 74, 75, 76, 24, 77, 78, 79, 80, 81, 866, 867, 868, 869, 870, 871, 872, 873, 874, 875, 876, 877, 878, 879, 880, 881, 882, 883, 884, 885, 886, 887, 888, 889, 890, 891, 892, 893, 894] rfl (by decide +kernel)
set_option maxRecDepth 20000 in
theorem gL_law_X5_init : GoodIn wsL_law (wsX5_init) := ggL_law_X5_init
set_option maxRecDepth 20000 in
theorem ggL_law_X4_ground : GoodIn wsL_law wsX4_ground := goodIn_r _ [85, 28, 17, 26, 86, 87, 88, 89, 2, 90, 13, 91, 92, 93, 94, 95, 96, 30, 97, 60, 98, 99, 100, 101, 102, 103, 104, 105, 106, 107, 108, 109, 61, 110, 111, 112, 113, 114, 115, 116, 117, 118, 119, 120, 121, 122, 123, 16, 124, 125, 36, 42, 39, 38, 37, 45, 46, 34, 47, 126, 127, 128, 129, 35, 40, 41, 43, 44, 130, 858, 859, 860, 861, 862, 863, 864, 865, 895, 896, 897, 898, 899, 900, 901, 902, 903, 904, 905, 906, 907, 908, 914, 915, 916] rfl (by decide +kernel)
set_option maxRecDepth 20000 in
theorem gL_law_X4_ground : GoodIn wsL_law (wsV RL 13 RX4 yX4_ground wsX4_ground) := goodIn_app (goodIn_of _ (by decide +kernel)) ggL_law_X4_ground
set_option maxRecDepth 20000 in
theorem ggL_law_X5_ground : GoodIn wsL_law wsX5_ground := goodIn_r _ [134, 135, 136, 137, 138, 139, 140, 141, 142, 66, 70, 67, 71, 68, 72, 69, 73, 143, 144, 145, 146, 147, 5, 148, 149, 150, 151, 152, 153, 154, 155, 156, 157, 158, 159, 160, 161, 78, 79, 162, 163, 164, 165, 166, 167, 168, 169, 170, 171, 172, 173, 174, 175, 176, 80, 177, 178, 179, 180, 181, 182, 183, 184, 185, 186, 187, 188, 189, 190, 191, 192, 866, 867, 868, 869, 870, 871, 872, 873, 874, 875, 876, 877, 878, 879, 880, 881, 882, 883, 884, 885, 886, 887, 888, 889, 890, 891, 892, 893, 894] rfl (by decide +kernel)
set_option maxRecDepth 20000 in
theorem gL_law_X5_ground : GoodIn wsL_law (wsV RL 17 RX5 yX5_ground wsX5_ground) := goodIn_app (goodIn_of _ (by decide +kernel)) ggL_law_X5_ground
set_option maxRecDepth 20000 in
theorem ggL_law_X4_ofGun : GoodIn wsL_law wsX4_ofGun := goodIn_r _ [196, 17, 197, 198, 199, 200, 201, 202, 203, 16, 204, 37, 205, 206, 207, 208, 45, 47, 858, 859, 860, 861, 862, 863, 864, 865, 895, 896, 897, 898, 899, 900, 901, 902, 903, 904, 905, 906, 907, 908] rfl (by decide +kernel)
set_option maxRecDepth 20000 in
theorem gL_law_X4_ofGun : GoodIn wsL_law (wsV RL 18 RX4 yX4_ofGun wsX4_ofGun) := goodIn_app (goodIn_of _ (by decide +kernel)) ggL_law_X4_ofGun
set_option maxRecDepth 20000 in
theorem ggL_law_X5_ofGun : GoodIn wsL_law wsX5_ofGun := goodIn_r _ [212, 67, 68, 69, 143, 213, 214, 215, 5, 216, 142, 150, 151, 152, 217, 218, 219, 220, 221, 222, 223, 866, 867, 868, 869, 870, 871, 872, 873, 874, 875, 876, 877, 878, 879, 880, 881, 882, 883, 884, 885, 886, 887, 888, 889, 890, 891, 892, 893, 894] rfl (by decide +kernel)
set_option maxRecDepth 20000 in
theorem gL_law_X5_ofGun : GoodIn wsL_law (wsV RL 22 RX5 yX5_ofGun wsX5_ofGun) := goodIn_app (goodIn_of _ (by decide +kernel)) ggL_law_X5_ofGun
set_option maxRecDepth 20000 in
theorem ggL_law_X4_clay : GoodIn wsL_law wsX4_clay := goodIn_r _ [227, 17, 228, 229, 230, 231, 16, 232, 36, 858, 859, 860, 861, 862, 863, 864, 865, 895, 896, 897, 898, 899, 900, 901, 902, 903, 904, 905, 906, 907, 908] rfl (by decide +kernel)
set_option maxRecDepth 20000 in
theorem gL_law_X4_clay : GoodIn wsL_law (wsV RL 23 RX4 yX4_clay wsX4_clay) := goodIn_app (goodIn_of _ (by decide +kernel)) ggL_law_X4_clay
set_option maxRecDepth 20000 in
theorem ggL_law_X5_clay : GoodIn wsL_law wsX5_clay := goodIn_r _ [236, 66, 237, 238, 239, 5, 240, 189, 190, 191, 192, 138, 140, 150, 151, 152, 866, 867, 868, 869, 870, 871, 872, 873, 874, 875, 876, 877, 878, 879, 880, 881, 882, 883, 884, 885, 886, 887, 888, 889, 890, 891, 892, 893, 894] rfl (by decide +kernel)
set_option maxRecDepth 20000 in
theorem gL_law_X5_clay : GoodIn wsL_law (wsV RL 27 RX5 yX5_clay wsX5_clay) := goodIn_app (goodIn_of _ (by decide +kernel)) ggL_law_X5_clay
set_option maxRecDepth 20000 in
theorem ggL_law_X4_soak : GoodIn wsL_law wsX4_soak := goodIn_r _ [244, 17, 228, 229, 230, 231, 16, 232, 36, 91, 92, 2, 93, 858, 859, 860, 861, 862, 863, 864, 865, 895, 896, 897, 898, 899, 900, 901, 902, 903, 904, 905, 906, 907, 908] rfl (by decide +kernel)
set_option maxRecDepth 20000 in
theorem gL_law_X4_soak : GoodIn wsL_law (wsV RL 28 RX4 yX4_soak wsX4_soak) := goodIn_app (goodIn_of _ (by decide +kernel)) ggL_law_X4_soak
set_option maxRecDepth 20000 in
theorem ggL_law_X5_soak : GoodIn wsL_law wsX5_soak := goodIn_r _ [248, 249, 66, 237, 238, 239, 5, 240, 189, 190, 191, 192, 138, 140, 150, 151, 152, 866, 867, 868, 869, 870, 871, 872, 873, 874, 875, 876, 877, 878, 879, 880, 881, 882, 883, 884, 885, 886, 887, 888, 889, 890, 891, 892, 893, 894] rfl (by decide +kernel)
set_option maxRecDepth 20000 in
theorem gL_law_X5_soak : GoodIn wsL_law (wsV RL 31 RX5 yX5_soak wsX5_soak) := goodIn_app (goodIn_of _ (by decide +kernel)) ggL_law_X5_soak
