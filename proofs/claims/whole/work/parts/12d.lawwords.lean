set_option maxRecDepth 20000 in
theorem ggL_law_X4_init : GoodIn wsL_law wsX4_init := goodIn_r _ [8, 9, 10, 11, 12, 13, 14, 15, 16, 17, 18, 19, 20, 21, 22, 23, 24, 25, 26, 27, 28, 29, 30, 31, 32, 33, 34, 35, 36, 37, 38, 39, 40, 41, 42, 43, 44, 45, 46, 47, 48, 49, 50, 51, 52, 53, 54, 55, 56, 57, 58, 59, 60, 61, 858, 859, 860, 861, 862, 863, 864, 865, 895, 896, 897, 898, 899, 900, 901, 902, 903, 904, 905, 906, 907, 908, 909, 910, 911, 912, 913, 914, 915, 916] (by decide +kernel) (by decide +kernel)
set_option maxRecDepth 20000 in
theorem gL_law_X4_init : GoodIn wsL_law (wsX4_init) := ggL_law_X4_init
set_option maxRecDepth 20000 in
theorem ggL_law_X5_init : GoodIn wsL_law wsX5_init := goodIn_r _ [64, 65, 10, 11, 22, 66, 67, 68, 69, 70, 71, 72, 73, 74, 75, 76, 24, 77, 78, 79, 80, 81, 866, 867, 868, 869, 870, 871, 872, 873, 874, 875, 876, 877, 878, 879, 880, 881, 882, 883, 884, 885, 886, 887, 888, 889, 890, 891, 892, 893, 894] (by decide +kernel) (by decide +kernel)
set_option maxRecDepth 20000 in
theorem gL_law_X5_init : GoodIn wsL_law (wsX5_init) := ggL_law_X5_init
set_option maxRecDepth 20000 in
theorem ggL_law_X4_ground : GoodIn wsL_law wsX4_ground := goodIn_r _ [85, 28, 17, 26, 86, 87, 88, 89, 2, 90, 13, 91, 92, 93, 94, 95, 96, 30, 97, 60, 98, 99, 100, 101, 102, 103, 104, 105, 106, 107, 108, 109, 61, 110, 111, 112, 113, 114, 115, 116, 117, 118, 119, 120, 121, 122, 123, 16, 124, 125, 36, 42, 39, 38, 37, 45, 46, 34, 47, 126, 127, 128, 129, 35, 40, 41, 43, 44, 130, 858, 859, 860, 861, 862, 863, 864, 865, 895, 896, 897, 898, 899, 900, 901, 902, 903, 904, 905, 906, 907, 908, 914, 915, 916] (by decide +kernel) (by decide +kernel)
set_option maxRecDepth 20000 in
theorem gL_law_X4_ground : GoodIn wsL_law (wsV RL 13 RX4 yX4_ground wsX4_ground) := goodIn_app (goodIn_of _ (by decide +kernel)) ggL_law_X4_ground
set_option maxRecDepth 20000 in
theorem ggL_law_X5_ground : GoodIn wsL_law wsX5_ground := goodIn_r _ [134, 135, 136, 137, 138, 139, 140, 141, 142, 66, 70, 67, 71, 68, 72, 69, 73, 143, 144, 145, 146, 147, 5, 148, 149, 150, 151, 152, 153, 154, 155, 156, 157, 158, 159, 160, 161, 78, 79, 162, 163, 164, 165, 166, 167, 168, 169, 170, 171, 172, 173, 174, 175, 176, 80, 177, 178, 179, 180, 181, 182, 183, 184, 185, 186, 187, 188, 189, 190, 191, 192, 866, 867, 868, 869, 870, 871, 872, 873, 874, 875, 876, 877, 878, 879, 880, 881, 882, 883, 884, 885, 886, 887, 888, 889, 890, 891, 892, 893, 894] (by decide +kernel) (by decide +kernel)
set_option maxRecDepth 20000 in
theorem gL_law_X5_ground : GoodIn wsL_law (wsV RL 17 RX5 yX5_ground wsX5_ground) := goodIn_app (goodIn_of _ (by decide +kernel)) ggL_law_X5_ground
set_option maxRecDepth 20000 in
theorem ggL_law_X4_ofGun : GoodIn wsL_law wsX4_ofGun := goodIn_r _ [196, 17, 197, 198, 199, 200, 201, 202, 203, 16, 204, 37, 205, 206, 207, 208, 45, 47, 858, 859, 860, 861, 862, 863, 864, 865, 895, 896, 897, 898, 899, 900, 901, 902, 903, 904, 905, 906, 907, 908] (by decide +kernel) (by decide +kernel)
set_option maxRecDepth 20000 in
theorem gL_law_X4_ofGun : GoodIn wsL_law (wsV RL 18 RX4 yX4_ofGun wsX4_ofGun) := goodIn_app (goodIn_of _ (by decide +kernel)) ggL_law_X4_ofGun
set_option maxRecDepth 20000 in
theorem ggL_law_X5_ofGun : GoodIn wsL_law wsX5_ofGun := goodIn_r _ [212, 67, 68, 69, 143, 213, 214, 215, 5, 216, 142, 150, 151, 152, 217, 218, 219, 220, 221, 222, 223, 866, 867, 868, 869, 870, 871, 872, 873, 874, 875, 876, 877, 878, 879, 880, 881, 882, 883, 884, 885, 886, 887, 888, 889, 890, 891, 892, 893, 894] (by decide +kernel) (by decide +kernel)
set_option maxRecDepth 20000 in
theorem gL_law_X5_ofGun : GoodIn wsL_law (wsV RL 22 RX5 yX5_ofGun wsX5_ofGun) := goodIn_app (goodIn_of _ (by decide +kernel)) ggL_law_X5_ofGun
set_option maxRecDepth 20000 in
theorem ggL_law_X4_clay : GoodIn wsL_law wsX4_clay := goodIn_r _ [227, 17, 228, 229, 230, 231, 16, 232, 36, 858, 859, 860, 861, 862, 863, 864, 865, 895, 896, 897, 898, 899, 900, 901, 902, 903, 904, 905, 906, 907, 908] (by decide +kernel) (by decide +kernel)
set_option maxRecDepth 20000 in
theorem gL_law_X4_clay : GoodIn wsL_law (wsV RL 23 RX4 yX4_clay wsX4_clay) := goodIn_app (goodIn_of _ (by decide +kernel)) ggL_law_X4_clay
set_option maxRecDepth 20000 in
theorem ggL_law_X5_clay : GoodIn wsL_law wsX5_clay := goodIn_r _ [236, 66, 237, 238, 239, 5, 240, 189, 190, 191, 192, 138, 140, 150, 151, 152, 866, 867, 868, 869, 870, 871, 872, 873, 874, 875, 876, 877, 878, 879, 880, 881, 882, 883, 884, 885, 886, 887, 888, 889, 890, 891, 892, 893, 894] (by decide +kernel) (by decide +kernel)
set_option maxRecDepth 20000 in
theorem gL_law_X5_clay : GoodIn wsL_law (wsV RL 27 RX5 yX5_clay wsX5_clay) := goodIn_app (goodIn_of _ (by decide +kernel)) ggL_law_X5_clay
set_option maxRecDepth 20000 in
theorem ggL_law_X4_soak : GoodIn wsL_law wsX4_soak := goodIn_r _ [244, 17, 228, 229, 230, 231, 16, 232, 36, 91, 92, 2, 93, 858, 859, 860, 861, 862, 863, 864, 865, 895, 896, 897, 898, 899, 900, 901, 902, 903, 904, 905, 906, 907, 908] (by decide +kernel) (by decide +kernel)
set_option maxRecDepth 20000 in
theorem gL_law_X4_soak : GoodIn wsL_law (wsV RL 28 RX4 yX4_soak wsX4_soak) := goodIn_app (goodIn_of _ (by decide +kernel)) ggL_law_X4_soak
set_option maxRecDepth 20000 in
theorem ggL_law_X5_soak : GoodIn wsL_law wsX5_soak := goodIn_r _ [248, 249, 66, 237, 238, 239, 5, 240, 189, 190, 191, 192, 138, 140, 150, 151, 152, 866, 867, 868, 869, 870, 871, 872, 873, 874, 875, 876, 877, 878, 879, 880, 881, 882, 883, 884, 885, 886, 887, 888, 889, 890, 891, 892, 893, 894] (by decide +kernel) (by decide +kernel)
set_option maxRecDepth 20000 in
theorem gL_law_X5_soak : GoodIn wsL_law (wsV RL 31 RX5 yX5_soak wsX5_soak) := goodIn_app (goodIn_of _ (by decide +kernel)) ggL_law_X5_soak
set_option maxRecDepth 20000 in
theorem ggL_law_X4_charge : GoodIn wsL_law wsX4_charge := goodIn_r _ [253, 17, 199, 201, 202, 203, 16, 204, 37, 91, 92, 2, 93, 858, 859, 860, 861, 862, 863, 864, 865, 895, 896, 897, 898, 899, 900, 901, 902, 903, 904, 905, 906, 907, 908] (by decide +kernel) (by decide +kernel)
set_option maxRecDepth 20000 in
theorem gL_law_X4_charge : GoodIn wsL_law (wsV RL 32 RX4 yX4_charge wsX4_charge) := goodIn_app (goodIn_of _ (by decide +kernel)) ggL_law_X4_charge
set_option maxRecDepth 20000 in
theorem ggL_law_X5_charge : GoodIn wsL_law wsX5_charge := goodIn_r _ [257, 249, 69, 213, 214, 215, 5, 216, 142, 150, 151, 152, 866, 867, 868, 869, 870, 871, 872, 873, 874, 875, 876, 877, 878, 879, 880, 881, 882, 883, 884, 885, 886, 887, 888, 889, 890, 891, 892, 893, 894] (by decide +kernel) (by decide +kernel)
set_option maxRecDepth 20000 in
theorem gL_law_X5_charge : GoodIn wsL_law (wsV RL 35 RX5 yX5_charge wsX5_charge) := goodIn_app (goodIn_of _ (by decide +kernel)) ggL_law_X5_charge
set_option maxRecDepth 20000 in
theorem ggL_law_X4_hush : GoodIn wsL_law wsX4_hush := goodIn_r _ [261, 17, 200, 201, 202, 203, 16, 204, 37, 858, 859, 860, 861, 862, 863, 864, 865, 895, 896, 897, 898, 899, 900, 901, 902, 903, 904, 905, 906, 907, 908] (by decide +kernel) (by decide +kernel)
set_option maxRecDepth 20000 in
theorem gL_law_X4_hush : GoodIn wsL_law (wsV RL 36 RX4 yX4_hush wsX4_hush) := goodIn_app (goodIn_of _ (by decide +kernel)) ggL_law_X4_hush
set_option maxRecDepth 20000 in
theorem ggL_law_X5_hush : GoodIn wsL_law wsX5_hush := goodIn_r _ [265, 143, 213, 214, 215, 5, 216, 142, 150, 151, 152, 866, 867, 868, 869, 870, 871, 872, 873, 874, 875, 876, 877, 878, 879, 880, 881, 882, 883, 884, 885, 886, 887, 888, 889, 890, 891, 892, 893, 894] (by decide +kernel) (by decide +kernel)
set_option maxRecDepth 20000 in
theorem gL_law_X5_hush : GoodIn wsL_law (wsV RL 40 RX5 yX5_hush wsX5_hush) := goodIn_app (goodIn_of _ (by decide +kernel)) ggL_law_X5_hush
set_option maxRecDepth 20000 in
theorem ggL_law_X4_haul : GoodIn wsL_law wsX4_haul := goodIn_r _ [269, 17, 198, 201, 202, 203, 16, 204, 37, 229, 230, 231, 232, 36, 858, 859, 860, 861, 862, 863, 864, 865, 895, 896, 897, 898, 899, 900, 901, 902, 903, 904, 905, 906, 907, 908] (by decide +kernel) (by decide +kernel)
set_option maxRecDepth 20000 in
theorem gL_law_X4_haul : GoodIn wsL_law (wsV RL 41 RX4 yX4_haul wsX4_haul) := goodIn_app (goodIn_of _ (by decide +kernel)) ggL_law_X4_haul
set_option maxRecDepth 20000 in
theorem ggL_law_X5_haul : GoodIn wsL_law wsX5_haul := goodIn_r _ [273, 68, 213, 214, 215, 5, 216, 142, 150, 151, 152, 237, 238, 239, 240, 189, 190, 191, 192, 138, 140, 866, 867, 868, 869, 870, 871, 872, 873, 874, 875, 876, 877, 878, 879, 880, 881, 882, 883, 884, 885, 886, 887, 888, 889, 890, 891, 892, 893, 894] (by decide +kernel) (by decide +kernel)
set_option maxRecDepth 20000 in
theorem gL_law_X5_haul : GoodIn wsL_law (wsV RL 44 RX5 yX5_haul wsX5_haul) := goodIn_app (goodIn_of _ (by decide +kernel)) ggL_law_X5_haul
set_option maxRecDepth 20000 in
theorem ggL_law_X4_sees : GoodIn wsL_law wsX4_sees := goodIn_r _ [277, 17, 278, 201, 202, 203, 16, 204, 37, 279, 280, 281, 282, 46, 283, 284, 285, 286, 287, 206, 207, 208, 45, 47, 288, 289, 290, 291, 292, 43, 44, 293, 34, 35, 858, 859, 860, 861, 862, 863, 864, 865, 895, 896, 897, 898, 899, 900, 901, 902, 903, 904, 905, 906, 907, 908] (by decide +kernel) (by decide +kernel)
set_option maxRecDepth 20000 in
theorem gL_law_X4_sees : GoodIn wsL_law (wsV RL 45 RX4 yX4_sees wsX4_sees) := goodIn_app (goodIn_of _ (by decide +kernel)) ggL_law_X4_sees
set_option maxRecDepth 20000 in
theorem ggL_law_X5_sees : GoodIn wsL_law wsX5_sees := goodIn_r _ [297, 213, 214, 215, 5, 216, 142, 150, 151, 152, 298, 299, 300, 301, 189, 190, 191, 192, 138, 140, 302, 303, 304, 305, 68, 217, 218, 219, 220, 69, 67, 306, 307, 308, 309, 310, 311, 312, 313, 314, 315, 316, 317, 318, 319, 320, 321, 322, 323, 324, 866, 867, 868, 869, 870, 871, 872, 873, 874, 875, 876, 877, 878, 879, 880, 881, 882, 883, 884, 885, 886, 887, 888, 889, 890, 891, 892, 893, 894] (by decide +kernel) (by decide +kernel)
set_option maxRecDepth 20000 in
theorem gL_law_X5_sees : GoodIn wsL_law (wsV RL 49 RX5 yX5_sees wsX5_sees) := goodIn_app (goodIn_of _ (by decide +kernel)) ggL_law_X5_sees
set_option maxRecDepth 20000 in
theorem ggL_law_X4_shot : GoodIn wsL_law wsX4_shot := goodIn_r _ [328, 17, 229, 230, 231, 16, 232, 36, 329, 330, 331, 332, 37, 38, 333, 280, 281, 282, 46, 334, 284, 285, 286, 287, 206, 207, 208, 45, 47, 288, 289, 290, 291, 292, 43, 44, 293, 34, 35, 858, 859, 860, 861, 862, 863, 864, 865, 895, 896, 897, 898, 899, 900, 901, 902, 903, 904, 905, 906, 907, 908] (by decide +kernel) (by decide +kernel)
set_option maxRecDepth 20000 in
theorem gL_law_X4_shot : GoodIn wsL_law (wsV RL 50 RX4 yX4_shot wsX4_shot) := goodIn_app (goodIn_of _ (by decide +kernel)) ggL_law_X4_shot
set_option maxRecDepth 20000 in
theorem ggL_law_X5_shot : GoodIn wsL_law wsX5_shot := goodIn_r _ [338, 237, 238, 239, 5, 240, 189, 190, 191, 192, 138, 140, 150, 151, 152, 339, 340, 341, 342, 143, 320, 321, 322, 323, 142, 324, 221, 222, 223, 302, 303, 304, 305, 68, 217, 218, 219, 220, 69, 67, 306, 307, 308, 309, 310, 311, 312, 313, 314, 315, 316, 317, 318, 319, 866, 867, 868, 869, 870, 871, 872, 873, 874, 875, 876, 877, 878, 879, 880, 881, 882, 883, 884, 885, 886, 887, 888, 889, 890, 891, 892, 893, 894] (by decide +kernel) (by decide +kernel)
set_option maxRecDepth 20000 in
theorem gL_law_X5_shot : GoodIn wsL_law (wsV RL 53 RX5 yX5_shot wsX5_shot) := goodIn_app (goodIn_of _ (by decide +kernel)) ggL_law_X5_shot
set_option maxRecDepth 20000 in
theorem ggL_law_X4_is : GoodIn wsL_law wsX4_is := goodIn_r _ [346, 17, 347, 229, 230, 231, 16, 232, 36, 348, 349, 350, 351, 42, 352, 333, 280, 281, 282, 37, 46, 353, 354, 2, 355, 858, 859, 860, 861, 862, 863, 864, 865, 895, 896, 897, 898, 899, 900, 901, 902, 903, 904, 905, 906, 907, 908] (by decide +kernel) (by decide +kernel)
set_option maxRecDepth 20000 in
theorem gL_law_X4_is : GoodIn wsL_law (wsV RL 54 RX4 yX4_is wsX4_is) := goodIn_app (goodIn_of _ (by decide +kernel)) ggL_law_X4_is
set_option maxRecDepth 20000 in
theorem ggL_law_X5_is : GoodIn wsL_law wsX5_is := goodIn_r _ [359, 144, 237, 238, 239, 5, 240, 189, 190, 191, 192, 138, 140, 150, 151, 152, 360, 361, 362, 363, 66, 316, 317, 318, 319, 68, 320, 321, 322, 323, 142, 324, 364, 365, 366, 866, 867, 868, 869, 870, 871, 872, 873, 874, 875, 876, 877, 878, 879, 880, 881, 882, 883, 884, 885, 886, 887, 888, 889, 890, 891, 892, 893, 894] (by decide +kernel) (by decide +kernel)
set_option maxRecDepth 20000 in
theorem gL_law_X5_is : GoodIn wsL_law (wsV RL 57 RX5 yX5_is wsX5_is) := goodIn_app (goodIn_of _ (by decide +kernel)) ggL_law_X5_is
set_option maxRecDepth 20000 in
theorem ggL_law_X4_cover : GoodIn wsL_law wsX4_cover := goodIn_r _ [370, 17, 201, 202, 203, 16, 204, 37, 371, 372, 373, 374, 46, 333, 280, 281, 282, 334, 284, 285, 286, 287, 206, 207, 208, 45, 47, 288, 289, 290, 291, 292, 43, 44, 293, 34, 35, 354, 2, 355, 858, 859, 860, 861, 862, 863, 864, 865, 895, 896, 897, 898, 899, 900, 901, 902, 903, 904, 905, 906, 907, 908] (by decide +kernel) (by decide +kernel)
set_option maxRecDepth 20000 in
theorem gL_law_X4_cover : GoodIn wsL_law (wsV RL 58 RX4 yX4_cover wsX4_cover) := goodIn_app (goodIn_of _ (by decide +kernel)) ggL_law_X4_cover
set_option maxRecDepth 20000 in
theorem ggL_law_X5_cover : GoodIn wsL_law wsX5_cover := goodIn_r _ [378, 213, 214, 215, 5, 216, 142, 150, 151, 152, 379, 380, 381, 382, 68, 302, 303, 304, 305, 217, 218, 219, 220, 69, 67, 306, 307, 308, 309, 138, 310, 311, 312, 313, 314, 315, 316, 317, 318, 319, 320, 321, 322, 323, 324, 866, 867, 868, 869, 870, 871, 872, 873, 874, 875, 876, 877, 878, 879, 880, 881, 882, 883, 884, 885, 886, 887, 888, 889, 890, 891, 892, 893, 894] (by decide +kernel) (by decide +kernel)
set_option maxRecDepth 20000 in
theorem gL_law_X5_cover : GoodIn wsL_law (wsV RL 61 RX5 yX5_cover wsX5_cover) := goodIn_app (goodIn_of _ (by decide +kernel)) ggL_law_X5_cover
set_option maxRecDepth 20000 in
theorem ggL_law_X4_bare : GoodIn wsL_law wsX4_bare := goodIn_r _ [386, 17, 387, 86, 371, 372, 373, 16, 374, 37, 46, 333, 280, 281, 282, 334, 284, 285, 286, 287, 206, 207, 208, 45, 47, 288, 289, 290, 291, 292, 43, 44, 293, 34, 35, 354, 2, 355, 858, 859, 860, 861, 862, 863, 864, 865, 895, 896, 897, 898, 899, 900, 901, 902, 903, 904, 905, 906, 907, 908] (by decide +kernel) (by decide +kernel)
set_option maxRecDepth 20000 in
theorem gL_law_X4_bare : GoodIn wsL_law (wsV RL 62 RX4 yX4_bare wsX4_bare) := goodIn_app (goodIn_of _ (by decide +kernel)) ggL_law_X4_bare
set_option maxRecDepth 20000 in
theorem ggL_law_X5_bare : GoodIn wsL_law wsX5_bare := goodIn_r _ [391, 142, 379, 380, 381, 5, 382, 68, 302, 303, 304, 305, 217, 218, 219, 220, 69, 67, 306, 307, 308, 309, 138, 310, 311, 312, 150, 151, 152, 313, 314, 315, 316, 317, 318, 319, 320, 321, 322, 323, 324, 866, 867, 868, 869, 870, 871, 872, 873, 874, 875, 876, 877, 878, 879, 880, 881, 882, 883, 884, 885, 886, 887, 888, 889, 890, 891, 892, 893, 894] (by decide +kernel) (by decide +kernel)
set_option maxRecDepth 20000 in
theorem gL_law_X5_bare : GoodIn wsL_law (wsV RL 66 RX5 yX5_bare wsX5_bare) := goodIn_app (goodIn_of _ (by decide +kernel)) ggL_law_X5_bare
set_option maxRecDepth 20000 in
theorem ggL_law_X4_dig : GoodIn wsL_law wsX4_dig := goodIn_r _ [395, 17, 396, 347, 200, 229, 230, 231, 16, 232, 36, 397, 398, 399, 400, 41, 352, 40, 34, 401, 402, 403, 404, 405, 349, 350, 351, 42, 333, 280, 281, 282, 37, 46, 406, 407, 408, 409, 334, 284, 285, 286, 287, 206, 207, 208, 45, 47, 288, 289, 290, 291, 292, 43, 44, 293, 35, 353, 354, 2, 355, 410, 411, 412, 413, 39, 858, 859, 860, 861, 862, 863, 864, 865, 895, 896, 897, 898, 899, 900, 901, 902, 903, 904, 905, 906, 907, 908] (by decide +kernel) (by decide +kernel)
set_option maxRecDepth 20000 in
theorem gL_law_X4_dig : GoodIn wsL_law (wsV RL 67 RX4 yX4_dig wsX4_dig) := goodIn_app (goodIn_of _ (by decide +kernel)) ggL_law_X4_dig
set_option maxRecDepth 20000 in
theorem ggL_law_X5_dig : GoodIn wsL_law wsX5_dig := goodIn_r _ [417, 144, 66, 237, 238, 239, 5, 240, 189, 190, 191, 192, 138, 140, 150, 151, 152, 360, 361, 362, 363, 316, 317, 318, 319, 68, 320, 321, 322, 323, 142, 324, 339, 340, 341, 342, 143, 221, 222, 223, 302, 303, 304, 305, 217, 218, 219, 220, 69, 67, 306, 307, 308, 309, 310, 311, 312, 313, 314, 315, 418, 419, 420, 421, 364, 365, 366, 422, 423, 424, 425, 866, 867, 868, 869, 870, 871, 872, 873, 874, 875, 876, 877, 878, 879, 880, 881, 882, 883, 884, 885, 886, 887, 888, 889, 890, 891, 892, 893, 894] (by decide +kernel) (by decide +kernel)
set_option maxRecDepth 20000 in
theorem gL_law_X5_dig : GoodIn wsL_law (wsV RL 70 RX5 yX5_dig wsX5_dig) := goodIn_app (goodIn_of _ (by decide +kernel)) ggL_law_X5_dig
set_option maxRecDepth 20000 in
theorem ggL_law_X4_fill : GoodIn wsL_law wsX4_fill := goodIn_r _ [429, 17, 387, 347, 430, 431, 432, 433, 434, 435, 436, 858, 859, 860, 861, 862, 863, 864, 865, 895, 896, 897, 898, 899, 900, 901, 902, 903, 904, 905, 906, 907, 908] (by decide +kernel) (by decide +kernel)
set_option maxRecDepth 20000 in
theorem gL_law_X4_fill : GoodIn wsL_law (wsV RL 71 RX4 yX4_fill wsX4_fill) := goodIn_app (goodIn_of _ (by decide +kernel)) ggL_law_X4_fill
set_option maxRecDepth 20000 in
theorem ggL_law_X5_fill : GoodIn wsL_law wsX5_fill := goodIn_r _ [440, 142, 144, 441, 442, 5, 443, 866, 867, 868, 869, 870, 871, 872, 873, 874, 875, 876, 877, 878, 879, 880, 881, 882, 883, 884, 885, 886, 887, 888, 889, 890, 891, 892, 893, 894] (by decide +kernel) (by decide +kernel)
set_option maxRecDepth 20000 in
theorem gL_law_X5_fill : GoodIn wsL_law (wsV RL 74 RX5 yX5_fill wsX5_fill) := goodIn_app (goodIn_of _ (by decide +kernel)) ggL_law_X5_fill
set_option maxRecDepth 20000 in
theorem ggL_law_X4_trench : GoodIn wsL_law wsX4_trench := goodIn_r _ [447, 28, 17, 387, 87, 88, 89, 2, 90, 13, 91, 92, 93, 94, 95, 96, 30, 97, 60, 98, 99, 100, 101, 102, 103, 104, 105, 106, 107, 108, 109, 61, 448, 449, 450, 16, 451, 125, 452, 230, 231, 232, 36, 453, 454, 455, 456, 40, 405, 349, 350, 351, 42, 352, 333, 280, 281, 282, 37, 46, 354, 355, 457, 398, 399, 400, 41, 34, 458, 459, 460, 461, 200, 462, 463, 407, 408, 409, 334, 284, 285, 286, 287, 206, 207, 208, 45, 47, 288, 289, 290, 291, 292, 43, 44, 293, 35, 353, 410, 411, 412, 413, 39, 329, 330, 331, 332, 38, 430, 431, 432, 433, 434, 435, 436, 858, 859, 860, 861, 862, 863, 864, 865, 895, 896, 897, 898, 899, 900, 901, 902, 903, 904, 905, 906, 907, 908, 914, 915, 916] (by decide +kernel) (by decide +kernel)
set_option maxRecDepth 20000 in
theorem gL_law_X4_trench : GoodIn wsL_law (wsV RL 75 RX4 yX4_trench wsX4_trench) := goodIn_app (goodIn_of _ (by decide +kernel)) ggL_law_X4_trench
set_option maxRecDepth 20000 in
theorem ggL_law_X5_trench : GoodIn wsL_law wsX5_trench := goodIn_r _ [467, 135, 468, 469, 142, 80, 146, 147, 5, 148, 149, 150, 151, 152, 153, 154, 155, 156, 157, 158, 159, 160, 161, 78, 79, 162, 163, 164, 165, 166, 167, 168, 237, 238, 239, 240, 189, 190, 191, 192, 138, 140, 470, 471, 472, 473, 144, 66, 474, 475, 476, 477, 360, 361, 362, 363, 316, 317, 318, 319, 68, 320, 321, 322, 323, 324, 422, 423, 424, 425, 310, 311, 312, 364, 365, 366, 339, 340, 341, 342, 143, 221, 222, 223, 302, 303, 304, 305, 217, 218, 219, 220, 69, 67, 306, 307, 308, 309, 313, 314, 315, 441, 442, 443, 866, 867, 868, 869, 870, 871, 872, 873, 874, 875, 876, 877, 878, 879, 880, 881, 882, 883, 884, 885, 886, 887, 888, 889, 890, 891, 892, 893, 894] (by decide +kernel) (by decide +kernel)
set_option maxRecDepth 20000 in
theorem gL_law_X5_trench : GoodIn wsL_law (wsV RL 79 RX5 yX5_trench wsX5_trench) := goodIn_app (goodIn_of _ (by decide +kernel)) ggL_law_X5_trench
set_option maxRecDepth 20000 in
theorem ggL_law_X4_sap : GoodIn wsL_law wsX4_sap := goodIn_r _ [481, 17, 21, 200, 229, 230, 231, 16, 232, 36, 401, 402, 403, 404, 352, 405, 349, 350, 351, 42, 333, 280, 281, 282, 37, 46, 406, 407, 408, 409, 334, 284, 285, 286, 287, 206, 207, 208, 45, 47, 288, 289, 290, 291, 292, 43, 44, 293, 34, 35, 482, 483, 484, 20, 485, 54, 52, 55, 354, 2, 355, 486, 487, 488, 489, 490, 51, 491, 492, 411, 412, 413, 39, 493, 494, 495, 496, 497, 498, 499, 500, 501, 502, 503, 504, 505, 506, 507, 508, 509, 510, 511, 512, 513, 514, 515, 516, 517, 518, 53, 519, 520, 521, 522, 523, 524, 525, 526, 858, 859, 860, 861, 862, 863, 864, 865, 895, 896, 897, 898, 899, 900, 901, 902, 903, 904, 905, 906, 907, 908, 909, 910, 911, 912, 913] (by decide +kernel) (by decide +kernel)
set_option maxRecDepth 20000 in
theorem gL_law_X4_sap : GoodIn wsL_law (wsV RL 80 RX4 yX4_sap wsX4_sap) := goodIn_app (goodIn_of _ (by decide +kernel)) ggL_law_X4_sap
set_option maxRecDepth 20000 in
theorem ggL_law_X5_sap : GoodIn wsL_law wsX5_sap := goodIn_r _ [530, 531, 532, 237, 238, 239, 5, 240, 189, 190, 191, 192, 138, 140, 150, 151, 152, 533, 534, 535, 536, 74, 537, 538, 539, 540, 541, 75, 542, 543, 544, 545, 546, 144, 66, 339, 340, 341, 342, 143, 320, 321, 322, 323, 142, 324, 221, 222, 223, 302, 303, 304, 305, 68, 217, 218, 219, 220, 69, 67, 306, 307, 308, 309, 310, 311, 312, 313, 314, 315, 316, 317, 318, 319, 360, 361, 362, 363, 364, 365, 366, 547, 548, 549, 550, 422, 423, 424, 425, 551, 552, 553, 554, 555, 556, 557, 558, 866, 867, 868, 869, 870, 871, 872, 873, 874, 875, 876, 877, 878, 879, 880, 881, 882, 883, 884, 885, 886, 887, 888, 889, 890, 891, 892, 893, 894] (by decide +kernel) (by decide +kernel)
set_option maxRecDepth 20000 in
theorem gL_law_X5_sap : GoodIn wsL_law (wsV RL 83 RX5 yX5_sap wsX5_sap) := goodIn_app (goodIn_of _ (by decide +kernel)) ggL_law_X5_sap
set_option maxRecDepth 20000 in
theorem ggL_law_X4_rush : GoodIn wsL_law wsX4_rush := goodIn_r _ [562, 17, 21, 200, 229, 230, 231, 16, 232, 36, 348, 349, 350, 351, 42, 352, 333, 280, 281, 282, 37, 46, 463, 407, 408, 409, 334, 284, 285, 286, 287, 206, 207, 208, 45, 47, 288, 289, 290, 291, 292, 43, 44, 293, 34, 35, 482, 483, 484, 20, 485, 54, 52, 55, 354, 2, 355, 486, 487, 488, 489, 490, 51, 491, 492, 411, 412, 413, 39, 493, 494, 495, 496, 497, 498, 499, 500, 501, 502, 503, 504, 505, 506, 507, 508, 509, 510, 511, 512, 513, 514, 515, 516, 517, 518, 53, 519, 520, 521, 522, 523, 524, 525, 526, 858, 859, 860, 861, 862, 863, 864, 865, 895, 896, 897, 898, 899, 900, 901, 902, 903, 904, 905, 906, 907, 908, 909, 910, 911, 912, 913] (by decide +kernel) (by decide +kernel)
set_option maxRecDepth 20000 in
theorem gL_law_X4_rush : GoodIn wsL_law (wsV RL 84 RX4 yX4_rush wsX4_rush) := goodIn_app (goodIn_of _ (by decide +kernel)) ggL_law_X4_rush
set_option maxRecDepth 20000 in
theorem ggL_law_X5_rush : GoodIn wsL_law wsX5_rush := goodIn_r _ [566, 567, 532, 237, 238, 239, 5, 240, 189, 190, 191, 192, 138, 140, 150, 151, 152, 533, 534, 535, 536, 74, 537, 538, 539, 540, 541, 75, 542, 543, 544, 545, 546, 144, 66, 339, 340, 341, 342, 143, 320, 321, 322, 323, 142, 324, 221, 222, 223, 302, 303, 304, 305, 68, 217, 218, 219, 220, 69, 67, 306, 307, 308, 309, 310, 311, 312, 313, 314, 315, 316, 317, 318, 319, 360, 361, 362, 363, 364, 365, 366, 547, 548, 549, 550, 422, 423, 424, 425, 551, 552, 553, 554, 555, 556, 557, 558, 866, 867, 868, 869, 870, 871, 872, 873, 874, 875, 876, 877, 878, 879, 880, 881, 882, 883, 884, 885, 886, 887, 888, 889, 890, 891, 892, 893, 894] (by decide +kernel) (by decide +kernel)
set_option maxRecDepth 20000 in
theorem gL_law_X5_rush : GoodIn wsL_law (wsV RL 87 RX5 yX5_rush wsX5_rush) := goodIn_app (goodIn_of _ (by decide +kernel)) ggL_law_X5_rush
set_option maxRecDepth 20000 in
theorem ggL_law_X4_silence : GoodIn wsL_law wsX4_silence := goodIn_r _ [571, 17, 86, 200, 229, 230, 231, 16, 232, 36, 572, 573, 574, 575, 576, 577, 578, 579, 580, 581, 2, 582, 401, 402, 403, 404, 352, 405, 349, 350, 351, 42, 333, 280, 281, 282, 37, 46, 406, 407, 408, 409, 334, 284, 285, 286, 287, 206, 207, 208, 45, 47, 288, 289, 290, 291, 292, 43, 44, 293, 34, 35, 583, 584, 585, 586, 40, 457, 398, 399, 400, 41, 353, 354, 355, 858, 859, 860, 861, 862, 863, 864, 865, 895, 896, 897, 898, 899, 900, 901, 902, 903, 904, 905, 906, 907, 908] (by decide +kernel) (by decide +kernel)
set_option maxRecDepth 20000 in
theorem gL_law_X4_silence : GoodIn wsL_law (wsV RL 88 RX4 yX4_silence wsX4_silence) := goodIn_app (goodIn_of _ (by decide +kernel)) ggL_law_X4_silence
set_option maxRecDepth 20000 in
theorem ggL_law_X5_silence : GoodIn wsL_law wsX5_silence := goodIn_r _ [590, 143, 142, 237, 238, 239, 5, 240, 189, 190, 191, 192, 138, 140, 150, 151, 152, 441, 442, 443, 533, 534, 535, 536, 74, 537, 538, 539, 540, 541, 75, 542, 543, 544, 545, 546, 144, 66, 339, 340, 341, 342, 320, 321, 322, 323, 324, 221, 222, 223, 302, 303, 304, 305, 68, 217, 218, 219, 220, 69, 67, 306, 307, 308, 309, 310, 311, 312, 313, 314, 315, 316, 317, 318, 319, 360, 361, 362, 363, 364, 365, 366, 547, 548, 549, 550, 422, 423, 424, 425, 551, 552, 553, 554, 555, 556, 557, 558, 866, 867, 868, 869, 870, 871, 872, 873, 874, 875, 876, 877, 878, 879, 880, 881, 882, 883, 884, 885, 886, 887, 888, 889, 890, 891, 892, 893, 894] (by decide +kernel) (by decide +kernel)
set_option maxRecDepth 20000 in
theorem gL_law_X5_silence : GoodIn wsL_law (wsV RL 91 RX5 yX5_silence wsX5_silence) := goodIn_app (goodIn_of _ (by decide +kernel)) ggL_law_X5_silence
set_option maxRecDepth 20000 in
theorem ggL_law_X4_breach : GoodIn wsL_law wsX4_breach := goodIn_r _ [594, 17, 595, 201, 202, 203, 16, 204, 37, 596, 597, 598, 2, 599, 198, 600, 601, 602, 603, 604, 507, 508, 509, 44, 34, 43, 35, 605, 606, 607, 608, 21, 200, 609, 401, 402, 403, 404, 352, 405, 349, 350, 351, 36, 42, 333, 280, 281, 282, 46, 406, 407, 408, 409, 334, 284, 285, 286, 287, 206, 207, 208, 45, 47, 288, 289, 290, 291, 292, 293, 482, 483, 484, 20, 485, 54, 52, 55, 354, 355, 486, 487, 488, 489, 490, 51, 491, 492, 411, 412, 413, 39, 493, 494, 495, 496, 497, 498, 499, 500, 501, 502, 503, 504, 505, 506, 510, 511, 512, 513, 514, 515, 516, 517, 518, 53, 519, 520, 521, 522, 523, 524, 525, 526, 858, 859, 860, 861, 862, 863, 864, 865, 895, 896, 897, 898, 899, 900, 901, 902, 903, 904, 905, 906, 907, 908, 909, 910, 911, 912, 913] (by decide +kernel) (by decide +kernel)
set_option maxRecDepth 20000 in
theorem gL_law_X4_breach : GoodIn wsL_law (wsV RL 92 RX4 yX4_breach wsX4_breach) := goodIn_app (goodIn_of _ (by decide +kernel)) ggL_law_X4_breach
set_option maxRecDepth 20000 in
theorem ggL_law_X5_breach : GoodIn wsL_law wsX5_breach := goodIn_r _ [613, 213, 214, 215, 5, 216, 142, 150, 151, 152, 614, 615, 616, 617, 68, 189, 190, 191, 192, 138, 140, 422, 423, 424, 425, 310, 311, 312, 533, 534, 535, 536, 74, 537, 538, 539, 540, 541, 75, 542, 543, 544, 545, 546, 144, 66, 339, 340, 341, 342, 143, 320, 321, 322, 323, 324, 221, 222, 223, 302, 303, 304, 305, 217, 218, 219, 220, 69, 67, 306, 307, 308, 309, 313, 314, 315, 316, 317, 318, 319, 360, 361, 362, 363, 364, 365, 366, 547, 548, 549, 550, 551, 552, 553, 554, 555, 556, 557, 558, 866, 867, 868, 869, 870, 871, 872, 873, 874, 875, 876, 877, 878, 879, 880, 881, 882, 883, 884, 885, 886, 887, 888, 889, 890, 891, 892, 893, 894] (by decide +kernel) (by decide +kernel)
set_option maxRecDepth 20000 in
theorem gL_law_X5_breach : GoodIn wsL_law (wsV RL 95 RX5 yX5_breach wsX5_breach) := goodIn_app (goodIn_of _ (by decide +kernel)) ggL_law_X5_breach
set_option maxRecDepth 20000 in
theorem ggL_law_X4_day : GoodIn wsL_law wsX4_day := goodIn_r _ [621, 17, 387, 595, 86, 91, 92, 2, 93, 596, 597, 598, 599, 198, 600, 601, 602, 603, 604, 507, 508, 16, 509, 44, 34, 43, 35, 605, 606, 607, 608, 21, 200, 609, 401, 402, 403, 404, 352, 405, 349, 350, 351, 36, 42, 333, 280, 281, 282, 37, 46, 406, 407, 408, 409, 334, 284, 285, 286, 287, 206, 207, 208, 45, 47, 288, 289, 290, 291, 292, 293, 482, 483, 484, 20, 485, 54, 52, 55, 354, 355, 486, 487, 488, 489, 490, 51, 491, 492, 411, 412, 413, 39, 493, 494, 495, 496, 497, 498, 499, 500, 501, 502, 503, 504, 505, 506, 510, 511, 512, 513, 514, 515, 516, 517, 518, 53, 519, 520, 521, 522, 523, 524, 525, 526, 858, 859, 860, 861, 862, 863, 864, 865, 895, 896, 897, 898, 899, 900, 901, 902, 903, 904, 905, 906, 907, 908, 909, 910, 911, 912, 913] (by decide +kernel) (by decide +kernel)
set_option maxRecDepth 20000 in
theorem gL_law_X4_day : GoodIn wsL_law (wsV RL 96 RX4 yX4_day wsX4_day) := goodIn_app (goodIn_of _ (by decide +kernel)) ggL_law_X4_day
set_option maxRecDepth 20000 in
theorem ggL_law_X5_day : GoodIn wsL_law wsX5_day := goodIn_r _ [625, 142, 150, 151, 5, 152, 614, 615, 616, 617, 68, 189, 190, 191, 192, 138, 140, 422, 423, 424, 425, 310, 311, 312, 533, 534, 535, 536, 74, 537, 538, 539, 540, 541, 75, 542, 543, 544, 545, 546, 144, 66, 339, 340, 341, 342, 143, 320, 321, 322, 323, 324, 221, 222, 223, 302, 303, 304, 305, 217, 218, 219, 220, 69, 67, 306, 307, 308, 309, 313, 314, 315, 316, 317, 318, 319, 360, 361, 362, 363, 364, 365, 366, 547, 548, 549, 550, 551, 552, 553, 554, 555, 556, 557, 558, 866, 867, 868, 869, 870, 871, 872, 873, 874, 875, 876, 877, 878, 879, 880, 881, 882, 883, 884, 885, 886, 887, 888, 889, 890, 891, 892, 893, 894] (by decide +kernel) (by decide +kernel)
set_option maxRecDepth 20000 in
theorem gL_law_X5_day : GoodIn wsL_law (wsV RL 99 RX5 yX5_day wsX5_day) := goodIn_app (goodIn_of _ (by decide +kernel)) ggL_law_X5_day
set_option maxRecDepth 20000 in
theorem ggL_law_X4_post : GoodIn wsL_law wsX4_post := goodIn_r _ [629, 17, 387, 595, 229, 230, 231, 16, 232, 36, 91, 92, 2, 93, 630, 631, 632, 633, 333, 280, 281, 282, 37, 46, 354, 355, 288, 289, 290, 291, 292, 43, 44, 293, 34, 35, 634, 635, 636, 637, 638, 639, 640, 641, 45, 47, 605, 606, 607, 608, 21, 200, 609, 401, 402, 403, 404, 352, 405, 349, 350, 351, 42, 406, 407, 408, 409, 334, 284, 285, 286, 287, 206, 207, 208, 482, 483, 484, 20, 485, 54, 52, 55, 486, 487, 488, 489, 490, 51, 491, 492, 411, 412, 413, 39, 493, 494, 495, 496, 497, 498, 499, 500, 501, 502, 503, 504, 505, 506, 507, 508, 509, 510, 511, 512, 513, 514, 515, 516, 517, 518, 53, 519, 520, 521, 522, 523, 524, 525, 526, 642, 643, 644, 645, 858, 859, 860, 861, 862, 863, 864, 865, 895, 896, 897, 898, 899, 900, 901, 902, 903, 904, 905, 906, 907, 908, 909, 910, 911, 912, 913] (by decide +kernel) (by decide +kernel)
set_option maxRecDepth 20000 in
theorem gL_law_X4_post : GoodIn wsL_law (wsV RL 100 RX4 yX4_post wsX4_post) := goodIn_app (goodIn_of _ (by decide +kernel)) ggL_law_X4_post
set_option maxRecDepth 20000 in
theorem ggL_law_X5_post : GoodIn wsL_law wsX5_post := goodIn_r _ [649, 542, 237, 238, 239, 5, 240, 189, 190, 191, 192, 138, 140, 150, 151, 152, 316, 317, 318, 319, 68, 320, 321, 322, 323, 142, 324, 306, 307, 308, 309, 310, 311, 312, 313, 314, 315, 650, 651, 652, 653, 67, 69, 533, 534, 535, 536, 74, 537, 538, 539, 540, 541, 75, 543, 544, 545, 546, 144, 66, 339, 340, 341, 342, 143, 221, 222, 223, 302, 303, 304, 305, 217, 218, 219, 220, 360, 361, 362, 363, 364, 365, 366, 547, 548, 549, 550, 422, 423, 424, 425, 551, 552, 553, 554, 555, 556, 557, 558, 866, 867, 868, 869, 870, 871, 872, 873, 874, 875, 876, 877, 878, 879, 880, 881, 882, 883, 884, 885, 886, 887, 888, 889, 890, 891, 892, 893, 894] (by decide +kernel) (by decide +kernel)
set_option maxRecDepth 20000 in
theorem gL_law_X5_post : GoodIn wsL_law (wsV RL 103 RX5 yX5_post wsX5_post) := goodIn_app (goodIn_of _ (by decide +kernel)) ggL_law_X5_post
set_option maxRecDepth 20000 in
theorem ggL_law_X4_reading : GoodIn wsL_law wsX4_reading := goodIn_r _ [657, 17, 26, 23, 25, 229, 230, 231, 16, 232, 36, 858, 859, 860, 861, 862, 863, 864, 865, 895, 896, 897, 898, 899, 900, 901, 902, 903, 904, 905, 906, 907, 908] (by decide +kernel) (by decide +kernel)
set_option maxRecDepth 20000 in
theorem gL_law_X4_reading : GoodIn wsL_law (wsV RL 104 RX4 yX4_reading wsX4_reading) := goodIn_app (goodIn_of _ (by decide +kernel)) ggL_law_X4_reading
set_option maxRecDepth 20000 in
theorem ggL_law_X5_reading : GoodIn wsL_law wsX5_reading := goodIn_r _ [661, 145, 76, 77, 237, 238, 239, 5, 240, 189, 190, 191, 192, 138, 140, 150, 151, 152, 866, 867, 868, 869, 870, 871, 872, 873, 874, 875, 876, 877, 878, 879, 880, 881, 882, 883, 884, 885, 886, 887, 888, 889, 890, 891, 892, 893, 894] (by decide +kernel) (by decide +kernel)
set_option maxRecDepth 20000 in
theorem gL_law_X5_reading : GoodIn wsL_law (wsV RL 107 RX5 yX5_reading wsX5_reading) := goodIn_app (goodIn_of _ (by decide +kernel)) ggL_law_X5_reading
set_option maxRecDepth 20000 in
theorem ggL_law_X4_back : GoodIn wsL_law wsX4_back := goodIn_r _ [665, 26, 91, 92, 2, 93, 858, 859, 860, 861, 862, 863, 864, 865] (by decide +kernel) (by decide +kernel)
set_option maxRecDepth 20000 in
theorem gL_law_X4_back : GoodIn wsL_law (wsV RL 108 RX4 yX4_back wsX4_back) := goodIn_app (goodIn_of _ (by decide +kernel)) ggL_law_X4_back
set_option maxRecDepth 20000 in
theorem ggL_law_X5_back : GoodIn wsL_law wsX5_back := goodIn_r _ [669, 145, 150, 151, 5, 152, 866, 867, 868, 869, 870, 871, 872, 873, 874, 875, 876, 877, 878, 879, 880, 881, 882, 883, 884, 885, 886, 887, 888, 889, 890, 891, 892, 893, 894] (by decide +kernel) (by decide +kernel)
set_option maxRecDepth 20000 in
theorem gL_law_X5_back : GoodIn wsL_law (wsV RL 111 RX5 yX5_back wsX5_back) := goodIn_app (goodIn_of _ (by decide +kernel)) ggL_law_X5_back
set_option maxRecDepth 20000 in
theorem ggL_law_X4_reaches : GoodIn wsL_law wsX4_reaches := goodIn_r _ [673, 17, 199, 201, 202, 203, 16, 204, 37, 674, 675, 676, 2, 677, 200, 26, 23, 25, 463, 407, 408, 409, 333, 280, 281, 282, 46, 334, 284, 285, 286, 287, 206, 207, 208, 45, 47, 288, 289, 290, 291, 292, 43, 44, 293, 34, 35, 353, 354, 355, 858, 859, 860, 861, 862, 863, 864, 865, 895, 896, 897, 898, 899, 900, 901, 902, 903, 904, 905, 906, 907, 908] (by decide +kernel) (by decide +kernel)
set_option maxRecDepth 20000 in
theorem gL_law_X4_reaches : GoodIn wsL_law (wsV RL 112 RX4 yX4_reaches wsX4_reaches) := goodIn_app (goodIn_of _ (by decide +kernel)) ggL_law_X4_reaches
set_option maxRecDepth 20000 in
theorem ggL_law_X5_reaches : GoodIn wsL_law wsX5_reaches := goodIn_r _ [681, 69, 213, 214, 215, 5, 216, 142, 150, 151, 152, 682, 683, 684, 685, 145, 76, 77, 339, 340, 341, 342, 143, 320, 321, 322, 323, 324, 221, 222, 223, 302, 303, 304, 305, 68, 217, 218, 219, 220, 67, 306, 307, 308, 309, 138, 310, 311, 312, 313, 314, 315, 316, 317, 318, 319, 866, 867, 868, 869, 870, 871, 872, 873, 874, 875, 876, 877, 878, 879, 880, 881, 882, 883, 884, 885, 886, 887, 888, 889, 890, 891, 892, 893, 894] (by decide +kernel) (by decide +kernel)
set_option maxRecDepth 20000 in
theorem gL_law_X5_reaches : GoodIn wsL_law (wsV RL 115 RX5 yX5_reaches wsX5_reaches) := goodIn_app (goodIn_of _ (by decide +kernel)) ggL_law_X5_reaches
set_option maxRecDepth 20000 in
theorem ggL_law_X4_kinds : GoodIn wsL_law wsX4_kinds := goodIn_r _ [689, 17, 197, 201, 202, 203, 16, 204, 37, 674, 675, 676, 2, 677, 200, 26, 23, 25, 463, 407, 408, 409, 333, 280, 281, 282, 46, 334, 284, 285, 286, 287, 206, 207, 208, 45, 47, 288, 289, 290, 291, 292, 43, 44, 293, 34, 35, 353, 354, 355, 858, 859, 860, 861, 862, 863, 864, 865, 895, 896, 897, 898, 899, 900, 901, 902, 903, 904, 905, 906, 907, 908] (by decide +kernel) (by decide +kernel)
set_option maxRecDepth 20000 in
theorem gL_law_X4_kinds : GoodIn wsL_law (wsV RL 116 RX4 yX4_kinds wsX4_kinds) := goodIn_app (goodIn_of _ (by decide +kernel)) ggL_law_X4_kinds
set_option maxRecDepth 20000 in
theorem ggL_law_X5_kinds : GoodIn wsL_law wsX5_kinds := goodIn_r _ [693, 67, 213, 214, 215, 5, 216, 142, 150, 151, 152, 682, 683, 684, 685, 145, 76, 77, 339, 340, 341, 342, 143, 320, 321, 322, 323, 324, 221, 222, 223, 302, 303, 304, 305, 68, 217, 218, 219, 220, 69, 306, 307, 308, 309, 138, 310, 311, 312, 313, 314, 315, 316, 317, 318, 319, 866, 867, 868, 869, 870, 871, 872, 873, 874, 875, 876, 877, 878, 879, 880, 881, 882, 883, 884, 885, 886, 887, 888, 889, 890, 891, 892, 893, 894] (by decide +kernel) (by decide +kernel)
set_option maxRecDepth 20000 in
theorem gL_law_X5_kinds : GoodIn wsL_law (wsV RL 119 RX5 yX5_kinds wsX5_kinds) := goodIn_app (goodIn_of _ (by decide +kernel)) ggL_law_X5_kinds
set_option maxRecDepth 20000 in
theorem ggL_law_X4_haunts : GoodIn wsL_law wsX4_haunts := goodIn_r _ [697, 17, 278, 198, 387, 201, 202, 203, 16, 204, 37, 674, 675, 676, 2, 677, 200, 26, 23, 25, 463, 407, 408, 409, 333, 280, 281, 282, 46, 334, 284, 285, 286, 287, 206, 207, 208, 45, 47, 288, 289, 290, 291, 292, 43, 44, 293, 34, 35, 353, 354, 355, 858, 859, 860, 861, 862, 863, 864, 865, 895, 896, 897, 898, 899, 900, 901, 902, 903, 904, 905, 906, 907, 908] (by decide +kernel) (by decide +kernel)
set_option maxRecDepth 20000 in
theorem gL_law_X4_haunts : GoodIn wsL_law (wsV RL 120 RX4 yX4_haunts wsX4_haunts) := goodIn_app (goodIn_of _ (by decide +kernel)) ggL_law_X4_haunts
set_option maxRecDepth 20000 in
theorem ggL_law_X5_haunts : GoodIn wsL_law wsX5_haunts := goodIn_r _ [701, 68, 213, 214, 215, 5, 216, 142, 150, 151, 152, 298, 299, 300, 301, 189, 190, 191, 192, 138, 140, 682, 683, 684, 685, 145, 76, 77, 339, 340, 341, 342, 143, 320, 321, 322, 323, 324, 221, 222, 223, 302, 303, 304, 305, 217, 218, 219, 220, 69, 67, 306, 307, 308, 309, 310, 311, 312, 313, 314, 315, 316, 317, 318, 319, 866, 867, 868, 869, 870, 871, 872, 873, 874, 875, 876, 877, 878, 879, 880, 881, 882, 883, 884, 885, 886, 887, 888, 889, 890, 891, 892, 893, 894] (by decide +kernel) (by decide +kernel)
set_option maxRecDepth 20000 in
theorem gL_law_X5_haunts : GoodIn wsL_law (wsV RL 123 RX5 yX5_haunts wsX5_haunts) := goodIn_app (goodIn_of _ (by decide +kernel)) ggL_law_X5_haunts
set_option maxRecDepth 20000 in
theorem ggL_law_X4_odds : GoodIn wsL_law wsX4_odds := goodIn_r _ [705, 17, 278, 86, 200, 229, 230, 231, 16, 232, 36, 91, 92, 2, 93, 579, 580, 581, 582, 401, 402, 403, 404, 352, 405, 349, 350, 351, 42, 333, 280, 281, 282, 37, 46, 406, 407, 408, 409, 334, 284, 285, 286, 287, 206, 207, 208, 45, 47, 288, 289, 290, 291, 292, 43, 44, 293, 34, 35, 583, 584, 585, 586, 40, 457, 398, 399, 400, 41, 353, 354, 355, 858, 859, 860, 861, 862, 863, 864, 865, 895, 896, 897, 898, 899, 900, 901, 902, 903, 904, 905, 906, 907, 908] (by decide +kernel) (by decide +kernel)
set_option maxRecDepth 20000 in
theorem gL_law_X4_odds : GoodIn wsL_law (wsV RL 124 RX4 yX4_odds wsX4_odds) := goodIn_app (goodIn_of _ (by decide +kernel)) ggL_law_X4_odds
set_option maxRecDepth 20000 in
theorem ggL_law_X5_odds : GoodIn wsL_law wsX5_odds := goodIn_r _ [709, 143, 142, 237, 238, 239, 5, 240, 189, 190, 191, 192, 138, 140, 150, 151, 152, 298, 299, 300, 301, 533, 534, 535, 536, 74, 537, 538, 539, 540, 541, 75, 542, 543, 544, 545, 546, 144, 66, 339, 340, 341, 342, 320, 321, 322, 323, 324, 221, 222, 223, 302, 303, 304, 305, 68, 217, 218, 219, 220, 69, 67, 306, 307, 308, 309, 310, 311, 312, 313, 314, 315, 316, 317, 318, 319, 360, 361, 362, 363, 364, 365, 366, 547, 548, 549, 550, 422, 423, 424, 425, 551, 552, 553, 554, 555, 556, 557, 558, 710, 711, 712, 866, 867, 868, 869, 870, 871, 872, 873, 874, 875, 876, 877, 878, 879, 880, 881, 882, 883, 884, 885, 886, 887, 888, 889, 890, 891, 892, 893, 894] (by decide +kernel) (by decide +kernel)
set_option maxRecDepth 20000 in
theorem gL_law_X5_odds : GoodIn wsL_law (wsV RL 128 RX5 yX5_odds wsX5_odds) := goodIn_app (goodIn_of _ (by decide +kernel)) ggL_law_X5_odds
set_option maxRecDepth 20000 in
theorem ggL_law_X4_sheet : GoodIn wsL_law wsX4_sheet := goodIn_r _ [716, 28, 87, 88, 89, 2, 90, 13, 91, 92, 93, 98, 99, 100, 101, 717, 718, 719, 30, 720, 60, 61, 59, 721, 499, 500, 501, 858, 859, 860, 861, 862, 863, 864, 865, 914, 915, 916] (by decide +kernel) (by decide +kernel)
set_option maxRecDepth 20000 in
theorem gL_law_X4_sheet : GoodIn wsL_law (wsV RL 129 RX4 yX4_sheet wsX4_sheet) := goodIn_app (goodIn_of _ (by decide +kernel)) ggL_law_X4_sheet
set_option maxRecDepth 20000 in
theorem ggL_law_X5_sheet : GoodIn wsL_law wsX5_sheet := goodIn_r _ [725, 135, 78, 79, 80, 146, 147, 5, 148, 149, 150, 151, 152, 153, 154, 155, 156, 157, 162, 163, 164, 165, 866, 867, 868, 869, 870, 871, 872, 873, 874, 875, 876, 877, 878, 879, 880, 881, 882, 883, 884, 885, 886, 887, 888, 889, 890, 891, 892, 893, 894] (by decide +kernel) (by decide +kernel)
set_option maxRecDepth 20000 in
theorem gL_law_X5_sheet : GoodIn wsL_law (wsV RL 133 RX5 yX5_sheet wsX5_sheet) := goodIn_app (goodIn_of _ (by decide +kernel)) ggL_law_X5_sheet
set_option maxRecDepth 20000 in
theorem ggL_law_X4_lose : GoodIn wsL_law wsX4_lose := goodIn_r _ [729, 87, 88, 89, 2, 90, 13, 91, 92, 93, 102, 103, 104, 30, 105, 60, 730, 731, 732, 733, 61, 858, 859, 860, 861, 862, 863, 864, 865, 914, 915, 916] (by decide +kernel) (by decide +kernel)
set_option maxRecDepth 20000 in
theorem gL_law_X4_lose : GoodIn wsL_law (wsV RL 134 RX4 yX4_lose wsX4_lose) := goodIn_app (goodIn_of _ (by decide +kernel)) ggL_law_X4_lose
set_option maxRecDepth 20000 in
theorem ggL_law_X5_lose : GoodIn wsL_law wsX5_lose := goodIn_r _ [737, 78, 146, 147, 5, 148, 149, 150, 151, 152, 866, 867, 868, 869, 870, 871, 872, 873, 874, 875, 876, 877, 878, 879, 880, 881, 882, 883, 884, 885, 886, 887, 888, 889, 890, 891, 892, 893, 894] (by decide +kernel) (by decide +kernel)
set_option maxRecDepth 20000 in
theorem gL_law_X5_lose : GoodIn wsL_law (wsV RL 137 RX5 yX5_lose wsX5_lose) := goodIn_app (goodIn_of _ (by decide +kernel)) ggL_law_X5_lose
set_option maxRecDepth 20000 in
theorem ggL_law_X4_put : GoodIn wsL_law wsX4_put := goodIn_r _ [741, 28, 462, 87, 88, 89, 2, 90, 13, 91, 92, 93, 102, 103, 104, 30, 105, 60, 98, 99, 100, 101, 106, 107, 108, 109, 61, 742, 743, 744, 745, 858, 859, 860, 861, 862, 863, 864, 865, 914, 915, 916] (by decide +kernel) (by decide +kernel)
set_option maxRecDepth 20000 in
theorem gL_law_X4_put : GoodIn wsL_law (wsV RL 138 RX4 yX4_put wsX4_put) := goodIn_app (goodIn_of _ (by decide +kernel)) ggL_law_X4_put
set_option maxRecDepth 20000 in
theorem ggL_law_X5_put : GoodIn wsL_law wsX5_put := goodIn_r _ [749, 80, 79, 146, 147, 5, 148, 149, 150, 151, 152, 153, 154, 155, 156, 157, 750, 751, 752, 753, 78, 162, 163, 164, 165, 866, 867, 868, 869, 870, 871, 872, 873, 874, 875, 876, 877, 878, 879, 880, 881, 882, 883, 884, 885, 886, 887, 888, 889, 890, 891, 892, 893, 894] (by decide +kernel) (by decide +kernel)
set_option maxRecDepth 20000 in
theorem gL_law_X5_put : GoodIn wsL_law (wsV RL 141 RX5 yX5_put wsX5_put) := goodIn_app (goodIn_of _ (by decide +kernel)) ggL_law_X5_put
set_option maxRecDepth 20000 in
theorem ggL_law_X4_cell : GoodIn wsL_law wsX4_cell := goodIn_r _ [757, 28, 278, 462, 87, 88, 89, 2, 90, 13, 91, 92, 93, 94, 95, 96, 30, 97, 60, 102, 103, 104, 105, 106, 107, 108, 109, 61, 858, 859, 860, 861, 862, 863, 864, 865, 914, 915, 916] (by decide +kernel) (by decide +kernel)
set_option maxRecDepth 20000 in
theorem gL_law_X4_cell : GoodIn wsL_law (wsV RL 142 RX4 yX4_cell wsX4_cell) := goodIn_app (goodIn_of _ (by decide +kernel)) ggL_law_X4_cell
set_option maxRecDepth 20000 in
theorem ggL_law_X5_cell : GoodIn wsL_law wsX5_cell := goodIn_r _ [761, 157, 135, 78, 79, 80, 146, 147, 5, 148, 149, 150, 151, 152, 298, 299, 300, 301, 762, 763, 764, 765, 750, 751, 752, 753, 866, 867, 868, 869, 870, 871, 872, 873, 874, 875, 876, 877, 878, 879, 880, 881, 882, 883, 884, 885, 886, 887, 888, 889, 890, 891, 892, 893, 894] (by decide +kernel) (by decide +kernel)
set_option maxRecDepth 20000 in
theorem gL_law_X5_cell : GoodIn wsL_law (wsV RL 146 RX5 yX5_cell wsX5_cell) := goodIn_app (goodIn_of _ (by decide +kernel)) ggL_law_X5_cell
set_option maxRecDepth 20000 in
theorem ggL_law_X4_copy : GoodIn wsL_law wsX4_copy := goodIn_r _ [769, 28, 770, 462, 771, 772, 773, 774, 87, 88, 89, 2, 90, 13, 91, 92, 93, 102, 103, 104, 30, 105, 60, 98, 99, 100, 101, 94, 95, 96, 97, 106, 107, 108, 109, 61, 858, 859, 860, 861, 862, 863, 864, 865, 914, 915, 916] (by decide +kernel) (by decide +kernel)
set_option maxRecDepth 20000 in
theorem gL_law_X4_copy : GoodIn wsL_law (wsV RL 147 RX4 yX4_copy wsX4_copy) := goodIn_app (goodIn_of _ (by decide +kernel)) ggL_law_X4_copy
set_option maxRecDepth 20000 in
theorem ggL_law_X5_copy : GoodIn wsL_law wsX5_copy := goodIn_r _ [778, 78, 79, 81, 80, 146, 147, 5, 148, 149, 150, 151, 152, 153, 154, 155, 156, 157, 162, 163, 164, 165, 166, 167, 168, 866, 867, 868, 869, 870, 871, 872, 873, 874, 875, 876, 877, 878, 879, 880, 881, 882, 883, 884, 885, 886, 887, 888, 889, 890, 891, 892, 893, 894] (by decide +kernel) (by decide +kernel)
set_option maxRecDepth 20000 in
theorem gL_law_X5_copy : GoodIn wsL_law (wsV RL 150 RX5 yX5_copy wsX5_copy) := goodIn_app (goodIn_of _ (by decide +kernel)) ggL_law_X5_copy
set_option maxRecDepth 20000 in
theorem ggL_law_X4_tell : GoodIn wsL_law wsX4_tell := goodIn_r _ [782, 17, 197, 201, 202, 203, 16, 204, 37, 783, 784, 785, 2, 786, 787, 788, 789, 790, 27, 791, 792, 793, 794, 795, 796, 797, 798, 199, 858, 859, 860, 861, 862, 863, 864, 865, 895, 896, 897, 898, 899, 900, 901, 902, 903, 904, 905, 906, 907, 908] (by decide +kernel) (by decide +kernel)
set_option maxRecDepth 20000 in
theorem gL_law_X4_tell : GoodIn wsL_law (wsV RL 151 RX4 yX4_tell wsX4_tell) := goodIn_app (goodIn_of _ (by decide +kernel)) ggL_law_X4_tell
set_option maxRecDepth 20000 in
theorem ggL_law_X5_tell : GoodIn wsL_law wsX5_tell := goodIn_r _ [802, 67, 69, 213, 214, 215, 5, 216, 142, 150, 151, 152, 803, 804, 805, 806, 807, 866, 867, 868, 869, 870, 871, 872, 873, 874, 875, 876, 877, 878, 879, 880, 881, 882, 883, 884, 885, 886, 887, 888, 889, 890, 891, 892, 893, 894] (by decide +kernel) (by decide +kernel)
set_option maxRecDepth 20000 in
theorem gL_law_X5_tell : GoodIn wsL_law (wsV RL 154 RX5 yX5_tell wsX5_tell) := goodIn_app (goodIn_of _ (by decide +kernel)) ggL_law_X5_tell
set_option maxRecDepth 20000 in
theorem ggL_law_X4_fire : GoodIn wsL_law wsX4_fire := goodIn_r _ [811, 17, 197, 201, 202, 203, 16, 204, 37, 812, 813, 814, 2, 815, 787, 788, 789, 790, 27, 816, 817, 818, 819, 858, 859, 860, 861, 862, 863, 864, 865, 895, 896, 897, 898, 899, 900, 901, 902, 903, 904, 905, 906, 907, 908] (by decide +kernel) (by decide +kernel)
set_option maxRecDepth 20000 in
theorem gL_law_X4_fire : GoodIn wsL_law (wsV RL 155 RX4 yX4_fire wsX4_fire) := goodIn_app (goodIn_of _ (by decide +kernel)) ggL_law_X4_fire
set_option maxRecDepth 20000 in
theorem ggL_law_X5_fire : GoodIn wsL_law wsX5_fire := goodIn_r _ [823, 67, 213, 214, 215, 5, 216, 142, 150, 151, 152, 803, 804, 805, 806, 807, 866, 867, 868, 869, 870, 871, 872, 873, 874, 875, 876, 877, 878, 879, 880, 881, 882, 883, 884, 885, 886, 887, 888, 889, 890, 891, 892, 893, 894] (by decide +kernel) (by decide +kernel)
set_option maxRecDepth 20000 in
theorem gL_law_X5_fire : GoodIn wsL_law (wsV RL 158 RX5 yX5_fire wsX5_fire) := goodIn_app (goodIn_of _ (by decide +kernel)) ggL_law_X5_fire
set_option maxRecDepth 20000 in
theorem ggL_law_X4_as : GoodIn wsL_law wsX4_as := goodIn_r _ [827, 28, 17, 197, 201, 202, 203, 16, 204, 37, 91, 92, 2, 93, 98, 99, 100, 101, 858, 859, 860, 861, 862, 863, 864, 865, 895, 896, 897, 898, 899, 900, 901, 902, 903, 904, 905, 906, 907, 908] (by decide +kernel) (by decide +kernel)
set_option maxRecDepth 20000 in
theorem gL_law_X4_as : GoodIn wsL_law (wsV RL 159 RX4 yX4_as wsX4_as) := goodIn_app (goodIn_of _ (by decide +kernel)) ggL_law_X4_as
set_option maxRecDepth 20000 in
theorem ggL_law_X5_as : GoodIn wsL_law wsX5_as := goodIn_r _ [831, 135, 67, 213, 214, 215, 5, 216, 142, 150, 151, 152, 153, 154, 155, 156, 157, 162, 163, 164, 165, 866, 867, 868, 869, 870, 871, 872, 873, 874, 875, 876, 877, 878, 879, 880, 881, 882, 883, 884, 885, 886, 887, 888, 889, 890, 891, 892, 893, 894] (by decide +kernel) (by decide +kernel)
set_option maxRecDepth 20000 in
theorem gL_law_X5_as : GoodIn wsL_law (wsV RL 162 RX5 yX5_as wsX5_as) := goodIn_app (goodIn_of _ (by decide +kernel)) ggL_law_X5_as
set_option maxRecDepth 20000 in
theorem ggL_law_X4_trace : GoodIn wsL_law wsX4_trace := goodIn_r _ [835, 27, 858, 859, 860, 861, 862, 863, 864, 865] (by decide +kernel) (by decide +kernel)
set_option maxRecDepth 20000 in
theorem gL_law_X4_trace : GoodIn wsL_law (wsV RL 163 RX4 yX4_trace wsX4_trace) := goodIn_app (goodIn_of _ (by decide +kernel)) ggL_law_X4_trace
set_option maxRecDepth 20000 in
theorem ggL_law_X5_trace : GoodIn wsL_law wsX5_trace := goodIn_r _ [839, 807, 866, 867, 868, 869, 870, 871, 872, 873, 874, 875, 876, 877, 878, 879, 880, 881, 882, 883, 884, 885, 886, 887, 888, 889, 890, 891, 892, 893, 894] (by decide +kernel) (by decide +kernel)
set_option maxRecDepth 20000 in
theorem gL_law_X5_trace : GoodIn wsL_law (wsV RL 166 RX5 yX5_trace wsX5_trace) := goodIn_app (goodIn_of _ (by decide +kernel)) ggL_law_X5_trace
set_option maxRecDepth 20000 in
theorem ggL_law_X4_fault : GoodIn wsL_law wsX4_fault := goodIn_r _ [843, 28, 858, 859, 860, 861, 862, 863, 864, 865] (by decide +kernel) (by decide +kernel)
set_option maxRecDepth 20000 in
theorem gL_law_X4_fault : GoodIn wsL_law (wsV RL 167 RX4 yX4_fault wsX4_fault) := goodIn_app (goodIn_of _ (by decide +kernel)) ggL_law_X4_fault
set_option maxRecDepth 20000 in
theorem ggL_law_X5_fault : GoodIn wsL_law wsX5_fault := goodIn_r _ [847, 157, 866, 867, 868, 869, 870, 871, 872, 873, 874, 875, 876, 877, 878, 879, 880, 881, 882, 883, 884, 885, 886, 887, 888, 889, 890, 891, 892, 893, 894] (by decide +kernel) (by decide +kernel)
set_option maxRecDepth 20000 in
theorem gL_law_X5_fault : GoodIn wsL_law (wsV RL 170 RX5 yX5_fault wsX5_fault) := goodIn_app (goodIn_of _ (by decide +kernel)) ggL_law_X5_fault
set_option maxRecDepth 20000 in
theorem ggL_law_X4_many : GoodIn wsL_law wsX4_many := goodIn_r _ [851, 17, 86, 852, 853, 347, 26, 430, 431, 432, 433, 434, 435, 436, 858, 859, 860, 861, 862, 863, 864, 865, 895, 896, 897, 898, 899, 900, 901, 902, 903, 904, 905, 906, 907, 908] (by decide +kernel) (by decide +kernel)
set_option maxRecDepth 20000 in
theorem gL_law_X4_many : GoodIn wsL_law (wsV RL 171 RX4 yX4_many wsX4_many) := goodIn_app (goodIn_of _ (by decide +kernel)) ggL_law_X4_many
set_option maxRecDepth 20000 in
theorem ggL_law_X5_many : GoodIn wsL_law wsX5_many := goodIn_r _ [857, 142, 138, 140, 144, 145, 441, 442, 5, 443, 866, 867, 868, 869, 870, 871, 872, 873, 874, 875, 876, 877, 878, 879, 880, 881, 882, 883, 884, 885, 886, 887, 888, 889, 890, 891, 892, 893, 894] (by decide +kernel) (by decide +kernel)
set_option maxRecDepth 20000 in
theorem gL_law_X5_many : GoodIn wsL_law (wsV RL 174 RX5 yX5_many wsX5_many) := goodIn_app (goodIn_of _ (by decide +kernel)) ggL_law_X5_many
