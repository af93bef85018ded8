/-! the law's good words -/
set_option maxRecDepth 20000 in
theorem ggL_law_X6_init : GoodIn wsL_law wsX6_init := goodIn_r _ [9, 10, 11, 12, 13, 14, 15, 16, 17, 18, 19, 20, 21, 22, 23, 24, 25, 26, 27, 28, 29, 30, 31, 32, 33, 34, 35, 36, 37, 38, 39, 40, 41, 42, 43, 44, 45, 46, 47, 48, 49, 50, 51, 52, 53, 54, 55, 56, 57, 58, 59, 60, 61, 62, 63, 64, 65, 66, 67, 68, 69, 70, 71, 72, 73, 74, 75, 76, 77, 78, 79, 80, 81, 82, 83, 84, 85, 86, 87, 88, 89, 90, 91, 92, 93, 94, 832, 833, 834, 835, 836, 837, 810, 811, 812, 813, 814, 815, 816, 838, 839, 840, 841, 842, 843, 844, 845, 846, 847, 848, 849, 850, 851, 852, 853, 854, 855, 856, 857, 858, 859, 860, 861, 862, 863] (by decide +kernel) (by decide +kernel)
set_option maxRecDepth 20000 in
theorem gL_law_X6_init : GoodIn wsL_law (wsX6_init) := ggL_law_X6_init
set_option maxRecDepth 20000 in
theorem ggL_law_X7_init : GoodIn wsL_law wsX7_init := goodIn_r _ [97, 98, 11, 12, 52, 99, 100, 90, 101, 102, 103, 104, 105, 106, 107, 108, 109, 817, 818, 819, 820, 821, 822, 823, 824, 825, 826, 827, 828, 829, 830, 831] (by decide +kernel) (by decide +kernel)
set_option maxRecDepth 20000 in
theorem gL_law_X7_init : GoodIn wsL_law (wsX7_init) := ggL_law_X7_init
set_option maxRecDepth 20000 in
theorem ggL_law_X6_walls : GoodIn wsL_law wsX6_walls := goodIn_r _ [113, 16, 114, 115, 116, 2, 117, 810, 811, 812, 813, 814, 815, 816, 832, 833, 834, 835, 836, 837] (by decide +kernel) (by decide +kernel)
set_option maxRecDepth 20000 in
theorem gL_law_X6_walls : GoodIn wsL_law (wsV RL 13 RX6 yX6_walls wsX6_walls) := goodIn_app (goodIn_of _ (by decide +kernel)) ggL_law_X6_walls
set_option maxRecDepth 20000 in
theorem ggL_law_X7_walls : GoodIn wsL_law wsX7_walls := goodIn_r _ [121, 103, 122, 123, 5, 124, 817, 818, 819, 820, 821, 822, 823, 824, 825, 826, 827, 828, 829, 830, 831] (by decide +kernel) (by decide +kernel)
set_option maxRecDepth 20000 in
theorem gL_law_X7_walls : GoodIn wsL_law (wsV RL 17 RX7 yX7_walls wsX7_walls) := goodIn_app (goodIn_of _ (by decide +kernel)) ggL_law_X7_walls
set_option maxRecDepth 20000 in
theorem ggL_law_X6_rain : GoodIn wsL_law wsX6_rain := goodIn_r _ [128, 16, 129, 130, 115, 116, 2, 117, 131, 132, 133, 42, 134, 54, 53, 810, 811, 812, 813, 814, 815, 816, 832, 833, 834, 835, 836, 837, 862, 863] (by decide +kernel) (by decide +kernel)
set_option maxRecDepth 20000 in
theorem gL_law_X6_rain : GoodIn wsL_law (wsV RL 18 RX6 yX6_rain wsX6_rain) := goodIn_app (goodIn_of _ (by decide +kernel)) ggL_law_X6_rain
set_option maxRecDepth 20000 in
theorem ggL_law_X7_rain : GoodIn wsL_law wsX7_rain := goodIn_r _ [138, 103, 122, 123, 5, 124, 139, 140, 141, 817, 818, 819, 820, 821, 822, 823, 824, 825, 826, 827, 828, 829, 830, 831] (by decide +kernel) (by decide +kernel)
set_option maxRecDepth 20000 in
theorem gL_law_X7_rain : GoodIn wsL_law (wsV RL 21 RX7 yX7_rain wsX7_rain) := goodIn_app (goodIn_of _ (by decide +kernel)) ggL_law_X7_rain
set_option maxRecDepth 20000 in
theorem ggL_law_X6_dry : GoodIn wsL_law wsX6_dry := goodIn_r _ [145, 16, 129, 130, 810, 811, 812, 813, 814, 815, 816, 832, 833, 834, 835, 836, 837, 862, 863] (by decide +kernel) (by decide +kernel)
set_option maxRecDepth 20000 in
theorem gL_law_X6_dry : GoodIn wsL_law (wsV RL 22 RX6 yX6_dry wsX6_dry) := goodIn_app (goodIn_of _ (by decide +kernel)) ggL_law_X6_dry
set_option maxRecDepth 20000 in
theorem ggL_law_X7_dry : GoodIn wsL_law wsX7_dry := goodIn_r _ [149, 103, 817, 818, 819, 820, 821, 822, 823, 824, 825, 826, 827, 828, 829, 830, 831] (by decide +kernel) (by decide +kernel)
set_option maxRecDepth 20000 in
theorem gL_law_X7_dry : GoodIn wsL_law (wsV RL 26 RX7 yX7_dry wsX7_dry) := goodIn_app (goodIn_of _ (by decide +kernel)) ggL_law_X7_dry
set_option maxRecDepth 20000 in
theorem ggL_law_X6_of : GoodIn wsL_law wsX6_of := goodIn_r _ [153, 16, 154, 155, 156, 157, 158, 159, 160, 161, 20, 162, 62, 163, 164, 165, 166, 58, 59, 63, 167, 168, 169, 170, 60, 171, 172, 173, 174, 175, 810, 811, 812, 813, 814, 815, 816, 832, 833, 834, 835, 836, 837, 838, 839, 840, 841, 842, 843, 844, 845] (by decide +kernel) (by decide +kernel)
set_option maxRecDepth 20000 in
theorem gL_law_X6_of : GoodIn wsL_law (wsV RL 27 RX6 yX6_of wsX6_of) := goodIn_app (goodIn_of _ (by decide +kernel)) ggL_law_X6_of
set_option maxRecDepth 20000 in
theorem ggL_law_X7_of : GoodIn wsL_law wsX7_of := goodIn_r _ [179, 103, 180, 181, 182, 5, 183, 122, 123, 124, 184, 185, 186, 187, 188, 189, 190, 817, 818, 819, 820, 821, 822, 823, 824, 825, 826, 827, 828, 829, 830, 831] (by decide +kernel) (by decide +kernel)
set_option maxRecDepth 20000 in
theorem gL_law_X7_of : GoodIn wsL_law (wsV RL 31 RX7 yX7_of wsX7_of) := goodIn_app (goodIn_of _ (by decide +kernel)) ggL_law_X7_of
set_option maxRecDepth 20000 in
theorem ggL_law_X6_rains : GoodIn wsL_law wsX6_rains := goodIn_r _ [194, 16, 129, 154, 195, 115, 116, 2, 117, 196, 197, 198, 42, 199, 54, 53, 810, 811, 812, 813, 814, 815, 816, 832, 833, 834, 835, 836, 837, 838, 839, 840, 841, 842, 843, 844, 845, 862, 863] (by decide +kernel) (by decide +kernel)
set_option maxRecDepth 20000 in
theorem gL_law_X6_rains : GoodIn wsL_law (wsV RL 32 RX6 yX6_rains wsX6_rains) := goodIn_app (goodIn_of _ (by decide +kernel)) ggL_law_X6_rains
set_option maxRecDepth 20000 in
theorem ggL_law_X7_rains : GoodIn wsL_law wsX7_rains := goodIn_r _ [203, 103, 122, 123, 5, 124, 204, 205, 206, 817, 818, 819, 820, 821, 822, 823, 824, 825, 826, 827, 828, 829, 830, 831] (by decide +kernel) (by decide +kernel)
set_option maxRecDepth 20000 in
theorem gL_law_X7_rains : GoodIn wsL_law (wsV RL 35 RX7 yX7_rains wsX7_rains) := goodIn_app (goodIn_of _ (by decide +kernel)) ggL_law_X7_rains
set_option maxRecDepth 20000 in
theorem ggL_law_X6_type : GoodIn wsL_law wsX6_type := goodIn_r _ [210, 29, 211, 115, 116, 2, 117, 212, 213, 214, 28, 215, 83, 78, 810, 811, 812, 813, 814, 815, 816, 851, 852, 853, 854, 855, 856, 857] (by decide +kernel) (by decide +kernel)
set_option maxRecDepth 20000 in
theorem gL_law_X6_type : GoodIn wsL_law (wsV RL 36 RX6 yX6_type wsX6_type) := goodIn_app (goodIn_of _ (by decide +kernel)) ggL_law_X6_type
set_option maxRecDepth 20000 in
theorem ggL_law_X7_type : GoodIn wsL_law wsX7_type := goodIn_r _ [219, 220, 102, 122, 123, 5, 124, 817, 818, 819, 820, 821, 822, 823, 824, 825, 826, 827, 828, 829, 830, 831] (by decide +kernel) (by decide +kernel)
set_option maxRecDepth 20000 in
theorem gL_law_X7_type : GoodIn wsL_law (wsV RL 39 RX7 yX7_type wsX7_type) := goodIn_app (goodIn_of _ (by decide +kernel)) ggL_law_X7_type
set_option maxRecDepth 20000 in
theorem ggL_law_X6_roof : GoodIn wsL_law wsX6_roof := goodIn_r _ [224, 29, 211, 16, 154, 225, 226, 227, 228, 28, 229, 85, 86, 80, 230, 82, 231, 84, 83, 232, 233, 234, 235, 236, 237, 238, 239, 78, 240, 241, 242, 243, 244, 245, 246, 247, 116, 2, 117, 248, 249, 250, 251, 252, 132, 133, 42, 134, 54, 53, 253, 254, 255, 256, 257, 258, 259, 260, 261, 262, 263, 264, 265, 266, 267, 20, 268, 62, 58, 59, 60, 61, 63, 269, 270, 271, 15, 272, 273, 39, 43, 274, 45, 275, 276, 277, 47, 278, 279, 280, 281, 282, 283, 284, 285, 286, 287, 288, 289, 290, 810, 811, 812, 813, 814, 815, 816, 851, 852, 853, 854, 855, 856, 857, 832, 833, 834, 835, 836, 837, 838, 839, 840, 841, 842, 843, 844, 845, 862, 863] (by decide +kernel) (by decide +kernel)
set_option maxRecDepth 20000 in
theorem gL_law_X6_roof : GoodIn wsL_law (wsV RL 40 RX6 yX6_roof wsX6_roof) := goodIn_app (goodIn_of _ (by decide +kernel)) ggL_law_X6_roof
set_option maxRecDepth 20000 in
theorem ggL_law_X7_roof : GoodIn wsL_law wsX7_roof := goodIn_r _ [294, 105, 103, 295, 220, 296, 297, 298, 5, 299, 300, 301, 302, 303, 304, 102, 305, 306, 307, 308, 309, 310, 311, 312, 122, 123, 124, 313, 314, 315, 316, 139, 140, 141, 317, 318, 319, 320, 321, 322, 323, 324, 325, 326, 327, 328, 329, 817, 818, 819, 820, 821, 822, 823, 824, 825, 826, 827, 828, 829, 830, 831] (by decide +kernel) (by decide +kernel)
set_option maxRecDepth 20000 in
theorem gL_law_X7_roof : GoodIn wsL_law (wsV RL 43 RX7 yX7_roof wsX7_roof) := goodIn_app (goodIn_of _ (by decide +kernel)) ggL_law_X7_roof
set_option maxRecDepth 20000 in
theorem ggL_law_X6_count : GoodIn wsL_law wsX6_count := goodIn_r _ [333, 16, 154, 225, 114, 129, 130, 195, 334, 335, 336, 337, 338, 20, 339, 62, 340, 341, 342, 343, 59, 60, 344, 345, 346, 347, 810, 811, 812, 813, 814, 815, 816, 832, 833, 834, 835, 836, 837, 838, 839, 840, 841, 842, 843, 844, 845, 862, 863] (by decide +kernel) (by decide +kernel)
set_option maxRecDepth 20000 in
theorem gL_law_X6_count : GoodIn wsL_law (wsV RL 44 RX6 yX6_count wsX6_count) := goodIn_app (goodIn_of _ (by decide +kernel)) ggL_law_X6_count
set_option maxRecDepth 20000 in
theorem ggL_law_X7_count : GoodIn wsL_law wsX7_count := goodIn_r _ [351, 103, 352, 353, 5, 354, 355, 356, 357, 817, 818, 819, 820, 821, 822, 823, 824, 825, 826, 827, 828, 829, 830, 831] (by decide +kernel) (by decide +kernel)
set_option maxRecDepth 20000 in
theorem gL_law_X7_count : GoodIn wsL_law (wsV RL 47 RX7 yX7_count wsX7_count) := goodIn_app (goodIn_of _ (by decide +kernel)) ggL_law_X7_count
