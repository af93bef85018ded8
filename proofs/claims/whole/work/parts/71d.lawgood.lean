/-! the law's good words -/
set_option maxRecDepth 20000 in
theorem ggL_law_X6_image : GoodIn wsL_law wsX6_image := goodIn_r _ [683, 17, 16, 32, 684, 685, 686, 15, 687, 39, 43, 45, 46, 47, 48, 278, 279, 280, 42, 281, 54, 53, 282, 283, 284, 285, 378, 379, 380, 20, 381, 63, 64, 65, 382, 287, 288, 289, 62, 58, 290, 59, 60, 61, 810, 811, 812, 813, 814, 815, 816, 832, 833, 834, 835, 836, 837, 862, 863, 838, 839, 840, 841, 842, 843, 844, 845] (by decide +kernel) (by decide +kernel)
set_option maxRecDepth 20000 in
theorem gL_law_X6_image : GoodIn wsL_law (wsV RL 121 RX6 yX6_image wsX6_image) := goodIn_app (goodIn_of _ (by decide +kernel)) ggL_law_X6_image
set_option maxRecDepth 20000 in
theorem ggL_law_X7_image : GoodIn wsL_law wsX7_image := goodIn_r _ [691, 103, 106, 692, 327, 328, 5, 329, 817, 818, 819, 820, 821, 822, 823, 824, 825, 826, 827, 828, 829, 830, 831] (by decide +kernel) (by decide +kernel)
set_option maxRecDepth 20000 in
theorem gL_law_X7_image : GoodIn wsL_law (wsV RL 124 RX7 yX7_image wsX7_image) := goodIn_app (goodIn_of _ (by decide +kernel)) ggL_law_X7_image
set_option maxRecDepth 20000 in
theorem ggL_law_X6_restore : GoodIn wsL_law wsX6_restore := goodIn_r _ [696, 32, 16, 17, 684, 685, 686, 15, 687, 39, 43, 45, 46, 47, 48, 278, 279, 280, 42, 281, 54, 53, 282, 283, 284, 285, 378, 379, 380, 20, 381, 63, 64, 65, 382, 287, 288, 289, 62, 58, 290, 59, 60, 61, 810, 811, 812, 813, 814, 815, 816, 832, 833, 834, 835, 836, 837, 862, 863, 838, 839, 840, 841, 842, 843, 844, 845] (by decide +kernel) (by decide +kernel)
set_option maxRecDepth 20000 in
theorem gL_law_X6_restore : GoodIn wsL_law (wsV RL 125 RX6 yX6_restore wsX6_restore) := goodIn_app (goodIn_of _ (by decide +kernel)) ggL_law_X6_restore
set_option maxRecDepth 20000 in
theorem ggL_law_X7_restore : GoodIn wsL_law wsX7_restore := goodIn_r _ [700, 692, 106, 103, 327, 328, 5, 329, 817, 818, 819, 820, 821, 822, 823, 824, 825, 826, 827, 828, 829, 830, 831] (by decide +kernel) (by decide +kernel)
set_option maxRecDepth 20000 in
theorem gL_law_X7_restore : GoodIn wsL_law (wsV RL 128 RX7 yX7_restore wsX7_restore) := goodIn_app (goodIn_of _ (by decide +kernel)) ggL_law_X7_restore
set_option maxRecDepth 20000 in
theorem ggL_law_X6_stains : GoodIn wsL_law wsX6_stains := goodIn_r _ [704, 16, 154, 31, 159, 160, 161, 20, 162, 62, 705, 706, 2, 707, 115, 116, 117, 708, 709, 710, 711, 712, 713, 34, 714, 92, 93, 715, 716, 717, 718, 94, 719, 720, 721, 722, 21, 155, 512, 513, 514, 515, 516, 379, 380, 381, 63, 64, 65, 382, 287, 288, 289, 58, 290, 283, 284, 285, 59, 60, 61, 723, 724, 725, 726, 727, 526, 527, 528, 529, 129, 195, 196, 197, 198, 42, 199, 54, 53, 391, 392, 393, 394, 395, 375, 376, 377, 175, 164, 165, 166, 167, 168, 169, 170, 396, 397, 398, 399, 400, 401, 402, 403, 404, 405, 406, 728, 729, 730, 731, 156, 810, 811, 812, 813, 814, 815, 816, 832, 833, 834, 835, 836, 837, 838, 839, 840, 841, 842, 843, 844, 845, 858, 859, 860, 861, 862, 863] (by decide +kernel) (by decide +kernel)
set_option maxRecDepth 20000 in
theorem gL_law_X6_stains : GoodIn wsL_law (wsV RL 129 RX6 yX6_stains wsX6_stains) := goodIn_app (goodIn_of _ (by decide +kernel)) ggL_law_X6_stains
set_option maxRecDepth 20000 in
theorem ggL_law_X7_stains : GoodIn wsL_law wsX7_stains := goodIn_r _ [735, 104, 180, 181, 182, 5, 183, 103, 122, 123, 124, 736, 737, 738, 739, 740, 741, 742, 99, 100, 743, 744, 745, 534, 535, 536, 537, 327, 328, 329, 746, 747, 748, 749, 101, 415, 416, 417, 418, 204, 205, 206, 419, 420, 421, 422, 107, 423, 424, 425, 426, 184, 185, 186, 817, 818, 819, 820, 821, 822, 823, 824, 825, 826, 827, 828, 829, 830, 831] (by decide +kernel) (by decide +kernel)
set_option maxRecDepth 20000 in
theorem gL_law_X7_stains : GoodIn wsL_law (wsV RL 133 RX7 yX7_stains wsX7_stains) := goodIn_app (goodIn_of _ (by decide +kernel)) ggL_law_X7_stains
set_option maxRecDepth 20000 in
theorem ggL_law_X6_film : GoodIn wsL_law wsX6_film := goodIn_r _ [753, 31, 115, 116, 2, 117, 705, 706, 707, 708, 709, 710, 711, 712, 713, 34, 714, 92, 93, 715, 716, 717, 718, 94, 512, 513, 514, 515, 21, 16, 154, 516, 379, 380, 20, 381, 63, 64, 65, 382, 287, 288, 289, 62, 58, 290, 283, 284, 285, 59, 60, 61, 526, 527, 528, 529, 129, 195, 196, 197, 198, 42, 199, 54, 53, 391, 392, 393, 394, 395, 375, 376, 377, 175, 164, 165, 166, 167, 168, 169, 170, 396, 397, 398, 399, 400, 401, 402, 403, 404, 405, 406, 754, 755, 756, 757, 91, 758, 759, 760, 761, 810, 811, 812, 813, 814, 815, 816, 858, 859, 860, 861, 832, 833, 834, 835, 836, 837, 838, 839, 840, 841, 842, 843, 844, 845, 862, 863] (by decide +kernel) (by decide +kernel)
set_option maxRecDepth 20000 in
theorem gL_law_X6_film : GoodIn wsL_law (wsV RL 134 RX6 yX6_film wsX6_film) := goodIn_app (goodIn_of _ (by decide +kernel)) ggL_law_X6_film
set_option maxRecDepth 20000 in
theorem ggL_law_X7_film : GoodIn wsL_law wsX7_film := goodIn_r _ [765, 101, 104, 122, 123, 5, 124, 736, 737, 738, 739, 740, 741, 742, 99, 100, 743, 744, 745, 534, 535, 536, 537, 103, 327, 328, 329, 415, 416, 417, 418, 204, 205, 206, 419, 420, 421, 422, 107, 423, 424, 425, 426, 184, 185, 186, 766, 767, 768, 817, 818, 819, 820, 821, 822, 823, 824, 825, 826, 827, 828, 829, 830, 831] (by decide +kernel) (by decide +kernel)
set_option maxRecDepth 20000 in
theorem gL_law_X7_film : GoodIn wsL_law (wsV RL 138 RX7 yX7_film wsX7_film) := goodIn_app (goodIn_of _ (by decide +kernel)) ggL_law_X7_film
set_option maxRecDepth 20000 in
theorem ggL_law_X6_sheet : GoodIn wsL_law wsX6_sheet := goodIn_r _ [772, 31, 705, 706, 2, 707, 115, 116, 117, 708, 709, 710, 773, 774, 775, 34, 776, 92, 93, 94, 91, 810, 811, 812, 813, 814, 815, 816, 858, 859, 860, 861] (by decide +kernel) (by decide +kernel)
set_option maxRecDepth 20000 in
theorem gL_law_X6_sheet : GoodIn wsL_law (wsV RL 139 RX6 yX6_sheet wsX6_sheet) := goodIn_app (goodIn_of _ (by decide +kernel)) ggL_law_X6_sheet
set_option maxRecDepth 20000 in
theorem ggL_law_X7_sheet : GoodIn wsL_law wsX7_sheet := goodIn_r _ [780, 99, 100, 101, 736, 737, 5, 738, 122, 123, 124, 817, 818, 819, 820, 821, 822, 823, 824, 825, 826, 827, 828, 829, 830, 831] (by decide +kernel) (by decide +kernel)
set_option maxRecDepth 20000 in
theorem gL_law_X7_sheet : GoodIn wsL_law (wsV RL 142 RX7 yX7_sheet wsX7_sheet) := goodIn_app (goodIn_of _ (by decide +kernel)) ggL_law_X7_sheet
set_option maxRecDepth 20000 in
theorem ggL_law_X6_drop : GoodIn wsL_law wsX6_drop := goodIn_r _ [784, 31, 785, 786, 705, 706, 2, 707, 115, 116, 117, 810, 811, 812, 813, 814, 815, 816, 858, 859, 860, 861] (by decide +kernel) (by decide +kernel)
set_option maxRecDepth 20000 in
theorem gL_law_X6_drop : GoodIn wsL_law (wsV RL 143 RX6 yX6_drop wsX6_drop) := goodIn_app (goodIn_of _ (by decide +kernel)) ggL_law_X6_drop
set_option maxRecDepth 20000 in
theorem ggL_law_X7_drop : GoodIn wsL_law wsX7_drop := goodIn_r _ [790, 99, 100, 736, 737, 5, 738, 122, 123, 124, 817, 818, 819, 820, 821, 822, 823, 824, 825, 826, 827, 828, 829, 830, 831] (by decide +kernel) (by decide +kernel)
set_option maxRecDepth 20000 in
theorem gL_law_X7_drop : GoodIn wsL_law (wsV RL 146 RX7 yX7_drop wsX7_drop) := goodIn_app (goodIn_of _ (by decide +kernel)) ggL_law_X7_drop
set_option maxRecDepth 20000 in
theorem ggL_law_X6_item : GoodIn wsL_law wsX6_item := goodIn_r _ [794, 31, 705, 706, 2, 707, 115, 116, 117, 708, 709, 710, 711, 712, 713, 34, 714, 92, 93, 715, 716, 717, 718, 94, 754, 755, 756, 757, 91, 758, 759, 760, 761, 810, 811, 812, 813, 814, 815, 816, 858, 859, 860, 861] (by decide +kernel) (by decide +kernel)
set_option maxRecDepth 20000 in
theorem gL_law_X6_item : GoodIn wsL_law (wsV RL 149 RX6 yX6_item wsX6_item) := goodIn_app (goodIn_of _ (by decide +kernel)) ggL_law_X6_item
set_option maxRecDepth 20000 in
theorem ggL_law_X7_item : GoodIn wsL_law wsX7_item := goodIn_r _ [798, 101, 736, 737, 5, 738, 122, 123, 124, 739, 740, 741, 742, 99, 100, 743, 744, 745, 817, 818, 819, 820, 821, 822, 823, 824, 825, 826, 827, 828, 829, 830, 831] (by decide +kernel) (by decide +kernel)
set_option maxRecDepth 20000 in
theorem gL_law_X7_item : GoodIn wsL_law (wsV RL 153 RX7 yX7_item wsX7_item) := goodIn_app (goodIn_of _ (by decide +kernel)) ggL_law_X7_item
set_option maxRecDepth 20000 in
theorem ggL_law_X6_copy : GoodIn wsL_law wsX6_copy := goodIn_r _ [802, 31, 785, 803, 727, 804, 283, 284, 285, 705, 706, 2, 707, 115, 116, 117, 805, 716, 717, 34, 718, 94, 810, 811, 812, 813, 814, 815, 816, 858, 859, 860, 861] (by decide +kernel) (by decide +kernel)
set_option maxRecDepth 20000 in
theorem gL_law_X6_copy : GoodIn wsL_law (wsV RL 154 RX6 yX6_copy wsX6_copy) := goodIn_app (goodIn_of _ (by decide +kernel)) ggL_law_X6_copy
set_option maxRecDepth 20000 in
theorem ggL_law_X7_copy : GoodIn wsL_law wsX7_copy := goodIn_r _ [809, 99, 100, 101, 736, 737, 5, 738, 122, 123, 124, 743, 744, 745, 817, 818, 819, 820, 821, 822, 823, 824, 825, 826, 827, 828, 829, 830, 831] (by decide +kernel) (by decide +kernel)
set_option maxRecDepth 20000 in
theorem gL_law_X7_copy : GoodIn wsL_law (wsV RL 158 RX7 yX7_copy wsX7_copy) := goodIn_app (goodIn_of _ (by decide +kernel)) ggL_law_X7_copy
