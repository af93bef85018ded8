/-! the law's good words -/
set_option maxRecDepth 20000 in
theorem ggL_law_X6_leak : GoodIn wsL_law wsX6_leak := goodIn_r _ [545, 512, 513, 514, 2, 515, 21, 16, 154, 516, 379, 380, 20, 381, 63, 64, 65, 382, 287, 288, 289, 62, 58, 290, 283, 284, 285, 59, 60, 61, 526, 527, 528, 529, 129, 195, 196, 197, 198, 42, 199, 54, 53, 391, 392, 393, 394, 395, 375, 376, 377, 175, 164, 165, 166, 167, 168, 169, 170, 396, 397, 398, 399, 400, 401, 402, 403, 404, 405, 406, 810, 811, 812, 813, 814, 815, 816, 832, 833, 834, 835, 836, 837, 838, 839, 840, 841, 842, 843, 844, 845, 862, 863] (by decide +kernel) (by decide +kernel)
set_option maxRecDepth 20000 in
theorem gL_law_X6_leak : GoodIn wsL_law (wsV RL 84 RX6 yX6_leak wsX6_leak) := goodIn_app (goodIn_of _ (by decide +kernel)) ggL_law_X6_leak
set_option maxRecDepth 20000 in
theorem ggL_law_X7_leak : GoodIn wsL_law wsX7_leak := goodIn_r _ [549, 104, 534, 535, 536, 5, 537, 103, 327, 328, 329, 415, 416, 417, 418, 204, 205, 206, 419, 420, 421, 422, 107, 423, 424, 425, 426, 184, 185, 186, 817, 818, 819, 820, 821, 822, 823, 824, 825, 826, 827, 828, 829, 830, 831] (by decide +kernel) (by decide +kernel)
set_option maxRecDepth 20000 in
theorem gL_law_X7_leak : GoodIn wsL_law (wsV RL 87 RX7 yX7_leak wsX7_leak) := goodIn_app (goodIn_of _ (by decide +kernel)) ggL_law_X7_leak
set_option maxRecDepth 20000 in
theorem ggL_law_X6_bare : GoodIn wsL_law wsX6_bare := goodIn_r _ [553, 21, 225, 512, 513, 514, 2, 515, 16, 154, 516, 379, 380, 20, 381, 63, 64, 65, 382, 287, 288, 289, 62, 58, 290, 283, 284, 285, 59, 60, 61, 526, 527, 528, 529, 129, 195, 196, 197, 198, 42, 199, 54, 53, 391, 392, 393, 394, 395, 375, 376, 377, 175, 164, 165, 166, 167, 168, 169, 170, 396, 397, 398, 399, 400, 401, 402, 403, 404, 405, 406, 810, 811, 812, 813, 814, 815, 816, 838, 839, 840, 841, 842, 843, 844, 845, 832, 833, 834, 835, 836, 837, 862, 863] (by decide +kernel) (by decide +kernel)
set_option maxRecDepth 20000 in
theorem gL_law_X6_bare : GoodIn wsL_law (wsV RL 88 RX6 yX6_bare wsX6_bare) := goodIn_app (goodIn_of _ (by decide +kernel)) ggL_law_X6_bare
set_option maxRecDepth 20000 in
theorem ggL_law_X7_bare : GoodIn wsL_law wsX7_bare := goodIn_r _ [557, 104, 534, 535, 536, 5, 537, 103, 327, 328, 329, 415, 416, 417, 418, 204, 205, 206, 419, 420, 421, 422, 107, 423, 424, 425, 426, 184, 185, 186, 817, 818, 819, 820, 821, 822, 823, 824, 825, 826, 827, 828, 829, 830, 831] (by decide +kernel) (by decide +kernel)
set_option maxRecDepth 20000 in
theorem gL_law_X7_bare : GoodIn wsL_law (wsV RL 91 RX7 yX7_bare wsX7_bare) := goodIn_app (goodIn_of _ (by decide +kernel)) ggL_law_X7_bare
set_option maxRecDepth 20000 in
theorem ggL_law_X6_reach : GoodIn wsL_law wsX6_reach := goodIn_r _ [561, 16, 154, 129, 195, 115, 116, 2, 117, 196, 197, 198, 42, 199, 54, 53, 562, 563, 564, 20, 565, 62, 175, 164, 165, 166, 58, 59, 63, 167, 168, 169, 170, 60, 810, 811, 812, 813, 814, 815, 816, 832, 833, 834, 835, 836, 837, 838, 839, 840, 841, 842, 843, 844, 845, 862, 863] (by decide +kernel) (by decide +kernel)
set_option maxRecDepth 20000 in
theorem gL_law_X6_reach : GoodIn wsL_law (wsV RL 92 RX6 yX6_reach wsX6_reach) := goodIn_app (goodIn_of _ (by decide +kernel)) ggL_law_X6_reach
set_option maxRecDepth 20000 in
theorem ggL_law_X7_reach : GoodIn wsL_law wsX7_reach := goodIn_r _ [569, 103, 122, 123, 5, 124, 204, 205, 206, 184, 185, 186, 817, 818, 819, 820, 821, 822, 823, 824, 825, 826, 827, 828, 829, 830, 831] (by decide +kernel) (by decide +kernel)
set_option maxRecDepth 20000 in
theorem gL_law_X7_reach : GoodIn wsL_law (wsV RL 95 RX7 yX7_reach wsX7_reach) := goodIn_app (goodIn_of _ (by decide +kernel)) ggL_law_X7_reach
set_option maxRecDepth 20000 in
theorem ggL_law_X6_cover : GoodIn wsL_law wsX6_cover := goodIn_r _ [573, 16, 154, 225, 21, 431, 432, 2, 433, 115, 116, 117, 512, 513, 514, 515, 516, 379, 380, 20, 381, 63, 64, 65, 382, 287, 288, 289, 62, 58, 290, 283, 284, 285, 59, 60, 61, 434, 266, 267, 268, 522, 523, 524, 525, 526, 527, 528, 529, 129, 195, 196, 197, 198, 42, 199, 54, 53, 391, 392, 393, 394, 395, 375, 376, 377, 175, 164, 165, 166, 167, 168, 169, 170, 396, 397, 398, 399, 400, 401, 402, 403, 404, 405, 406, 810, 811, 812, 813, 814, 815, 816, 832, 833, 834, 835, 836, 837, 838, 839, 840, 841, 842, 843, 844, 845, 862, 863] (by decide +kernel) (by decide +kernel)
set_option maxRecDepth 20000 in
theorem gL_law_X6_cover : GoodIn wsL_law (wsV RL 96 RX6 yX6_cover wsX6_cover) := goodIn_app (goodIn_of _ (by decide +kernel)) ggL_law_X6_cover
set_option maxRecDepth 20000 in
theorem ggL_law_X7_cover : GoodIn wsL_law wsX7_cover := goodIn_r _ [577, 103, 104, 122, 123, 5, 124, 534, 535, 536, 537, 327, 328, 329, 324, 325, 326, 538, 539, 540, 541, 415, 416, 417, 418, 204, 205, 206, 419, 420, 421, 422, 107, 423, 424, 425, 426, 184, 185, 186, 817, 818, 819, 820, 821, 822, 823, 824, 825, 826, 827, 828, 829, 830, 831] (by decide +kernel) (by decide +kernel)
set_option maxRecDepth 20000 in
theorem gL_law_X7_cover : GoodIn wsL_law (wsV RL 99 RX7 yX7_cover wsX7_cover) := goodIn_app (goodIn_of _ (by decide +kernel)) ggL_law_X7_cover
set_option maxRecDepth 20000 in
theorem ggL_law_X6_relief : GoodIn wsL_law wsX6_relief := goodIn_r _ [581, 521, 16, 154, 225, 21, 114, 115, 116, 2, 117, 512, 513, 514, 515, 516, 379, 380, 20, 381, 63, 64, 65, 382, 287, 288, 289, 62, 58, 290, 283, 284, 285, 59, 60, 61, 582, 583, 584, 585, 586, 160, 161, 162, 336, 337, 338, 339, 340, 341, 342, 343, 517, 518, 519, 520, 522, 523, 524, 525, 526, 527, 528, 529, 129, 195, 196, 197, 198, 42, 199, 54, 53, 391, 392, 393, 394, 395, 375, 376, 377, 175, 164, 165, 166, 167, 168, 169, 170, 396, 397, 398, 399, 400, 401, 402, 403, 404, 405, 406, 810, 811, 812, 813, 814, 815, 816, 832, 833, 834, 835, 836, 837, 838, 839, 840, 841, 842, 843, 844, 845, 862, 863] (by decide +kernel) (by decide +kernel)
set_option maxRecDepth 20000 in
theorem gL_law_X6_relief : GoodIn wsL_law (wsV RL 100 RX6 yX6_relief wsX6_relief) := goodIn_app (goodIn_of _ (by decide +kernel)) ggL_law_X6_relief
set_option maxRecDepth 20000 in
theorem ggL_law_X7_relief : GoodIn wsL_law wsX7_relief := goodIn_r _ [590, 103, 104, 122, 123, 5, 124, 534, 535, 536, 537, 327, 328, 329, 591, 592, 593, 594, 352, 353, 354, 355, 356, 357, 538, 539, 540, 541, 415, 416, 417, 418, 204, 205, 206, 419, 420, 421, 422, 107, 423, 424, 425, 426, 184, 185, 186, 817, 818, 819, 820, 821, 822, 823, 824, 825, 826, 827, 828, 829, 830, 831] (by decide +kernel) (by decide +kernel)
set_option maxRecDepth 20000 in
theorem gL_law_X7_relief : GoodIn wsL_law (wsV RL 103 RX7 yX7_relief wsX7_relief) := goodIn_app (goodIn_of _ (by decide +kernel)) ggL_law_X7_relief
set_option maxRecDepth 20000 in
theorem ggL_law_X6_share : GoodIn wsL_law wsX6_share := goodIn_r _ [598, 16, 154, 225, 25, 599, 600, 601, 115, 116, 2, 117, 602, 603, 604, 605, 606, 21, 607, 608, 609, 610, 24, 611, 71, 612, 72, 73, 69, 512, 513, 514, 515, 516, 379, 380, 20, 381, 63, 64, 65, 382, 287, 288, 289, 62, 58, 290, 283, 284, 285, 59, 60, 61, 613, 614, 615, 616, 395, 375, 376, 377, 522, 523, 524, 525, 526, 527, 528, 529, 129, 195, 196, 197, 198, 42, 199, 54, 53, 391, 392, 393, 394, 175, 164, 165, 166, 167, 168, 169, 170, 396, 397, 398, 399, 400, 401, 402, 403, 404, 405, 406, 336, 337, 338, 339, 340, 341, 342, 343, 617, 618, 619, 620, 70, 621, 622, 623, 624, 625, 810, 811, 812, 813, 814, 815, 816, 832, 833, 834, 835, 836, 837, 838, 839, 840, 841, 842, 843, 844, 845, 846, 847, 848, 849, 850, 862, 863] (by decide +kernel) (by decide +kernel)
set_option maxRecDepth 20000 in
theorem gL_law_X6_share : GoodIn wsL_law (wsV RL 104 RX6 yX6_share wsX6_share) := goodIn_app (goodIn_of _ (by decide +kernel)) ggL_law_X6_share
set_option maxRecDepth 20000 in
theorem ggL_law_X7_share : GoodIn wsL_law wsX7_share := goodIn_r _ [629, 103, 108, 104, 109, 122, 123, 5, 124, 534, 535, 536, 537, 327, 328, 329, 538, 539, 540, 541, 415, 416, 417, 418, 204, 205, 206, 419, 420, 421, 422, 107, 423, 424, 425, 426, 184, 185, 186, 352, 353, 354, 355, 356, 357, 630, 631, 632, 633, 180, 181, 182, 183, 817, 818, 819, 820, 821, 822, 823, 824, 825, 826, 827, 828, 829, 830, 831] (by decide +kernel) (by decide +kernel)
set_option maxRecDepth 20000 in
theorem gL_law_X7_share : GoodIn wsL_law (wsV RL 108 RX7 yX7_share wsX7_share) := goodIn_app (goodIn_of _ (by decide +kernel)) ggL_law_X7_share
set_option maxRecDepth 20000 in
theorem ggL_law_X6_worst : GoodIn wsL_law wsX6_worst := goodIn_r _ [637, 115, 116, 2, 117, 512, 513, 514, 515, 21, 16, 154, 516, 379, 380, 20, 381, 63, 64, 65, 382, 287, 288, 289, 62, 58, 290, 283, 284, 285, 59, 60, 61, 526, 527, 528, 529, 129, 195, 196, 197, 198, 42, 199, 54, 53, 391, 392, 393, 394, 395, 375, 376, 377, 175, 164, 165, 166, 167, 168, 169, 170, 396, 397, 398, 399, 400, 401, 402, 403, 404, 405, 406, 810, 811, 812, 813, 814, 815, 816, 832, 833, 834, 835, 836, 837, 838, 839, 840, 841, 842, 843, 844, 845, 862, 863] (by decide +kernel) (by decide +kernel)
set_option maxRecDepth 20000 in
theorem gL_law_X6_worst : GoodIn wsL_law (wsV RL 109 RX6 yX6_worst wsX6_worst) := goodIn_app (goodIn_of _ (by decide +kernel)) ggL_law_X6_worst
set_option maxRecDepth 20000 in
theorem ggL_law_X7_worst : GoodIn wsL_law wsX7_worst := goodIn_r _ [641, 104, 122, 123, 5, 124, 534, 535, 536, 537, 103, 327, 328, 329, 415, 416, 417, 418, 204, 205, 206, 419, 420, 421, 422, 107, 423, 424, 425, 426, 184, 185, 186, 817, 818, 819, 820, 821, 822, 823, 824, 825, 826, 827, 828, 829, 830, 831] (by decide +kernel) (by decide +kernel)
set_option maxRecDepth 20000 in
theorem gL_law_X7_worst : GoodIn wsL_law (wsV RL 112 RX7 yX7_worst wsX7_worst) := goodIn_app (goodIn_of _ (by decide +kernel)) ggL_law_X7_worst
set_option maxRecDepth 20000 in
theorem ggL_law_X6_hot : GoodIn wsL_law wsX6_hot := goodIn_r _ [645, 16, 154, 225, 115, 116, 2, 117, 646, 468, 469, 20, 470, 60, 647, 341, 342, 343, 59, 810, 811, 812, 813, 814, 815, 816, 832, 833, 834, 835, 836, 837, 838, 839, 840, 841, 842, 843, 844, 845] (by decide +kernel) (by decide +kernel)
set_option maxRecDepth 20000 in
theorem gL_law_X6_hot : GoodIn wsL_law (wsV RL 113 RX6 yX6_hot wsX6_hot) := goodIn_app (goodIn_of _ (by decide +kernel)) ggL_law_X6_hot
set_option maxRecDepth 20000 in
theorem ggL_law_X7_hot : GoodIn wsL_law wsX7_hot := goodIn_r _ [651, 103, 122, 123, 5, 124, 817, 818, 819, 820, 821, 822, 823, 824, 825, 826, 827, 828, 829, 830, 831] (by decide +kernel) (by decide +kernel)
set_option maxRecDepth 20000 in
theorem gL_law_X7_hot : GoodIn wsL_law (wsV RL 116 RX7 yX7_hot wsX7_hot) := goodIn_app (goodIn_of _ (by decide +kernel)) ggL_law_X7_hot
set_option maxRecDepth 20000 in
theorem ggL_law_X6_bursts : GoodIn wsL_law wsX6_bursts := goodIn_r _ [655, 115, 116, 2, 117, 656, 657, 658, 659, 16, 129, 21, 195, 512, 513, 514, 515, 154, 516, 379, 380, 20, 381, 63, 64, 65, 382, 287, 288, 289, 62, 58, 290, 283, 284, 285, 59, 60, 61, 196, 197, 198, 42, 199, 54, 53, 391, 392, 393, 394, 395, 375, 376, 377, 175, 164, 165, 166, 167, 168, 169, 170, 396, 397, 398, 399, 400, 401, 402, 403, 404, 405, 406, 660, 661, 662, 663, 664, 665, 666, 667, 668, 669, 670, 671, 672, 451, 810, 811, 812, 813, 814, 815, 816, 832, 833, 834, 835, 836, 837, 838, 839, 840, 841, 842, 843, 844, 845, 862, 863] (by decide +kernel) (by decide +kernel)
set_option maxRecDepth 20000 in
theorem gL_law_X6_bursts : GoodIn wsL_law (wsV RL 117 RX6 yX6_bursts wsX6_bursts) := goodIn_app (goodIn_of _ (by decide +kernel)) ggL_law_X6_bursts
set_option maxRecDepth 20000 in
theorem ggL_law_X7_bursts : GoodIn wsL_law wsX7_bursts := goodIn_r _ [676, 104, 122, 123, 5, 124, 534, 535, 536, 537, 103, 327, 328, 329, 677, 678, 679, 204, 205, 206, 419, 420, 421, 422, 107, 423, 424, 425, 426, 184, 185, 186, 817, 818, 819, 820, 821, 822, 823, 824, 825, 826, 827, 828, 829, 830, 831] (by decide +kernel) (by decide +kernel)
set_option maxRecDepth 20000 in
theorem gL_law_X7_bursts : GoodIn wsL_law (wsV RL 120 RX7 yX7_bursts wsX7_bursts) := goodIn_app (goodIn_of _ (by decide +kernel)) ggL_law_X7_bursts
