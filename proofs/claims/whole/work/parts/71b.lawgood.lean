/-! the law's good words -/
set_option maxRecDepth 20000 in
theorem ggL_law_X6_years : GoodIn wsL_law wsX6_years := goodIn_r _ [361, 362, 363, 364, 2, 365, 16, 154, 195, 115, 116, 117, 366, 367, 368, 369, 129, 370, 371, 372, 15, 373, 46, 48, 45, 47, 374, 375, 376, 377, 378, 379, 380, 20, 381, 63, 64, 65, 382, 287, 288, 289, 62, 58, 290, 283, 284, 285, 59, 60, 61, 383, 384, 385, 386, 387, 388, 389, 390, 196, 197, 198, 42, 199, 54, 53, 391, 392, 393, 394, 395, 175, 164, 165, 166, 167, 168, 169, 170, 396, 397, 398, 399, 400, 401, 402, 403, 404, 405, 406, 810, 811, 812, 813, 814, 815, 816, 832, 833, 834, 835, 836, 837, 838, 839, 840, 841, 842, 843, 844, 845, 862, 863] (by decide +kernel) (by decide +kernel)
set_option maxRecDepth 20000 in
theorem gL_law_X6_years : GoodIn wsL_law (wsV RL 48 RX6 yX6_years wsX6_years) := goodIn_app (goodIn_of _ (by decide +kernel)) ggL_law_X6_years
set_option maxRecDepth 20000 in
theorem ggL_law_X7_years : GoodIn wsL_law wsX7_years := goodIn_r _ [410, 103, 122, 123, 5, 124, 411, 412, 413, 414, 327, 328, 329, 415, 416, 417, 418, 204, 205, 206, 419, 420, 421, 422, 107, 423, 424, 425, 426, 184, 185, 186, 817, 818, 819, 820, 821, 822, 823, 824, 825, 826, 827, 828, 829, 830, 831] (by decide +kernel) (by decide +kernel)
set_option maxRecDepth 20000 in
theorem gL_law_X7_years : GoodIn wsL_law (wsV RL 51 RX7 yX7_years wsX7_years) := goodIn_app (goodIn_of _ (by decide +kernel)) ggL_law_X7_years
set_option maxRecDepth 20000 in
theorem ggL_law_X6_lay : GoodIn wsL_law wsX6_lay := goodIn_r _ [430, 16, 154, 225, 114, 431, 432, 2, 433, 115, 116, 117, 336, 337, 338, 20, 339, 62, 340, 341, 342, 343, 59, 60, 370, 371, 372, 15, 373, 46, 48, 45, 47, 374, 375, 376, 377, 378, 379, 380, 381, 63, 64, 65, 382, 287, 288, 289, 58, 290, 283, 284, 285, 61, 434, 266, 267, 268, 810, 811, 812, 813, 814, 815, 816, 832, 833, 834, 835, 836, 837, 838, 839, 840, 841, 842, 843, 844, 845] (by decide +kernel) (by decide +kernel)
set_option maxRecDepth 20000 in
theorem gL_law_X6_lay : GoodIn wsL_law (wsV RL 52 RX6 yX6_lay wsX6_lay) := goodIn_app (goodIn_of _ (by decide +kernel)) ggL_law_X6_lay
set_option maxRecDepth 20000 in
theorem ggL_law_X7_lay : GoodIn wsL_law wsX7_lay := goodIn_r _ [438, 103, 122, 123, 5, 124, 352, 353, 354, 355, 356, 357, 411, 412, 413, 414, 327, 328, 329, 324, 325, 326, 817, 818, 819, 820, 821, 822, 823, 824, 825, 826, 827, 828, 829, 830, 831] (by decide +kernel) (by decide +kernel)
set_option maxRecDepth 20000 in
theorem gL_law_X7_lay : GoodIn wsL_law (wsV RL 55 RX7 yX7_lay wsX7_lay) := goodIn_app (goodIn_of _ (by decide +kernel)) ggL_law_X7_lay
set_option maxRecDepth 20000 in
theorem ggL_law_X6_strip : GoodIn wsL_law wsX6_strip := goodIn_r _ [442, 16, 154, 225, 115, 116, 2, 117, 370, 371, 372, 15, 373, 46, 48, 45, 47, 374, 375, 376, 377, 378, 379, 380, 20, 381, 63, 64, 65, 382, 287, 288, 289, 62, 58, 290, 283, 284, 285, 59, 60, 61, 810, 811, 812, 813, 814, 815, 816, 832, 833, 834, 835, 836, 837, 838, 839, 840, 841, 842, 843, 844, 845] (by decide +kernel) (by decide +kernel)
set_option maxRecDepth 20000 in
theorem gL_law_X6_strip : GoodIn wsL_law (wsV RL 56 RX6 yX6_strip wsX6_strip) := goodIn_app (goodIn_of _ (by decide +kernel)) ggL_law_X6_strip
set_option maxRecDepth 20000 in
theorem ggL_law_X7_strip : GoodIn wsL_law wsX7_strip := goodIn_r _ [446, 103, 122, 123, 5, 124, 411, 412, 413, 414, 327, 328, 329, 817, 818, 819, 820, 821, 822, 823, 824, 825, 826, 827, 828, 829, 830, 831] (by decide +kernel) (by decide +kernel)
set_option maxRecDepth 20000 in
theorem gL_law_X7_strip : GoodIn wsL_law (wsV RL 59 RX7 yX7_strip wsX7_strip) := goodIn_app (goodIn_of _ (by decide +kernel)) ggL_law_X7_strip
set_option maxRecDepth 20000 in
theorem ggL_law_X6_pull : GoodIn wsL_law wsX6_pull := goodIn_r _ [450, 16, 154, 156, 451, 401, 376, 402, 159, 160, 161, 20, 162, 62, 115, 116, 2, 117, 370, 371, 372, 15, 373, 46, 48, 45, 47, 374, 375, 377, 378, 379, 380, 381, 63, 64, 65, 382, 287, 288, 289, 58, 290, 283, 284, 285, 59, 60, 61, 810, 811, 812, 813, 814, 815, 816, 832, 833, 834, 835, 836, 837, 838, 839, 840, 841, 842, 843, 844, 845] (by decide +kernel) (by decide +kernel)
set_option maxRecDepth 20000 in
theorem gL_law_X6_pull : GoodIn wsL_law (wsV RL 60 RX6 yX6_pull wsX6_pull) := goodIn_app (goodIn_of _ (by decide +kernel)) ggL_law_X6_pull
set_option maxRecDepth 20000 in
theorem ggL_law_X7_pull : GoodIn wsL_law wsX7_pull := goodIn_r _ [455, 103, 180, 181, 182, 5, 183, 122, 123, 124, 411, 412, 413, 414, 327, 328, 329, 456, 457, 458, 817, 818, 819, 820, 821, 822, 823, 824, 825, 826, 827, 828, 829, 830, 831] (by decide +kernel) (by decide +kernel)
set_option maxRecDepth 20000 in
theorem gL_law_X7_pull : GoodIn wsL_law (wsV RL 63 RX7 yX7_pull wsX7_pull) := goodIn_app (goodIn_of _ (by decide +kernel)) ggL_law_X7_pull
set_option maxRecDepth 20000 in
theorem ggL_law_X6_fire : GoodIn wsL_law wsX6_fire := goodIn_r _ [462, 16, 154, 115, 116, 2, 117, 370, 371, 372, 15, 373, 46, 48, 45, 47, 374, 375, 376, 377, 378, 379, 380, 20, 381, 63, 64, 65, 382, 287, 288, 289, 62, 58, 290, 283, 284, 285, 59, 60, 61, 463, 464, 465, 466, 467, 468, 469, 470, 340, 341, 342, 343, 810, 811, 812, 813, 814, 815, 816, 832, 833, 834, 835, 836, 837, 838, 839, 840, 841, 842, 843, 844, 845] (by decide +kernel) (by decide +kernel)
set_option maxRecDepth 20000 in
theorem gL_law_X6_fire : GoodIn wsL_law (wsV RL 64 RX6 yX6_fire wsX6_fire) := goodIn_app (goodIn_of _ (by decide +kernel)) ggL_law_X6_fire
set_option maxRecDepth 20000 in
theorem ggL_law_X7_fire : GoodIn wsL_law wsX7_fire := goodIn_r _ [474, 103, 122, 123, 5, 124, 411, 412, 413, 414, 327, 328, 329, 817, 818, 819, 820, 821, 822, 823, 824, 825, 826, 827, 828, 829, 830, 831] (by decide +kernel) (by decide +kernel)
set_option maxRecDepth 20000 in
theorem gL_law_X7_fire : GoodIn wsL_law (wsV RL 67 RX7 yX7_fire wsX7_fire) := goodIn_app (goodIn_of _ (by decide +kernel)) ggL_law_X7_fire
set_option maxRecDepth 20000 in
theorem ggL_law_X6_drift : GoodIn wsL_law wsX6_drift := goodIn_r _ [478, 362, 363, 364, 2, 365, 16, 154, 195, 115, 116, 117, 366, 367, 368, 369, 129, 370, 371, 372, 15, 373, 46, 48, 45, 47, 374, 375, 376, 377, 378, 379, 380, 20, 381, 63, 64, 65, 382, 287, 288, 289, 62, 58, 290, 283, 284, 285, 59, 60, 61, 383, 384, 385, 386, 387, 388, 389, 390, 196, 197, 198, 42, 199, 54, 53, 391, 392, 393, 394, 395, 175, 164, 165, 166, 167, 168, 169, 170, 396, 397, 398, 399, 400, 401, 402, 403, 404, 405, 406, 810, 811, 812, 813, 814, 815, 816, 832, 833, 834, 835, 836, 837, 838, 839, 840, 841, 842, 843, 844, 845, 862, 863] (by decide +kernel) (by decide +kernel)
set_option maxRecDepth 20000 in
theorem gL_law_X6_drift : GoodIn wsL_law (wsV RL 68 RX6 yX6_drift wsX6_drift) := goodIn_app (goodIn_of _ (by decide +kernel)) ggL_law_X6_drift
set_option maxRecDepth 20000 in
theorem ggL_law_X7_drift : GoodIn wsL_law wsX7_drift := goodIn_r _ [482, 103, 483, 484, 485, 486, 122, 123, 5, 124, 411, 412, 413, 414, 327, 328, 329, 456, 457, 458, 415, 416, 417, 418, 204, 205, 206, 419, 420, 421, 422, 107, 423, 424, 425, 426, 184, 185, 186, 817, 818, 819, 820, 821, 822, 823, 824, 825, 826, 827, 828, 829, 830, 831] (by decide +kernel) (by decide +kernel)
set_option maxRecDepth 20000 in
theorem gL_law_X7_drift : GoodIn wsL_law (wsV RL 71 RX7 yX7_drift wsX7_drift) := goodIn_app (goodIn_of _ (by decide +kernel)) ggL_law_X7_drift
set_option maxRecDepth 20000 in
theorem ggL_law_X6_undo : GoodIn wsL_law wsX6_undo := goodIn_r _ [490, 16, 335, 491, 492, 493, 15, 494, 47, 48, 45, 46, 378, 379, 380, 20, 381, 63, 64, 65, 382, 287, 288, 289, 62, 58, 290, 283, 284, 285, 59, 60, 61, 810, 811, 812, 813, 814, 815, 816, 832, 833, 834, 835, 836, 837, 838, 839, 840, 841, 842, 843, 844, 845] (by decide +kernel) (by decide +kernel)
set_option maxRecDepth 20000 in
theorem gL_law_X6_undo : GoodIn wsL_law (wsV RL 72 RX6 yX6_undo wsX6_undo) := goodIn_app (goodIn_of _ (by decide +kernel)) ggL_law_X6_undo
set_option maxRecDepth 20000 in
theorem ggL_law_X7_undo : GoodIn wsL_law wsX7_undo := goodIn_r _ [498, 103, 327, 328, 5, 329, 817, 818, 819, 820, 821, 822, 823, 824, 825, 826, 827, 828, 829, 830, 831] (by decide +kernel) (by decide +kernel)
set_option maxRecDepth 20000 in
theorem gL_law_X7_undo : GoodIn wsL_law (wsV RL 75 RX7 yX7_undo wsX7_undo) := goodIn_app (goodIn_of _ (by decide +kernel)) ggL_law_X7_undo
set_option maxRecDepth 20000 in
theorem ggL_law_X6_seed : GoodIn wsL_law wsX6_seed := goodIn_r _ [502, 16, 154, 503, 810, 811, 812, 813, 814, 815, 816, 832, 833, 834, 835, 836, 837, 838, 839, 840, 841, 842, 843, 844, 845] (by decide +kernel) (by decide +kernel)
set_option maxRecDepth 20000 in
theorem gL_law_X6_seed : GoodIn wsL_law (wsV RL 76 RX6 yX6_seed wsX6_seed) := goodIn_app (goodIn_of _ (by decide +kernel)) ggL_law_X6_seed
set_option maxRecDepth 20000 in
theorem ggL_law_X7_seed : GoodIn wsL_law wsX7_seed := goodIn_r _ [507, 103, 817, 818, 819, 820, 821, 822, 823, 824, 825, 826, 827, 828, 829, 830, 831] (by decide +kernel) (by decide +kernel)
set_option maxRecDepth 20000 in
theorem gL_law_X7_seed : GoodIn wsL_law (wsV RL 79 RX7 yX7_seed wsX7_seed) := goodIn_app (goodIn_of _ (by decide +kernel)) ggL_law_X7_seed
set_option maxRecDepth 20000 in
theorem ggL_law_X6_ahead : GoodIn wsL_law wsX6_ahead := goodIn_r _ [511, 21, 225, 334, 115, 116, 2, 117, 512, 513, 514, 515, 16, 154, 516, 379, 380, 20, 381, 63, 64, 65, 382, 287, 288, 289, 62, 58, 290, 283, 284, 285, 59, 60, 61, 517, 518, 519, 520, 521, 522, 523, 524, 525, 526, 527, 528, 529, 129, 195, 196, 197, 198, 42, 199, 54, 53, 391, 392, 393, 394, 395, 375, 376, 377, 175, 164, 165, 166, 167, 168, 169, 170, 396, 397, 398, 399, 400, 401, 402, 403, 404, 405, 406, 336, 337, 338, 339, 340, 341, 342, 343, 810, 811, 812, 813, 814, 815, 816, 838, 839, 840, 841, 842, 843, 844, 845, 832, 833, 834, 835, 836, 837, 862, 863] (by decide +kernel) (by decide +kernel)
set_option maxRecDepth 20000 in
theorem gL_law_X6_ahead : GoodIn wsL_law (wsV RL 80 RX6 yX6_ahead wsX6_ahead) := goodIn_app (goodIn_of _ (by decide +kernel)) ggL_law_X6_ahead
set_option maxRecDepth 20000 in
theorem ggL_law_X7_ahead : GoodIn wsL_law wsX7_ahead := goodIn_r _ [533, 104, 122, 123, 5, 124, 534, 535, 536, 537, 103, 327, 328, 329, 538, 539, 540, 541, 415, 416, 417, 418, 204, 205, 206, 419, 420, 421, 422, 107, 423, 424, 425, 426, 184, 185, 186, 352, 353, 354, 355, 356, 357, 817, 818, 819, 820, 821, 822, 823, 824, 825, 826, 827, 828, 829, 830, 831] (by decide +kernel) (by decide +kernel)
set_option maxRecDepth 20000 in
theorem gL_law_X7_ahead : GoodIn wsL_law (wsV RL 83 RX7 yX7_ahead wsX7_ahead) := goodIn_app (goodIn_of _ (by decide +kernel)) ggL_law_X7_ahead
