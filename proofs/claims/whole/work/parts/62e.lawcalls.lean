set_option maxRecDepth 20000 in
theorem ggL_law_X5_join : GoodIn wsL_law wsX5_join := goodIn_r _ [492, 25, 30, 423, 424, 425, 29, 426, 92, 91, 427, 428, 429, 430, 431, 432, 433, 24, 434, 61, 62, 63, 64, 65, 66, 67, 68, 493, 494, 495, 496, 69, 785, 786, 787, 788, 789, 790, 791, 792, 793, 794, 834, 835, 836, 837, 838, 839, 840, 841, 842, 843, 844, 825, 826, 827, 828, 829, 830, 831, 832, 833] (by decide +kernel) (by decide +kernel)
set_option maxRecDepth 20000 in
theorem gL_law_X5_join : GoodIn wsL_law (wsV RL 48 RX5 yX5_join wsX5_join) := goodIn_app (goodIn_of _ (by decide +kernel)) ggL_law_X5_join
set_option maxRecDepth 20000 in
theorem ggL_law_X6_join : GoodIn wsL_law wsX6_join := goodIn_r _ [500, 141, 110, 123, 452, 453, 454, 5, 455, 252, 112, 795, 796, 797, 798, 799, 800, 801, 802, 803, 804, 805, 806, 807, 808, 809, 810, 811, 812, 813, 814, 815, 816, 817, 818, 819, 820, 821, 822] (by decide +kernel) (by decide +kernel)
set_option maxRecDepth 20000 in
theorem gL_law_X6_join : GoodIn wsL_law (wsV RL 51 RX6 yX6_join wsX6_join) := goodIn_app (goodIn_of _ (by decide +kernel)) ggL_law_X6_join
set_option maxRecDepth 20000 in
theorem ggL_law_X5_hide : GoodIn wsL_law wsX5_hide := goodIn_r _ [504, 20, 25, 30, 505, 177, 178, 19, 179, 48, 506, 507, 508, 24, 509, 63, 61, 322, 323, 324, 325, 69, 68, 510, 195, 2, 196, 423, 424, 425, 29, 426, 92, 91, 427, 428, 429, 430, 431, 432, 433, 434, 62, 64, 65, 66, 67, 785, 786, 787, 788, 789, 790, 791, 792, 793, 794, 834, 835, 836, 837, 838, 839, 840, 841, 842, 825, 826, 827, 828, 829, 830, 831, 832, 833, 843, 844] (by decide +kernel) (by decide +kernel)
set_option maxRecDepth 20000 in
theorem gL_law_X5_hide : GoodIn wsL_law (wsV RL 52 RX5 yX5_hide wsX5_hide) := goodIn_app (goodIn_of _ (by decide +kernel)) ggL_law_X5_hide
set_option maxRecDepth 20000 in
theorem ggL_law_X6_hide : GoodIn wsL_law wsX6_hide := goodIn_r _ [514, 141, 110, 515, 516, 517, 5, 518, 105, 144, 145, 146, 519, 520, 521, 522, 378, 379, 380, 381, 382, 383, 384, 385, 123, 251, 106, 107, 219, 220, 221, 452, 453, 454, 455, 252, 112, 795, 796, 797, 798, 799, 800, 801, 802, 803, 804, 805, 806, 807, 808, 809, 810, 811, 812, 813, 814, 815, 816, 817, 818, 819, 820, 821, 822] (by decide +kernel) (by decide +kernel)
set_option maxRecDepth 20000 in
theorem gL_law_X6_hide : GoodIn wsL_law (wsV RL 55 RX6 yX6_hide wsX6_hide) := goodIn_app (goodIn_of _ (by decide +kernel)) ggL_law_X6_hide
set_option maxRecDepth 20000 in
theorem ggL_law_X5_undo : GoodIn wsL_law wsX5_undo := goodIn_r _ [526, 30, 25, 527, 528, 529, 29, 530, 92, 91, 431, 432, 433, 24, 434, 61, 62, 63, 64, 65, 66, 67, 68, 785, 786, 787, 788, 789, 790, 791, 792, 793, 794, 843, 844, 834, 835, 836, 837, 838, 839, 840, 841, 842] (by decide +kernel) (by decide +kernel)
set_option maxRecDepth 20000 in
theorem gL_law_X5_undo : GoodIn wsL_law (wsV RL 56 RX5 yX5_undo wsX5_undo) := goodIn_app (goodIn_of _ (by decide +kernel)) ggL_law_X5_undo
set_option maxRecDepth 20000 in
theorem ggL_law_X6_undo : GoodIn wsL_law wsX6_undo := goodIn_r _ [534, 141, 252, 110, 112, 795, 796, 797, 798, 799, 800, 801, 802, 803, 804, 805, 806, 807, 808, 809, 810, 811, 812, 813, 814, 815, 816, 817, 818, 819, 820, 821, 822] (by decide +kernel) (by decide +kernel)
set_option maxRecDepth 20000 in
theorem gL_law_X6_undo : GoodIn wsL_law (wsV RL 59 RX6 yX6_undo wsX6_undo) := goodIn_app (goodIn_of _ (by decide +kernel)) ggL_law_X6_undo
