set_option maxRecDepth 20000 in
theorem ggL_law_X5_drawn : GoodIn wsL_law wsX5_drawn := goodIn_r _ [750, 26, 25, 38, 751, 752, 597, 432, 433, 24, 434, 61, 62, 63, 64, 65, 66, 67, 68, 753, 603, 604, 605, 606, 418, 419, 420, 69, 421, 258, 259, 19, 260, 52, 422, 311, 312, 313, 314, 315, 316, 317, 305, 298, 299, 300, 318, 319, 320, 321, 322, 323, 324, 325, 326, 185, 186, 187, 188, 189, 190, 266, 2, 267, 327, 328, 329, 330, 54, 195, 196, 477, 436, 437, 438, 439, 274, 275, 276, 53, 265, 440, 441, 442, 443, 444, 445, 446, 447, 464, 465, 466, 467, 468, 469, 470, 471, 785, 786, 787, 788, 789, 790, 791, 792, 793, 794, 834, 835, 836, 837, 838, 839, 840, 841, 842, 825, 826, 827, 828, 829, 830, 831, 832, 833] (by decide +kernel) (by decide +kernel)
set_option maxRecDepth 20000 in
theorem gL_law_X5_drawn : GoodIn wsL_law (wsV RL 102 RX5 yX5_drawn wsX5_drawn) := goodIn_app (goodIn_of _ (by decide +kernel)) ggL_law_X5_drawn
set_option maxRecDepth 20000 in
theorem ggL_law_X6_drawn : GoodIn wsL_law wsX6_drawn := goodIn_r _ [757, 141, 758, 110, 111, 746, 759, 760, 144, 145, 5, 146, 567, 568, 569, 370, 371, 372, 373, 251, 106, 107, 363, 364, 365, 374, 375, 376, 377, 378, 379, 380, 381, 105, 382, 383, 384, 385, 123, 386, 387, 388, 219, 220, 221, 456, 457, 458, 459, 409, 410, 411, 412, 482, 483, 484, 795, 796, 797, 798, 799, 800, 801, 802, 803, 804, 805, 806, 807, 808, 809, 810, 811, 812, 813, 814, 815, 816, 817, 818, 819, 820, 821, 822] (by decide +kernel) (by decide +kernel)
set_option maxRecDepth 20000 in
theorem gL_law_X6_drawn : GoodIn wsL_law (wsV RL 105 RX6 yX6_drawn wsX6_drawn) := goodIn_app (goodIn_of _ (by decide +kernel)) ggL_law_X6_drawn
set_option maxRecDepth 20000 in
theorem ggL_law_X5_keep : GoodIn wsL_law wsX5_keep := goodIn_r _ [764, 31, 25, 33, 597, 432, 433, 24, 434, 61, 62, 63, 64, 65, 66, 67, 68, 785, 786, 787, 788, 789, 790, 791, 792, 793, 794, 834, 835, 836, 837, 838, 839, 840, 841, 842] (by decide +kernel) (by decide +kernel)
set_option maxRecDepth 20000 in
theorem gL_law_X5_keep : GoodIn wsL_law (wsV RL 106 RX5 yX5_keep wsX5_keep) := goodIn_app (goodIn_of _ (by decide +kernel)) ggL_law_X5_keep
set_option maxRecDepth 20000 in
theorem ggL_law_X6_keep : GoodIn wsL_law wsX6_keep := goodIn_r _ [768, 141, 114, 113, 110, 144, 145, 5, 146, 795, 796, 797, 798, 799, 800, 801, 802, 803, 804, 805, 806, 807, 808, 809, 810, 811, 812, 813, 814, 815, 816, 817, 818, 819, 820, 821, 822] (by decide +kernel) (by decide +kernel)
set_option maxRecDepth 20000 in
theorem gL_law_X6_keep : GoodIn wsL_law (wsV RL 109 RX6 yX6_keep wsX6_keep) := goodIn_app (goodIn_of _ (by decide +kernel)) ggL_law_X6_keep
set_option maxRecDepth 20000 in
theorem ggL_law_X5_again : GoodIn wsL_law wsX5_again := goodIn_r _ [772, 33, 25, 31, 30, 597, 432, 433, 24, 434, 61, 62, 63, 64, 65, 66, 67, 68, 243, 244, 245, 29, 246, 92, 785, 786, 787, 788, 789, 790, 791, 792, 793, 794, 834, 835, 836, 837, 838, 839, 840, 841, 842, 843, 844] (by decide +kernel) (by decide +kernel)
set_option maxRecDepth 20000 in
theorem gL_law_X5_again : GoodIn wsL_law (wsV RL 110 RX5 yX5_again wsX5_again) := goodIn_app (goodIn_of _ (by decide +kernel)) ggL_law_X5_again
set_option maxRecDepth 20000 in
theorem ggL_law_X6_again : GoodIn wsL_law wsX6_again := goodIn_r _ [776, 141, 114, 110, 113, 252, 144, 145, 5, 146, 795, 796, 797, 798, 799, 800, 801, 802, 803, 804, 805, 806, 807, 808, 809, 810, 811, 812, 813, 814, 815, 816, 817, 818, 819, 820, 821, 822] (by decide +kernel) (by decide +kernel)
set_option maxRecDepth 20000 in
theorem gL_law_X6_again : GoodIn wsL_law (wsV RL 113 RX6 yX6_again wsX6_again) := goodIn_app (goodIn_of _ (by decide +kernel)) ggL_law_X6_again
