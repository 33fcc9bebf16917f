set_option maxRecDepth 20000 in
theorem ggL_law_X5_see : GoodIn wsL_law wsX5_see := goodIn_r _ [634, 37, 635, 636, 2, 637, 638, 639, 640, 36, 641, 99, 97, 98, 785, 786, 787, 788, 789, 790, 791, 792, 793, 794, 845, 846, 847] (by decide +kernel) (by decide +kernel)
set_option maxRecDepth 20000 in
theorem gL_law_X5_see : GoodIn wsL_law (wsV RL 75 RX5 yX5_see wsX5_see) := goodIn_app (goodIn_of _ (by decide +kernel)) ggL_law_X5_see
set_option maxRecDepth 20000 in
theorem ggL_law_X6_see : GoodIn wsL_law wsX6_see := goodIn_r _ [645, 141, 646, 622, 647, 115, 116, 144, 145, 5, 146, 795, 796, 797, 798, 799, 800, 801, 802, 803, 804, 805, 806, 807, 808, 809, 810, 811, 812, 813, 814, 815, 816, 817, 818, 819, 820, 821, 822] (by decide +kernel) (by decide +kernel)
set_option maxRecDepth 20000 in
theorem gL_law_X6_see : GoodIn wsL_law (wsV RL 78 RX6 yX6_see wsX6_see) := goodIn_app (goodIn_of _ (by decide +kernel)) ggL_law_X6_see
set_option maxRecDepth 20000 in
theorem ggL_law_X5_unsee : GoodIn wsL_law wsX5_unsee := goodIn_r _ [651, 37, 652, 653, 654, 36, 655, 99, 785, 786, 787, 788, 789, 790, 791, 792, 793, 794, 845, 846, 847] (by decide +kernel) (by decide +kernel)
set_option maxRecDepth 20000 in
theorem gL_law_X5_unsee : GoodIn wsL_law (wsV RL 79 RX5 yX5_unsee wsX5_unsee) := goodIn_app (goodIn_of _ (by decide +kernel)) ggL_law_X5_unsee
set_option maxRecDepth 20000 in
theorem ggL_law_X6_unsee : GoodIn wsL_law wsX6_unsee := goodIn_r _ [659, 141, 647, 795, 796, 797, 798, 799, 800, 801, 802, 803, 804, 805, 806, 807, 808, 809, 810, 811, 812, 813, 814, 815, 816, 817, 818, 819, 820, 821, 822] (by decide +kernel) (by decide +kernel)
set_option maxRecDepth 20000 in
theorem gL_law_X6_unsee : GoodIn wsL_law (wsV RL 82 RX6 yX6_unsee wsX6_unsee) := goodIn_app (goodIn_of _ (by decide +kernel)) ggL_law_X6_unsee
set_option maxRecDepth 20000 in
theorem ggL_law_X5_which : GoodIn wsL_law wsX5_which := goodIn_r _ [663, 25, 506, 507, 508, 24, 509, 63, 61, 322, 323, 324, 325, 69, 68, 510, 195, 2, 196, 664, 665, 666, 667, 37, 26, 545, 546, 547, 548, 64, 549, 432, 433, 434, 62, 65, 66, 67, 668, 669, 670, 36, 671, 99, 97, 672, 673, 76, 674, 472, 473, 474, 475, 476, 332, 333, 334, 314, 315, 316, 317, 305, 298, 299, 300, 318, 319, 320, 321, 326, 185, 186, 187, 188, 189, 190, 327, 328, 329, 19, 330, 54, 266, 267, 335, 336, 337, 338, 339, 340, 341, 342, 52, 53, 343, 344, 345, 346, 347, 348, 349, 350, 351, 352, 353, 354, 477, 436, 437, 438, 439, 274, 275, 276, 265, 258, 259, 260, 440, 441, 442, 443, 444, 445, 446, 447, 464, 465, 466, 467, 468, 469, 470, 471, 675, 676, 677, 678, 98, 785, 786, 787, 788, 789, 790, 791, 792, 793, 794, 834, 835, 836, 837, 838, 839, 840, 841, 842, 825, 826, 827, 828, 829, 830, 831, 832, 833, 845, 846, 847] (by decide +kernel) (by decide +kernel)
set_option maxRecDepth 20000 in
theorem gL_law_X5_which : GoodIn wsL_law (wsV RL 83 RX5 yX5_which wsX5_which) := goodIn_app (goodIn_of _ (by decide +kernel)) ggL_law_X5_which
set_option maxRecDepth 20000 in
theorem ggL_law_X6_which : GoodIn wsL_law wsX6_which := goodIn_r _ [682, 141, 105, 110, 647, 115, 116, 519, 520, 521, 5, 522, 378, 379, 380, 381, 382, 383, 384, 385, 123, 251, 106, 107, 219, 220, 221, 683, 684, 685, 686, 111, 567, 568, 569, 485, 486, 487, 488, 118, 389, 390, 391, 392, 363, 364, 365, 393, 394, 395, 396, 386, 387, 388, 397, 398, 399, 400, 374, 375, 376, 377, 401, 402, 403, 404, 117, 405, 406, 407, 408, 409, 410, 411, 412, 456, 457, 458, 459, 482, 483, 484, 795, 796, 797, 798, 799, 800, 801, 802, 803, 804, 805, 806, 807, 808, 809, 810, 811, 812, 813, 814, 815, 816, 817, 818, 819, 820, 821, 822] (by decide +kernel) (by decide +kernel)
set_option maxRecDepth 20000 in
theorem gL_law_X6_which : GoodIn wsL_law (wsV RL 86 RX6 yX6_which wsX6_which) := goodIn_app (goodIn_of _ (by decide +kernel)) ggL_law_X6_which
