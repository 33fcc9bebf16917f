set_option maxRecDepth 20000 in
theorem ggL_law_X5_fault : GoodIn wsL_law wsX5_fault := goodIn_r _ [162, 16, 21, 163, 164, 165, 15, 166, 44, 43, 167, 168, 169, 19, 170, 52, 54, 56, 171, 79, 80, 81, 172, 173, 174, 175, 48, 49, 50, 51, 176, 177, 178, 179, 180, 181, 182, 183, 55, 184, 185, 186, 187, 188, 189, 190, 191, 192, 193, 194, 53, 195, 2, 196, 197, 198, 199, 785, 786, 787, 788, 789, 790, 791, 792, 793, 794, 823, 824, 825, 826, 827, 828, 829, 830, 831, 832, 833] (by decide +kernel) (by decide +kernel)
set_option maxRecDepth 20000 in
theorem gL_law_X5_fault : GoodIn wsL_law (wsV RL 23 RX5 yX5_fault wsX5_fault) := goodIn_app (goodIn_of _ (by decide +kernel)) ggL_law_X5_fault
set_option maxRecDepth 20000 in
theorem ggL_law_X6_fault : GoodIn wsL_law wsX6_fault := goodIn_r _ [203, 141, 204, 205, 206, 5, 207, 208, 209, 143, 104, 210, 211, 212, 213, 214, 215, 216, 217, 218, 144, 145, 146, 219, 220, 221, 222, 223, 224, 225, 108, 109, 226, 227, 228, 229, 795, 796, 797, 798, 799, 800, 801, 802, 803, 804, 805, 806, 807, 808, 809, 810, 811, 812, 813, 814, 815, 816, 817, 818, 819, 820, 821, 822] (by decide +kernel) (by decide +kernel)
set_option maxRecDepth 20000 in
theorem gL_law_X6_fault : GoodIn wsL_law (wsV RL 26 RX6 yX6_fault wsX6_fault) := goodIn_app (goodIn_of _ (by decide +kernel)) ggL_law_X6_fault
set_option maxRecDepth 20000 in
theorem ggL_law_X5_net : GoodIn wsL_law wsX5_net := goodIn_r _ [233, 16, 21, 20, 25, 30, 33, 163, 164, 165, 15, 166, 44, 43, 167, 168, 169, 19, 170, 52, 54, 56, 171, 79, 80, 81, 172, 173, 174, 175, 48, 49, 50, 51, 176, 177, 178, 179, 180, 181, 182, 183, 55, 184, 185, 186, 187, 188, 189, 190, 191, 192, 193, 194, 53, 195, 2, 196, 197, 198, 199, 234, 235, 236, 237, 238, 239, 240, 241, 242, 71, 72, 24, 73, 74, 75, 76, 77, 63, 64, 61, 69, 62, 65, 66, 67, 68, 78, 82, 83, 84, 85, 243, 244, 245, 29, 246, 92, 785, 786, 787, 788, 789, 790, 791, 792, 793, 794, 825, 826, 827, 828, 829, 830, 831, 832, 833, 823, 824, 834, 835, 836, 837, 838, 839, 840, 841, 842, 843, 844] (by decide +kernel) (by decide +kernel)
set_option maxRecDepth 20000 in
theorem gL_law_X5_net : GoodIn wsL_law (wsV RL 27 RX5 yX5_net wsX5_net) := goodIn_app (goodIn_of _ (by decide +kernel)) ggL_law_X5_net
set_option maxRecDepth 20000 in
theorem ggL_law_X6_net : GoodIn wsL_law wsX6_net := goodIn_r _ [250, 141, 210, 105, 211, 123, 209, 251, 106, 108, 109, 107, 110, 212, 213, 252, 114, 204, 205, 206, 5, 207, 208, 143, 104, 214, 215, 216, 217, 218, 144, 145, 146, 219, 220, 221, 222, 223, 224, 225, 226, 227, 228, 229, 119, 120, 121, 122, 795, 796, 797, 798, 799, 800, 801, 802, 803, 804, 805, 806, 807, 808, 809, 810, 811, 812, 813, 814, 815, 816, 817, 818, 819, 820, 821, 822] (by decide +kernel) (by decide +kernel)
set_option maxRecDepth 20000 in
theorem gL_law_X6_net : GoodIn wsL_law (wsV RL 30 RX6 yX6_net wsX6_net) := goodIn_app (goodIn_of _ (by decide +kernel)) ggL_law_X6_net
set_option maxRecDepth 20000 in
theorem ggL_law_X5_edge : GoodIn wsL_law wsX5_edge := goodIn_r _ [256, 20, 25, 257, 258, 259, 19, 260, 52, 261, 262, 263, 264, 53, 265, 266, 2, 267, 268, 269, 270, 271, 272, 273, 274, 275, 276, 277, 278, 279, 24, 280, 66, 67, 195, 196, 281, 282, 283, 284, 63, 62, 785, 786, 787, 788, 789, 790, 791, 792, 793, 794, 825, 826, 827, 828, 829, 830, 831, 832, 833, 834, 835, 836, 837, 838, 839, 840, 841, 842] (by decide +kernel) (by decide +kernel)
set_option maxRecDepth 20000 in
theorem gL_law_X5_edge : GoodIn wsL_law (wsV RL 31 RX5 yX5_edge wsX5_edge) := goodIn_app (goodIn_of _ (by decide +kernel)) ggL_law_X5_edge
set_option maxRecDepth 20000 in
theorem ggL_law_X6_edge : GoodIn wsL_law wsX6_edge := goodIn_r _ [288, 141, 110, 106, 107, 289, 290, 291, 5, 292, 251, 144, 145, 146, 795, 796, 797, 798, 799, 800, 801, 802, 803, 804, 805, 806, 807, 808, 809, 810, 811, 812, 813, 814, 815, 816, 817, 818, 819, 820, 821, 822] (by decide +kernel) (by decide +kernel)
set_option maxRecDepth 20000 in
theorem gL_law_X6_edge : GoodIn wsL_law (wsV RL 35 RX6 yX6_edge wsX6_edge) := goodIn_app (goodIn_of _ (by decide +kernel)) ggL_law_X6_edge
