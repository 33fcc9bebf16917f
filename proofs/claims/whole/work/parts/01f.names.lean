theorem dX6_readEdge_111 : decode cX6_readEdge 111 = .ok (.getfield 23, 3) := by decide +kernel
theorem dX6_readEdge_114 : decode cX6_readEdge 114 = .ok (.aload_n 0, 1) := by decide +kernel
theorem dX6_readEdge_115 : decode cX6_readEdge 115 = .ok (.getfield 137, 3) := by decide +kernel
theorem dX6_readEdge_118 : decode cX6_readEdge 118 = .ok (.iload_n 2, 1) := by decide +kernel
theorem dX6_readEdge_119 : decode cX6_readEdge 119 = .ok (.iastore, 1) := by decide +kernel
theorem dX6_readEdge_120 : decode cX6_readEdge 120 = .ok (.aload_n 0, 1) := by decide +kernel
theorem dX6_readEdge_121 : decode cX6_readEdge 121 = .ok (.getfield 26, 3) := by decide +kernel
theorem dX6_readEdge_124 : decode cX6_readEdge 124 = .ok (.aload_n 0, 1) := by decide +kernel
theorem dX6_readEdge_125 : decode cX6_readEdge 125 = .ok (.getfield 137, 3) := by decide +kernel
theorem dX6_readEdge_128 : decode cX6_readEdge 128 = .ok (.iload_n 3, 1) := by decide +kernel
theorem dX6_readEdge_129 : decode cX6_readEdge 129 = .ok (.iastore, 1) := by decide +kernel
theorem dX6_readEdge_130 : decode cX6_readEdge 130 = .ok (.aload_n 0, 1) := by decide +kernel
theorem dX6_readEdge_131 : decode cX6_readEdge 131 = .ok (.dup, 1) := by decide +kernel
theorem dX6_readEdge_132 : decode cX6_readEdge 132 = .ok (.getfield 137, 3) := by decide +kernel
theorem dX6_readEdge_135 : decode cX6_readEdge 135 = .ok (.iconst 1, 1) := by decide +kernel
theorem dX6_readEdge_136 : decode cX6_readEdge 136 = .ok (.iadd, 1) := by decide +kernel
theorem dX6_readEdge_137 : decode cX6_readEdge 137 = .ok (.putfield 137, 3) := by decide +kernel
theorem dX6_readEdge_140 : decode cX6_readEdge 140 = .ok (.iconst 1, 1) := by decide +kernel
theorem dX6_readEdge_141 : decode cX6_readEdge 141 = .ok (.ireturn, 1) := by decide +kernel
set_option maxRecDepth 20000 in
theorem ggX6_readNet_X6_figure : GoodIn wsX6_readNet wsX6_figure := goodIn_r _ [13, 1, 3, 4, 14, 15, 16, 12, 17, 18, 19, 20, 31, 32, 33, 34, 35, 36, 37, 38, 39, 40, 41, 42, 43, 44, 45, 46, 47, 48, 49, 50, 51, 52, 53, 54, 55, 56, 57, 58] (by decide +kernel) (by decide +kernel)
set_option maxRecDepth 20000 in
theorem gX6_readNet_X6_figure : GoodIn wsX6_readNet (wsV RX6 143 RX6 yX6_figure wsX6_figure) := goodIn_app (goodIn_of _ (by decide +kernel)) ggX6_readNet_X6_figure
set_option maxRecDepth 20000 in
theorem ggX6_readNet_X6_readEdge : GoodIn wsX6_readNet wsX6_readEdge := goodIn_r _ [24, 5, 4, 1, 2, 25, 26, 27, 28, 29, 12, 30, 9, 10, 11, 13, 3, 14, 15, 16, 17, 18, 19, 20, 31, 32, 33, 34, 35, 36, 37, 38, 39, 40, 41, 42, 43, 44, 45, 46, 47, 48, 49, 50, 51, 52, 53, 54, 55, 56, 57, 58] (by decide +kernel) (by decide +kernel)
set_option maxRecDepth 20000 in
theorem gX6_readNet_X6_readEdge : GoodIn wsX6_readNet (wsV RX6 155 RX6 yX6_readEdge wsX6_readEdge) := goodIn_app (goodIn_of _ (by decide +kernel)) ggX6_readNet_X6_readEdge
theorem dX6_readNet_0 : decode cX6_readNet 0 = .ok (.aload_n 0, 1) := by decide +kernel
theorem dX6_readNet_1 : decode cX6_readNet 1 = .ok (.iconst 0, 1) := by decide +kernel
theorem dX6_readNet_2 : decode cX6_readNet 2 = .ok (.putfield 129, 3) := by decide +kernel
theorem dX6_readNet_5 : decode cX6_readNet 5 = .ok (.aload_n 0, 1) := by decide +kernel
theorem dX6_readNet_6 : decode cX6_readNet 6 = .ok (.iconst 0, 1) := by decide +kernel
theorem dX6_readNet_7 : decode cX6_readNet 7 = .ok (.putfield 137, 3) := by decide +kernel
theorem dX6_readNet_10 : decode cX6_readNet 10 = .ok (.aload_n 0, 1) := by decide +kernel
theorem dX6_readNet_11 : decode cX6_readNet 11 = .ok (.getfield 126, 3) := by decide +kernel
theorem dX6_readNet_14 : decode cX6_readNet 14 = .ok (.ifCond .eq 14, 3) := by decide +kernel
theorem dX6_readNet_17 : decode cX6_readNet 17 = .ok (.aload_n 0, 1) := by decide +kernel
theorem dX6_readNet_18 : decode cX6_readNet 18 = .ok (.getfield 7, 3) := by decide +kernel
theorem dX6_readNet_21 : decode cX6_readNet 21 = .ok (.iconst 0, 1) := by decide +kernel
theorem dX6_readNet_22 : decode cX6_readNet 22 = .ok (.iaload, 1) := by decide +kernel
theorem dX6_readNet_23 : decode cX6_readNet 23 = .ok (.bipush 78, 2) := by decide +kernel
theorem dX6_readNet_25 : decode cX6_readNet 25 = .ok (.if_icmp .eq 5, 3) := by decide +kernel
theorem dX6_readNet_28 : decode cX6_readNet 28 = .ok (.iconst 0, 1) := by decide +kernel
theorem dX6_readNet_29 : decode cX6_readNet 29 = .ok (.ireturn, 1) := by decide +kernel
theorem dX6_readNet_30 : decode cX6_readNet 30 = .ok (.aload_n 0, 1) := by decide +kernel
theorem dX6_readNet_31 : decode cX6_readNet 31 = .ok (.iconst 1, 1) := by decide +kernel
theorem dX6_readNet_32 : decode cX6_readNet 32 = .ok (.putfield 129, 3) := by decide +kernel
theorem dX6_readNet_35 : decode cX6_readNet 35 = .ok (.aload_n 0, 1) := by decide +kernel
theorem dX6_readNet_36 : decode cX6_readNet 36 = .ok (.aload_n 0, 1) := by decide +kernel
theorem dX6_readNet_37 : decode cX6_readNet 37 = .ok (.sipush 508, 3) := by decide +kernel
theorem dX6_readNet_40 : decode cX6_readNet 40 = .ok (.invokevirtual 143, 3) := by decide +kernel
theorem dX6_readNet_43 : decode cX6_readNet 43 = .ok (.putfield 134, 3) := by decide +kernel
theorem dX6_readNet_46 : decode cX6_readNet 46 = .ok (.aload_n 0, 1) := by decide +kernel
theorem dX6_readNet_47 : decode cX6_readNet 47 = .ok (.aload_n 0, 1) := by decide +kernel
theorem dX6_readNet_48 : decode cX6_readNet 48 = .ok (.getfield 134, 3) := by decide +kernel
theorem dX6_readNet_51 : decode cX6_readNet 51 = .ok (.bipush (-9), 2) := by decide +kernel
theorem dX6_readNet_53 : decode cX6_readNet 53 = .ok (.if_icmp .ne 8, 3) := by decide +kernel
theorem dX6_readNet_56 : decode cX6_readNet 56 = .ok (.bipush (-9), 2) := by decide +kernel
theorem dX6_readNet_58 : decode cX6_readNet 58 = .ok (.goto 15, 3) := by decide +kernel
theorem dX6_readNet_61 : decode cX6_readNet 61 = .ok (.aload_n 0, 1) := by decide +kernel
theorem dX6_readNet_62 : decode cX6_readNet 62 = .ok (.iconst 1, 1) := by decide +kernel
theorem dX6_readNet_63 : decode cX6_readNet 63 = .ok (.aload_n 0, 1) := by decide +kernel
theorem dX6_readNet_64 : decode cX6_readNet 64 = .ok (.getfield 134, 3) := by decide +kernel
theorem dX6_readNet_67 : decode cX6_readNet 67 = .ok (.ishl, 1) := by decide +kernel
theorem dX6_readNet_68 : decode cX6_readNet 68 = .ok (.iconst 1, 1) := by decide +kernel
theorem dX6_readNet_69 : decode cX6_readNet 69 = .ok (.isub, 1) := by decide +kernel
theorem dX6_readNet_70 : decode cX6_readNet 70 = .ok (.invokevirtual 143, 3) := by decide +kernel
theorem dX6_readNet_73 : decode cX6_readNet 73 = .ok (.putfield 146, 3) := by decide +kernel
theorem dX6_readNet_76 : decode cX6_readNet 76 = .ok (.aload_n 0, 1) := by decide +kernel
theorem dX6_readNet_77 : decode cX6_readNet 77 = .ok (.aload_n 0, 1) := by decide +kernel
theorem dX6_readNet_78 : decode cX6_readNet 78 = .ok (.getfield 146, 3) := by decide +kernel
theorem dX6_readNet_81 : decode cX6_readNet 81 = .ok (.bipush (-9), 2) := by decide +kernel
theorem dX6_readNet_83 : decode cX6_readNet 83 = .ok (.if_icmp .ne 8, 3) := by decide +kernel
theorem dX6_readNet_86 : decode cX6_readNet 86 = .ok (.bipush (-9), 2) := by decide +kernel
theorem dX6_readNet_88 : decode cX6_readNet 88 = .ok (.goto 24, 3) := by decide +kernel
theorem dX6_readNet_91 : decode cX6_readNet 91 = .ok (.aload_n 0, 1) := by decide +kernel
theorem dX6_readNet_92 : decode cX6_readNet 92 = .ok (.iconst 1, 1) := by decide +kernel
theorem dX6_readNet_93 : decode cX6_readNet 93 = .ok (.aload_n 0, 1) := by decide +kernel
theorem dX6_readNet_94 : decode cX6_readNet 94 = .ok (.getfield 134, 3) := by decide +kernel
theorem dX6_readNet_97 : decode cX6_readNet 97 = .ok (.ishl, 1) := by decide +kernel
theorem dX6_readNet_98 : decode cX6_readNet 98 = .ok (.iconst 1, 1) := by decide +kernel
theorem dX6_readNet_99 : decode cX6_readNet 99 = .ok (.isub, 1) := by decide +kernel
theorem dX6_readNet_100 : decode cX6_readNet 100 = .ok (.iconst 1, 1) := by decide +kernel
theorem dX6_readNet_101 : decode cX6_readNet 101 = .ok (.aload_n 0, 1) := by decide +kernel
theorem dX6_readNet_102 : decode cX6_readNet 102 = .ok (.getfield 146, 3) := by decide +kernel
theorem dX6_readNet_105 : decode cX6_readNet 105 = .ok (.ishl, 1) := by decide +kernel
theorem dX6_readNet_106 : decode cX6_readNet 106 = .ok (.iconst (-1), 1) := by decide +kernel
theorem dX6_readNet_107 : decode cX6_readNet 107 = .ok (.ixor, 1) := by decide +kernel
theorem dX6_readNet_108 : decode cX6_readNet 108 = .ok (.iand, 1) := by decide +kernel
theorem dX6_readNet_109 : decode cX6_readNet 109 = .ok (.invokevirtual 143, 3) := by decide +kernel
theorem dX6_readNet_112 : decode cX6_readNet 112 = .ok (.putfield 149, 3) := by decide +kernel
theorem dX6_readNet_115 : decode cX6_readNet 115 = .ok (.aload_n 0, 1) := by decide +kernel
theorem dX6_readNet_116 : decode cX6_readNet 116 = .ok (.aload_n 0, 1) := by decide +kernel
theorem dX6_readNet_117 : decode cX6_readNet 117 = .ok (.getfield 149, 3) := by decide +kernel
theorem dX6_readNet_120 : decode cX6_readNet 120 = .ok (.bipush (-9), 2) := by decide +kernel
theorem dX6_readNet_122 : decode cX6_readNet 122 = .ok (.if_icmp .ne 8, 3) := by decide +kernel
theorem dX6_readNet_125 : decode cX6_readNet 125 = .ok (.bipush (-9), 2) := by decide +kernel
theorem dX6_readNet_127 : decode cX6_readNet 127 = .ok (.goto 9, 3) := by decide +kernel
theorem dX6_readNet_130 : decode cX6_readNet 130 = .ok (.aload_n 0, 1) := by decide +kernel
theorem dX6_readNet_131 : decode cX6_readNet 131 = .ok (.bipush 30, 2) := by decide +kernel
theorem dX6_readNet_133 : decode cX6_readNet 133 = .ok (.invokevirtual 143, 3) := by decide +kernel
theorem dX6_readNet_136 : decode cX6_readNet 136 = .ok (.putfield 152, 3) := by decide +kernel
theorem dX6_readNet_139 : decode cX6_readNet 139 = .ok (.aload_n 0, 1) := by decide +kernel
theorem dX6_readNet_140 : decode cX6_readNet 140 = .ok (.getfield 152, 3) := by decide +kernel
theorem dX6_readNet_143 : decode cX6_readNet 143 = .ok (.bipush (-9), 2) := by decide +kernel
theorem dX6_readNet_145 : decode cX6_readNet 145 = .ok (.if_icmp .ne 8, 3) := by decide +kernel
theorem dX6_readNet_148 : decode cX6_readNet 148 = .ok (.aload_n 0, 1) := by decide +kernel
theorem dX6_readNet_149 : decode cX6_readNet 149 = .ok (.getfield 129, 3) := by decide +kernel
theorem dX6_readNet_152 : decode cX6_readNet 152 = .ok (.ireturn, 1) := by decide +kernel
theorem dX6_readNet_153 : decode cX6_readNet 153 = .ok (.aload_n 0, 1) := by decide +kernel
theorem dX6_readNet_154 : decode cX6_readNet 154 = .ok (.getfield 129, 3) := by decide +kernel
theorem dX6_readNet_157 : decode cX6_readNet 157 = .ok (.aload_n 0, 1) := by decide +kernel
theorem dX6_readNet_158 : decode cX6_readNet 158 = .ok (.getfield 126, 3) := by decide +kernel
theorem dX6_readNet_161 : decode cX6_readNet 161 = .ok (.if_icmp .ge 15, 3) := by decide +kernel
theorem dX6_readNet_164 : decode cX6_readNet 164 = .ok (.aload_n 0, 1) := by decide +kernel
theorem dX6_readNet_165 : decode cX6_readNet 165 = .ok (.invokevirtual 155, 3) := by decide +kernel
theorem dX6_readNet_168 : decode cX6_readNet 168 = .ok (.ifCond .ne (-15), 3) := by decide +kernel
theorem dX6_readNet_171 : decode cX6_readNet 171 = .ok (.aload_n 0, 1) := by decide +kernel
theorem dX6_readNet_172 : decode cX6_readNet 172 = .ok (.getfield 129, 3) := by decide +kernel
theorem dX6_readNet_175 : decode cX6_readNet 175 = .ok (.ireturn, 1) := by decide +kernel
theorem dX6_readNet_176 : decode cX6_readNet 176 = .ok (.bipush (-9), 2) := by decide +kernel
theorem dX6_readNet_178 : decode cX6_readNet 178 = .ok (.ireturn, 1) := by decide +kernel
set_option maxRecDepth 20000 in
theorem ggX6_fault_X6_readNet : GoodIn wsX6_fault wsX6_readNet := goodIn_r _ [6, 7, 8, 9, 10, 11, 12, 13, 14, 15, 16, 17, 5, 18, 19, 20, 21, 22, 23, 24, 25, 26, 27, 28, 29, 30, 31, 32, 33, 34, 35, 36, 37, 38, 39, 40, 41, 42, 43, 44, 45, 46, 47, 48, 49, 50, 51, 52, 53, 54, 55, 56, 57, 58, 59, 60, 61, 62, 63] (by decide +kernel) (by decide +kernel)
set_option maxRecDepth 20000 in
theorem gX6_fault_X6_readNet : GoodIn wsX6_fault (wsV RX6 159 RX6 yX6_readNet wsX6_readNet) := goodIn_app (goodIn_of _ (by decide +kernel)) ggX6_fault_X6_readNet
theorem dX6_fault_0 : decode cX6_fault 0 = .ok (.aload_n 0, 1) := by decide +kernel
theorem dX6_fault_1 : decode cX6_fault 1 = .ok (.iconst 0, 1) := by decide +kernel
theorem dX6_fault_2 : decode cX6_fault 2 = .ok (.putfield 61, 3) := by decide +kernel
theorem dX6_fault_5 : decode cX6_fault 5 = .ok (.aload_n 0, 1) := by decide +kernel
theorem dX6_fault_6 : decode cX6_fault 6 = .ok (.invokevirtual 159, 3) := by decide +kernel
theorem dX6_fault_9 : decode cX6_fault 9 = .ok (.ireturn, 1) := by decide +kernel
set_option maxRecDepth 20000 in
theorem ggX6_net_X6_readNet : GoodIn wsX6_net wsX6_readNet := goodIn_r _ [21, 22, 6, 23, 24, 2, 4, 13, 14, 25, 26, 27, 20, 28, 29, 30, 31, 32, 33, 34, 35, 36, 37, 38, 39, 9, 10, 40, 41, 42, 43, 48, 49, 50, 51, 52, 53, 54, 55, 56, 57, 58, 59, 60, 61, 62, 63, 64, 65, 66, 67, 68, 69, 70, 71, 72, 73, 74, 75] (by decide +kernel) (by decide +kernel)
set_option maxRecDepth 20000 in
theorem gX6_net_X6_readNet : GoodIn wsX6_net (wsV RX6 159 RX6 yX6_readNet wsX6_readNet) := goodIn_app (goodIn_of _ (by decide +kernel)) ggX6_net_X6_readNet
set_option maxRecDepth 20000 in
theorem ggX6_net_X6_layFirst : GoodIn wsX6_net wsX6_layFirst := goodIn_r _ [47, 5, 48, 49, 50, 51, 52, 53, 54, 55, 56, 57, 58, 59, 60, 61, 62, 63, 64, 65, 66, 67, 68, 69, 70, 71, 72, 73, 74, 75] (by decide +kernel) (by decide +kernel)
set_option maxRecDepth 20000 in
theorem gX6_net_X6_layFirst : GoodIn wsX6_net (wsV RX6 57 RX6 yX6_layFirst wsX6_layFirst) := goodIn_app (goodIn_of _ (by decide +kernel)) ggX6_net_X6_layFirst
theorem dX6_net_0 : decode cX6_net 0 = .ok (.aload_n 0, 1) := by decide +kernel
theorem dX6_net_1 : decode cX6_net 1 = .ok (.iconst 0, 1) := by decide +kernel
theorem dX6_net_2 : decode cX6_net 2 = .ok (.putfield 61, 3) := by decide +kernel
theorem dX6_net_5 : decode cX6_net 5 = .ok (.aload_n 0, 1) := by decide +kernel
theorem dX6_net_6 : decode cX6_net 6 = .ok (.invokevirtual 159, 3) := by decide +kernel
theorem dX6_net_9 : decode cX6_net 9 = .ok (.bipush (-9), 2) := by decide +kernel
theorem dX6_net_11 : decode cX6_net 11 = .ok (.if_icmp .eq 6, 3) := by decide +kernel
theorem dX6_net_14 : decode cX6_net 14 = .ok (.bipush (-3), 2) := by decide +kernel
theorem dX6_net_16 : decode cX6_net 16 = .ok (.ireturn, 1) := by decide +kernel
theorem dX6_net_17 : decode cX6_net 17 = .ok (.aload_n 0, 1) := by decide +kernel
theorem dX6_net_18 : decode cX6_net 18 = .ok (.aload_n 0, 1) := by decide +kernel
theorem dX6_net_19 : decode cX6_net 19 = .ok (.getfield 134, 3) := by decide +kernel
theorem dX6_net_22 : decode cX6_net 22 = .ok (.putfield 13, 3) := by decide +kernel
theorem dX6_net_25 : decode cX6_net 25 = .ok (.aload_n 0, 1) := by decide +kernel
theorem dX6_net_26 : decode cX6_net 26 = .ok (.aload_n 0, 1) := by decide +kernel
theorem dX6_net_27 : decode cX6_net 27 = .ok (.getfield 146, 3) := by decide +kernel
theorem dX6_net_30 : decode cX6_net 30 = .ok (.putfield 64, 3) := by decide +kernel
theorem dX6_net_33 : decode cX6_net 33 = .ok (.aload_n 0, 1) := by decide +kernel
theorem dX6_net_34 : decode cX6_net 34 = .ok (.aload_n 0, 1) := by decide +kernel
theorem dX6_net_35 : decode cX6_net 35 = .ok (.getfield 137, 3) := by decide +kernel
theorem dX6_net_38 : decode cX6_net 38 = .ok (.putfield 71, 3) := by decide +kernel
theorem dX6_net_41 : decode cX6_net 41 = .ok (.iconst 0, 1) := by decide +kernel
theorem dX6_net_42 : decode cX6_net 42 = .ok (.istore_n 1, 1) := by decide +kernel
theorem dX6_net_43 : decode cX6_net 43 = .ok (.iload_n 1, 1) := by decide +kernel
theorem dX6_net_44 : decode cX6_net 44 = .ok (.aload_n 0, 1) := by decide +kernel
theorem dX6_net_45 : decode cX6_net 45 = .ok (.getfield 71, 3) := by decide +kernel
theorem dX6_net_48 : decode cX6_net 48 = .ok (.if_icmp .ge 81, 3) := by decide +kernel
theorem dX6_net_51 : decode cX6_net 51 = .ok (.aload_n 0, 1) := by decide +kernel
theorem dX6_net_52 : decode cX6_net 52 = .ok (.getfield 17, 3) := by decide +kernel
theorem dX6_net_55 : decode cX6_net 55 = .ok (.iload_n 1, 1) := by decide +kernel
theorem dX6_net_56 : decode cX6_net 56 = .ok (.aload_n 0, 1) := by decide +kernel
theorem dX6_net_57 : decode cX6_net 57 = .ok (.getfield 23, 3) := by decide +kernel
theorem dX6_net_60 : decode cX6_net 60 = .ok (.iload_n 1, 1) := by decide +kernel
theorem dX6_net_61 : decode cX6_net 61 = .ok (.iaload, 1) := by decide +kernel
theorem dX6_net_62 : decode cX6_net 62 = .ok (.aload_n 0, 1) := by decide +kernel
theorem dX6_net_63 : decode cX6_net 63 = .ok (.getfield 26, 3) := by decide +kernel
theorem dX6_net_66 : decode cX6_net 66 = .ok (.iload_n 1, 1) := by decide +kernel
theorem dX6_net_67 : decode cX6_net 67 = .ok (.iaload, 1) := by decide +kernel
theorem dX6_net_68 : decode cX6_net 68 = .ok (.if_icmp .ge 12, 3) := by decide +kernel
theorem dX6_net_71 : decode cX6_net 71 = .ok (.aload_n 0, 1) := by decide +kernel
theorem dX6_net_72 : decode cX6_net 72 = .ok (.getfield 23, 3) := by decide +kernel
theorem dX6_net_75 : decode cX6_net 75 = .ok (.iload_n 1, 1) := by decide +kernel
theorem dX6_net_76 : decode cX6_net 76 = .ok (.iaload, 1) := by decide +kernel
theorem dX6_net_77 : decode cX6_net 77 = .ok (.goto 9, 3) := by decide +kernel
theorem dX6_net_80 : decode cX6_net 80 = .ok (.aload_n 0, 1) := by decide +kernel
theorem dX6_net_81 : decode cX6_net 81 = .ok (.getfield 26, 3) := by decide +kernel
theorem dX6_net_84 : decode cX6_net 84 = .ok (.iload_n 1, 1) := by decide +kernel
theorem dX6_net_85 : decode cX6_net 85 = .ok (.iaload, 1) := by decide +kernel
theorem dX6_net_86 : decode cX6_net 86 = .ok (.iastore, 1) := by decide +kernel
theorem dX6_net_87 : decode cX6_net 87 = .ok (.aload_n 0, 1) := by decide +kernel
theorem dX6_net_88 : decode cX6_net 88 = .ok (.getfield 20, 3) := by decide +kernel
theorem dX6_net_91 : decode cX6_net 91 = .ok (.iload_n 1, 1) := by decide +kernel
theorem dX6_net_92 : decode cX6_net 92 = .ok (.aload_n 0, 1) := by decide +kernel
theorem dX6_net_93 : decode cX6_net 93 = .ok (.getfield 23, 3) := by decide +kernel
theorem dX6_net_96 : decode cX6_net 96 = .ok (.iload_n 1, 1) := by decide +kernel
theorem dX6_net_97 : decode cX6_net 97 = .ok (.iaload, 1) := by decide +kernel
theorem dX6_net_98 : decode cX6_net 98 = .ok (.aload_n 0, 1) := by decide +kernel
theorem dX6_net_99 : decode cX6_net 99 = .ok (.getfield 26, 3) := by decide +kernel
theorem dX6_net_102 : decode cX6_net 102 = .ok (.iload_n 1, 1) := by decide +kernel
theorem dX6_net_103 : decode cX6_net 103 = .ok (.iaload, 1) := by decide +kernel
theorem dX6_net_104 : decode cX6_net 104 = .ok (.if_icmp .ge 12, 3) := by decide +kernel
theorem dX6_net_107 : decode cX6_net 107 = .ok (.aload_n 0, 1) := by decide +kernel
theorem dX6_net_108 : decode cX6_net 108 = .ok (.getfield 26, 3) := by decide +kernel
theorem dX6_net_111 : decode cX6_net 111 = .ok (.iload_n 1, 1) := by decide +kernel
theorem dX6_net_112 : decode cX6_net 112 = .ok (.iaload, 1) := by decide +kernel
theorem dX6_net_113 : decode cX6_net 113 = .ok (.goto 9, 3) := by decide +kernel
theorem dX6_net_116 : decode cX6_net 116 = .ok (.aload_n 0, 1) := by decide +kernel
theorem dX6_net_117 : decode cX6_net 117 = .ok (.getfield 23, 3) := by decide +kernel
theorem dX6_net_120 : decode cX6_net 120 = .ok (.iload_n 1, 1) := by decide +kernel
theorem dX6_net_121 : decode cX6_net 121 = .ok (.iaload, 1) := by decide +kernel
theorem dX6_net_122 : decode cX6_net 122 = .ok (.iastore, 1) := by decide +kernel
theorem dX6_net_123 : decode cX6_net 123 = .ok (.iinc 1 1, 3) := by decide +kernel
theorem dX6_net_126 : decode cX6_net 126 = .ok (.goto (-83), 3) := by decide +kernel
theorem dX6_net_129 : decode cX6_net 129 = .ok (.aload_n 0, 1) := by decide +kernel
theorem dX6_net_130 : decode cX6_net 130 = .ok (.aload_n 0, 1) := by decide +kernel
theorem dX6_net_131 : decode cX6_net 131 = .ok (.getfield 29, 3) := by decide +kernel
theorem dX6_net_134 : decode cX6_net 134 = .ok (.aload_n 0, 1) := by decide +kernel
theorem dX6_net_135 : decode cX6_net 135 = .ok (.getfield 149, 3) := by decide +kernel
theorem dX6_net_138 : decode cX6_net 138 = .ok (.aload_n 0, 1) := by decide +kernel
theorem dX6_net_139 : decode cX6_net 139 = .ok (.getfield 152, 3) := by decide +kernel
theorem dX6_net_142 : decode cX6_net 142 = .ok (.invokevirtual 57, 3) := by decide +kernel
theorem dX6_net_145 : decode cX6_net 145 = .ok (.aload_n 0, 1) := by decide +kernel
theorem dX6_net_146 : decode cX6_net 146 = .ok (.iconst 0, 1) := by decide +kernel
theorem dX6_net_147 : decode cX6_net 147 = .ok (.putfield 163, 3) := by decide +kernel
theorem dX6_net_150 : decode cX6_net 150 = .ok (.aload_n 0, 1) := by decide +kernel
theorem dX6_net_151 : decode cX6_net 151 = .ok (.getfield 41, 3) := by decide +kernel
theorem dX6_net_154 : decode cX6_net 154 = .ok (.iconst 0, 1) := by decide +kernel
theorem dX6_net_155 : decode cX6_net 155 = .ok (.iconst 0, 1) := by decide +kernel
theorem dX6_net_156 : decode cX6_net 156 = .ok (.bastore, 1) := by decide +kernel
theorem dX6_net_157 : decode cX6_net 157 = .ok (.aload_n 0, 1) := by decide +kernel
theorem dX6_net_158 : decode cX6_net 158 = .ok (.getfield 41, 3) := by decide +kernel
theorem dX6_net_161 : decode cX6_net 161 = .ok (.iconst 1, 1) := by decide +kernel
theorem dX6_net_162 : decode cX6_net 162 = .ok (.iconst 0, 1) := by decide +kernel
theorem dX6_net_163 : decode cX6_net 163 = .ok (.bastore, 1) := by decide +kernel
theorem dX6_net_164 : decode cX6_net 164 = .ok (.aload_n 0, 1) := by decide +kernel
theorem dX6_net_165 : decode cX6_net 165 = .ok (.getfield 71, 3) := by decide +kernel
theorem dX6_net_168 : decode cX6_net 168 = .ok (.ireturn, 1) := by decide +kernel
set_option maxRecDepth 20000 in
theorem ggX6_edge_X6_noEdge : GoodIn wsX6_edge wsX6_noEdge := goodIn_r _ [9, 10, 11, 12, 8, 13, 14, 15, 16, 17, 18, 19, 20, 21, 22, 23, 24, 25, 26, 27, 28, 29, 30, 31, 32, 33, 34, 35, 36, 37, 38, 39, 40, 41] (by decide +kernel) (by decide +kernel)
set_option maxRecDepth 20000 in
theorem gX6_edge_X6_noEdge : GoodIn wsX6_edge (wsV RX6 166 RX6 yX6_noEdge wsX6_noEdge) := goodIn_app (goodIn_of _ (by decide +kernel)) ggX6_edge_X6_noEdge
theorem dX6_edge_0 : decode cX6_edge 0 = .ok (.aload_n 0, 1) := by decide +kernel
theorem dX6_edge_1 : decode cX6_edge 1 = .ok (.iconst 0, 1) := by decide +kernel
theorem dX6_edge_2 : decode cX6_edge 2 = .ok (.putfield 61, 3) := by decide +kernel
theorem dX6_edge_5 : decode cX6_edge 5 = .ok (.aload_n 0, 1) := by decide +kernel
theorem dX6_edge_6 : decode cX6_edge 6 = .ok (.iload_n 1, 1) := by decide +kernel
theorem dX6_edge_7 : decode cX6_edge 7 = .ok (.invokevirtual 166, 3) := by decide +kernel
theorem dX6_edge_10 : decode cX6_edge 10 = .ok (.ifCond .eq 5, 3) := by decide +kernel
theorem dX6_edge_13 : decode cX6_edge 13 = .ok (.iconst (-1), 1) := by decide +kernel
theorem dX6_edge_14 : decode cX6_edge 14 = .ok (.ireturn, 1) := by decide +kernel
theorem dX6_edge_15 : decode cX6_edge 15 = .ok (.bipush (-9), 2) := by decide +kernel
theorem dX6_edge_17 : decode cX6_edge 17 = .ok (.istore_n 3, 1) := by decide +kernel
theorem dX6_edge_18 : decode cX6_edge 18 = .ok (.iconst 0, 1) := by decide +kernel
theorem dX6_edge_19 : decode cX6_edge 19 = .ok (.istore 4, 2) := by decide +kernel
theorem dX6_edge_21 : decode cX6_edge 21 = .ok (.iload 4, 2) := by decide +kernel
theorem dX6_edge_23 : decode cX6_edge 23 = .ok (.aload_n 0, 1) := by decide +kernel
theorem dX6_edge_24 : decode cX6_edge 24 = .ok (.getfield 29, 3) := by decide +kernel
theorem dX6_edge_27 : decode cX6_edge 27 = .ok (.iconst 1, 1) := by decide +kernel
theorem dX6_edge_28 : decode cX6_edge 28 = .ok (.iaload, 1) := by decide +kernel
theorem dX6_edge_29 : decode cX6_edge 29 = .ok (.if_icmp .ge 32, 3) := by decide +kernel
theorem dX6_edge_32 : decode cX6_edge 32 = .ok (.aload_n 0, 1) := by decide +kernel
theorem dX6_edge_33 : decode cX6_edge 33 = .ok (.getfield 29, 3) := by decide +kernel
theorem dX6_edge_36 : decode cX6_edge 36 = .ok (.bipush 7, 2) := by decide +kernel
theorem dX6_edge_38 : decode cX6_edge 38 = .ok (.iload 4, 2) := by decide +kernel
theorem dX6_edge_40 : decode cX6_edge 40 = .ok (.iadd, 1) := by decide +kernel
theorem dX6_edge_41 : decode cX6_edge 41 = .ok (.iaload, 1) := by decide +kernel
theorem dX6_edge_42 : decode cX6_edge 42 = .ok (.iload_n 1, 1) := by decide +kernel
theorem dX6_edge_43 : decode cX6_edge 43 = .ok (.iconst 1, 1) := by decide +kernel
theorem dX6_edge_44 : decode cX6_edge 44 = .ok (.iadd, 1) := by decide +kernel
theorem dX6_edge_45 : decode cX6_edge 45 = .ok (.if_icmp .ne 8, 3) := by decide +kernel
theorem dX6_edge_48 : decode cX6_edge 48 = .ok (.iload 4, 2) := by decide +kernel
theorem dX6_edge_50 : decode cX6_edge 50 = .ok (.goto 4, 3) := by decide +kernel
theorem dX6_edge_53 : decode cX6_edge 53 = .ok (.iload_n 3, 1) := by decide +kernel
theorem dX6_edge_54 : decode cX6_edge 54 = .ok (.istore_n 3, 1) := by decide +kernel
theorem dX6_edge_55 : decode cX6_edge 55 = .ok (.iinc 4 1, 3) := by decide +kernel
theorem dX6_edge_58 : decode cX6_edge 58 = .ok (.goto (-37), 3) := by decide +kernel
theorem dX6_edge_61 : decode cX6_edge 61 = .ok (.iload_n 2, 1) := by decide +kernel
theorem dX6_edge_62 : decode cX6_edge 62 = .ok (.ifCond .ne 12, 3) := by decide +kernel
theorem dX6_edge_65 : decode cX6_edge 65 = .ok (.aload_n 0, 1) := by decide +kernel
theorem dX6_edge_66 : decode cX6_edge 66 = .ok (.getfield 17, 3) := by decide +kernel
theorem dX6_edge_69 : decode cX6_edge 69 = .ok (.iload_n 1, 1) := by decide +kernel
theorem dX6_edge_70 : decode cX6_edge 70 = .ok (.iaload, 1) := by decide +kernel
theorem dX6_edge_71 : decode cX6_edge 71 = .ok (.goto 45, 3) := by decide +kernel
theorem dX6_edge_74 : decode cX6_edge 74 = .ok (.iload_n 2, 1) := by decide +kernel
theorem dX6_edge_75 : decode cX6_edge 75 = .ok (.iconst 1, 1) := by decide +kernel
theorem dX6_edge_76 : decode cX6_edge 76 = .ok (.if_icmp .ne 12, 3) := by decide +kernel
theorem dX6_edge_79 : decode cX6_edge 79 = .ok (.aload_n 0, 1) := by decide +kernel
theorem dX6_edge_80 : decode cX6_edge 80 = .ok (.getfield 20, 3) := by decide +kernel
theorem dX6_edge_83 : decode cX6_edge 83 = .ok (.iload_n 1, 1) := by decide +kernel
theorem dX6_edge_84 : decode cX6_edge 84 = .ok (.iaload, 1) := by decide +kernel
theorem dX6_edge_85 : decode cX6_edge 85 = .ok (.goto 31, 3) := by decide +kernel
theorem dX6_edge_88 : decode cX6_edge 88 = .ok (.iload_n 2, 1) := by decide +kernel
theorem dX6_edge_89 : decode cX6_edge 89 = .ok (.iconst 2, 1) := by decide +kernel
theorem dX6_edge_90 : decode cX6_edge 90 = .ok (.if_icmp .ne 15, 3) := by decide +kernel
theorem dX6_edge_93 : decode cX6_edge 93 = .ok (.aload_n 0, 1) := by decide +kernel
theorem dX6_edge_94 : decode cX6_edge 94 = .ok (.getfield 29, 3) := by decide +kernel
theorem dX6_edge_97 : decode cX6_edge 97 = .ok (.bipush 11, 2) := by decide +kernel
theorem dX6_edge_99 : decode cX6_edge 99 = .ok (.iload_n 1, 1) := by decide +kernel
theorem dX6_edge_100 : decode cX6_edge 100 = .ok (.iadd, 1) := by decide +kernel
theorem dX6_edge_101 : decode cX6_edge 101 = .ok (.iaload, 1) := by decide +kernel
theorem dX6_edge_102 : decode cX6_edge 102 = .ok (.goto 14, 3) := by decide +kernel
theorem dX6_edge_105 : decode cX6_edge 105 = .ok (.iload_n 2, 1) := by decide +kernel
theorem dX6_edge_106 : decode cX6_edge 106 = .ok (.iconst 3, 1) := by decide +kernel
theorem dX6_edge_107 : decode cX6_edge 107 = .ok (.if_icmp .ne 7, 3) := by decide +kernel
theorem dX6_edge_110 : decode cX6_edge 110 = .ok (.iload_n 3, 1) := by decide +kernel
theorem dX6_edge_111 : decode cX6_edge 111 = .ok (.goto 5, 3) := by decide +kernel
theorem dX6_edge_114 : decode cX6_edge 114 = .ok (.bipush (-2), 2) := by decide +kernel
theorem dX6_edge_116 : decode cX6_edge 116 = .ok (.ireturn, 1) := by decide +kernel
set_option maxRecDepth 20000 in
theorem ggX6_noSearcher_X6_in : GoodIn wsX6_noSearcher wsX6_in := goodIn_r _ [5] (by decide +kernel) (by decide +kernel)
set_option maxRecDepth 20000 in
theorem gX6_noSearcher_X6_in : GoodIn wsX6_noSearcher (va_wsS RX6 67 yX6_in wsX6_in) := goodIn_app (goodIn_of _ (by decide +kernel)) ggX6_noSearcher_X6_in
theorem dX6_noSearcher_0 : decode cX6_noSearcher 0 = .ok (.iload_n 1, 1) := by decide +kernel
theorem dX6_noSearcher_1 : decode cX6_noSearcher 1 = .ok (.i2l, 1) := by decide +kernel
theorem dX6_noSearcher_2 : decode cX6_noSearcher 2 = .ok (.lconst 0, 1) := by decide +kernel
theorem dX6_noSearcher_3 : decode cX6_noSearcher 3 = .ok (.aload_n 0, 1) := by decide +kernel
theorem dX6_noSearcher_4 : decode cX6_noSearcher 4 = .ok (.getfield 29, 3) := by decide +kernel
theorem dX6_noSearcher_7 : decode cX6_noSearcher 7 = .ok (.iconst 1, 1) := by decide +kernel
theorem dX6_noSearcher_8 : decode cX6_noSearcher 8 = .ok (.iaload, 1) := by decide +kernel
theorem dX6_noSearcher_9 : decode cX6_noSearcher 9 = .ok (.iconst 1, 1) := by decide +kernel
theorem dX6_noSearcher_10 : decode cX6_noSearcher 10 = .ok (.isub, 1) := by decide +kernel
theorem dX6_noSearcher_11 : decode cX6_noSearcher 11 = .ok (.i2l, 1) := by decide +kernel
theorem dX6_noSearcher_12 : decode cX6_noSearcher 12 = .ok (.invokestatic 67, 3) := by decide +kernel
theorem dX6_noSearcher_15 : decode cX6_noSearcher 15 = .ok (.ifCond .ne 7, 3) := by decide +kernel
theorem dX6_noSearcher_18 : decode cX6_noSearcher 18 = .ok (.iconst 1, 1) := by decide +kernel
theorem dX6_noSearcher_19 : decode cX6_noSearcher 19 = .ok (.goto 4, 3) := by decide +kernel
theorem dX6_noSearcher_22 : decode cX6_noSearcher 22 = .ok (.iconst 0, 1) := by decide +kernel
theorem dX6_noSearcher_23 : decode cX6_noSearcher 23 = .ok (.ireturn, 1) := by decide +kernel
set_option maxRecDepth 20000 in
theorem ggX6_steps_X6_canStep : GoodIn wsX6_steps wsX6_canStep := goodIn_r _ [7, 1, 8, 9, 10, 11, 6, 12, 13, 14, 15, 16, 17, 18, 19, 20, 21, 22, 23, 24, 25, 26, 27, 28, 29, 30, 31, 32, 33, 34, 35, 36, 37, 38, 39, 40, 41, 42, 43, 44, 45, 46, 47, 48, 49, 50, 51, 52, 53, 54, 55, 56, 57, 58, 59, 60] (by decide +kernel) (by decide +kernel)
set_option maxRecDepth 20000 in
theorem gX6_steps_X6_canStep : GoodIn wsX6_steps (wsV RX6 170 RX6 yX6_canStep wsX6_canStep) := goodIn_app (goodIn_of _ (by decide +kernel)) ggX6_steps_X6_canStep
theorem dX6_steps_0 : decode cX6_steps 0 = .ok (.iconst 0, 1) := by decide +kernel
theorem dX6_steps_1 : decode cX6_steps 1 = .ok (.istore_n 2, 1) := by decide +kernel
theorem dX6_steps_2 : decode cX6_steps 2 = .ok (.iconst 0, 1) := by decide +kernel
theorem dX6_steps_3 : decode cX6_steps 3 = .ok (.istore_n 3, 1) := by decide +kernel
theorem dX6_steps_4 : decode cX6_steps 4 = .ok (.iload_n 3, 1) := by decide +kernel
theorem dX6_steps_5 : decode cX6_steps 5 = .ok (.aload_n 0, 1) := by decide +kernel
theorem dX6_steps_6 : decode cX6_steps 6 = .ok (.getfield 71, 3) := by decide +kernel
theorem dX6_steps_9 : decode cX6_steps 9 = .ok (.if_icmp .ge 32, 3) := by decide +kernel
theorem dX6_steps_12 : decode cX6_steps 12 = .ok (.iload_n 2, 1) := by decide +kernel
theorem dX6_steps_13 : decode cX6_steps 13 = .ok (.aload_n 0, 1) := by decide +kernel
theorem dX6_steps_14 : decode cX6_steps 14 = .ok (.aload_n 0, 1) := by decide +kernel
theorem dX6_steps_15 : decode cX6_steps 15 = .ok (.getfield 29, 3) := by decide +kernel
theorem dX6_steps_18 : decode cX6_steps 18 = .ok (.iload_n 1, 1) := by decide +kernel
theorem dX6_steps_19 : decode cX6_steps 19 = .ok (.iload_n 3, 1) := by decide +kernel
theorem dX6_steps_20 : decode cX6_steps 20 = .ok (.invokevirtual 170, 3) := by decide +kernel
theorem dX6_steps_23 : decode cX6_steps 23 = .ok (.ifCond .eq 9, 3) := by decide +kernel
theorem dX6_steps_26 : decode cX6_steps 26 = .ok (.iconst 1, 1) := by decide +kernel
theorem dX6_steps_27 : decode cX6_steps 27 = .ok (.iload_n 3, 1) := by decide +kernel
theorem dX6_steps_28 : decode cX6_steps 28 = .ok (.ishl, 1) := by decide +kernel
theorem dX6_steps_29 : decode cX6_steps 29 = .ok (.goto 4, 3) := by decide +kernel
theorem dX6_steps_32 : decode cX6_steps 32 = .ok (.iconst 0, 1) := by decide +kernel
theorem dX6_steps_33 : decode cX6_steps 33 = .ok (.ior, 1) := by decide +kernel
theorem dX6_steps_34 : decode cX6_steps 34 = .ok (.istore_n 2, 1) := by decide +kernel
theorem dX6_steps_35 : decode cX6_steps 35 = .ok (.iinc 3 1, 3) := by decide +kernel
theorem dX6_steps_38 : decode cX6_steps 38 = .ok (.goto (-34), 3) := by decide +kernel
theorem dX6_steps_41 : decode cX6_steps 41 = .ok (.iload_n 2, 1) := by decide +kernel
theorem dX6_steps_42 : decode cX6_steps 42 = .ok (.ireturn, 1) := by decide +kernel
set_option maxRecDepth 20000 in
theorem ggX6_searcher_X6_noSearcher : GoodIn wsX6_searcher wsX6_noSearcher := goodIn_r _ [7, 2, 8, 9, 6, 10, 70, 71, 72, 73, 74, 75, 76, 77, 78, 79, 80, 81, 82, 83, 84, 85, 86, 87, 88, 89, 90, 91, 92, 93, 94, 95, 96, 97] (by decide +kernel) (by decide +kernel)
set_option maxRecDepth 20000 in
theorem gX6_searcher_X6_noSearcher : GoodIn wsX6_searcher (wsV RX6 174 RX6 yX6_noSearcher wsX6_noSearcher) := goodIn_app (goodIn_of _ (by decide +kernel)) ggX6_searcher_X6_noSearcher
set_option maxRecDepth 20000 in
theorem ggX6_searcher_X6_lives : GoodIn wsX6_searcher wsX6_lives := goodIn_r _ [13] (by decide +kernel) (by decide +kernel)
set_option maxRecDepth 20000 in
theorem gX6_searcher_X6_lives : GoodIn wsX6_searcher (va_wsS RX6 74 yX6_lives wsX6_lives) := goodIn_app (goodIn_of _ (by decide +kernel)) ggX6_searcher_X6_lives
set_option maxRecDepth 20000 in
theorem ggX6_searcher_X6_steps : GoodIn wsX6_searcher wsX6_steps := goodIn_r _ [17, 18, 2, 19, 20, 21, 6, 22, 23, 24, 11, 12, 13, 25, 26, 27, 28, 29, 30, 31, 32, 33, 34, 35, 36, 37, 38, 39, 40, 41, 42, 43, 44, 70, 71, 72, 73, 74, 75, 76, 77, 78, 79, 80, 81, 82, 83, 84, 85, 86, 87, 88, 89, 90, 91, 92, 93, 94, 95, 96, 97] (by decide +kernel) (by decide +kernel)
set_option maxRecDepth 20000 in
theorem gX6_searcher_X6_steps : GoodIn wsX6_searcher (wsV RX6 177 RX6 yX6_steps wsX6_steps) := goodIn_app (goodIn_of _ (by decide +kernel)) ggX6_searcher_X6_steps
set_option maxRecDepth 20000 in
theorem ggX6_searcher_X6_chosen : GoodIn wsX6_searcher wsX6_chosen := goodIn_r _ [48, 11, 12, 6, 13, 49, 50, 51, 52, 29, 30, 31, 32, 33, 34, 35, 36, 37, 38, 18, 23, 24, 39, 40, 41, 53, 54, 55, 56, 25, 26, 27, 28, 57, 58, 59, 60, 61, 62, 63, 64, 65, 66, 67, 68, 69, 70, 71, 72, 73, 74, 75, 76, 77, 78, 79, 80, 81, 82, 83, 84, 85, 86, 87, 88, 89, 90, 91, 92, 93, 94, 95, 96, 97] (by decide +kernel) (by decide +kernel)
set_option maxRecDepth 20000 in
theorem gX6_searcher_X6_chosen : GoodIn wsX6_searcher (wsV RX6 115 RX6 yX6_chosen wsX6_chosen) := goodIn_app (goodIn_of _ (by decide +kernel)) ggX6_searcher_X6_chosen
theorem dX6_searcher_0 : decode cX6_searcher 0 = .ok (.aload_n 0, 1) := by decide +kernel
theorem dX6_searcher_1 : decode cX6_searcher 1 = .ok (.iconst 0, 1) := by decide +kernel
theorem dX6_searcher_2 : decode cX6_searcher 2 = .ok (.putfield 61, 3) := by decide +kernel
theorem dX6_searcher_5 : decode cX6_searcher 5 = .ok (.aload_n 0, 1) := by decide +kernel
theorem dX6_searcher_6 : decode cX6_searcher 6 = .ok (.iload_n 1, 1) := by decide +kernel
theorem dX6_searcher_7 : decode cX6_searcher 7 = .ok (.invokevirtual 174, 3) := by decide +kernel
theorem dX6_searcher_10 : decode cX6_searcher 10 = .ok (.ifCond .eq 5, 3) := by decide +kernel
theorem dX6_searcher_13 : decode cX6_searcher 13 = .ok (.iconst (-1), 1) := by decide +kernel
theorem dX6_searcher_14 : decode cX6_searcher 14 = .ok (.ireturn, 1) := by decide +kernel
theorem dX6_searcher_15 : decode cX6_searcher 15 = .ok (.iload_n 2, 1) := by decide +kernel
theorem dX6_searcher_16 : decode cX6_searcher 16 = .ok (.tableswitch 102 0 3 #[32, 57, 86, 92], 32) := by decide +kernel
theorem dX6_searcher_48 : decode cX6_searcher 48 = .ok (.aload_n 0, 1) := by decide +kernel
theorem dX6_searcher_49 : decode cX6_searcher 49 = .ok (.getfield 29, 3) := by decide +kernel
theorem dX6_searcher_52 : decode cX6_searcher 52 = .ok (.iload_n 1, 1) := by decide +kernel
theorem dX6_searcher_53 : decode cX6_searcher 53 = .ok (.invokestatic 74, 3) := by decide +kernel
theorem dX6_searcher_56 : decode cX6_searcher 56 = .ok (.ifCond .eq 14, 3) := by decide +kernel
theorem dX6_searcher_59 : decode cX6_searcher 59 = .ok (.aload_n 0, 1) := by decide +kernel
theorem dX6_searcher_60 : decode cX6_searcher 60 = .ok (.getfield 29, 3) := by decide +kernel
theorem dX6_searcher_63 : decode cX6_searcher 63 = .ok (.iconst 3, 1) := by decide +kernel
theorem dX6_searcher_64 : decode cX6_searcher 64 = .ok (.iload_n 1, 1) := by decide +kernel
theorem dX6_searcher_65 : decode cX6_searcher 65 = .ok (.iadd, 1) := by decide +kernel
theorem dX6_searcher_66 : decode cX6_searcher 66 = .ok (.iaload, 1) := by decide +kernel
theorem dX6_searcher_67 : decode cX6_searcher 67 = .ok (.goto 5, 3) := by decide +kernel
theorem dX6_searcher_70 : decode cX6_searcher 70 = .ok (.bipush (-9), 2) := by decide +kernel
theorem dX6_searcher_72 : decode cX6_searcher 72 = .ok (.ireturn, 1) := by decide +kernel
theorem dX6_searcher_73 : decode cX6_searcher 73 = .ok (.aload_n 0, 1) := by decide +kernel
theorem dX6_searcher_74 : decode cX6_searcher 74 = .ok (.getfield 29, 3) := by decide +kernel
theorem dX6_searcher_77 : decode cX6_searcher 77 = .ok (.bipush 7, 2) := by decide +kernel
theorem dX6_searcher_79 : decode cX6_searcher 79 = .ok (.iload_n 1, 1) := by decide +kernel
theorem dX6_searcher_80 : decode cX6_searcher 80 = .ok (.iadd, 1) := by decide +kernel
theorem dX6_searcher_81 : decode cX6_searcher 81 = .ok (.iaload, 1) := by decide +kernel
theorem dX6_searcher_82 : decode cX6_searcher 82 = .ok (.ifCond .le 17, 3) := by decide +kernel
theorem dX6_searcher_85 : decode cX6_searcher 85 = .ok (.aload_n 0, 1) := by decide +kernel
theorem dX6_searcher_86 : decode cX6_searcher 86 = .ok (.getfield 29, 3) := by decide +kernel
theorem dX6_searcher_89 : decode cX6_searcher 89 = .ok (.bipush 7, 2) := by decide +kernel
theorem dX6_searcher_91 : decode cX6_searcher 91 = .ok (.iload_n 1, 1) := by decide +kernel
theorem dX6_searcher_92 : decode cX6_searcher 92 = .ok (.iadd, 1) := by decide +kernel
theorem dX6_searcher_93 : decode cX6_searcher 93 = .ok (.iaload, 1) := by decide +kernel
theorem dX6_searcher_94 : decode cX6_searcher 94 = .ok (.iconst 1, 1) := by decide +kernel
theorem dX6_searcher_95 : decode cX6_searcher 95 = .ok (.isub, 1) := by decide +kernel
theorem dX6_searcher_96 : decode cX6_searcher 96 = .ok (.goto 5, 3) := by decide +kernel
theorem dX6_searcher_99 : decode cX6_searcher 99 = .ok (.bipush (-9), 2) := by decide +kernel
theorem dX6_searcher_101 : decode cX6_searcher 101 = .ok (.ireturn, 1) := by decide +kernel
theorem dX6_searcher_102 : decode cX6_searcher 102 = .ok (.aload_n 0, 1) := by decide +kernel
theorem dX6_searcher_103 : decode cX6_searcher 103 = .ok (.iload_n 1, 1) := by decide +kernel
theorem dX6_searcher_104 : decode cX6_searcher 104 = .ok (.invokevirtual 177, 3) := by decide +kernel
theorem dX6_searcher_107 : decode cX6_searcher 107 = .ok (.ireturn, 1) := by decide +kernel
theorem dX6_searcher_108 : decode cX6_searcher 108 = .ok (.aload_n 0, 1) := by decide +kernel
theorem dX6_searcher_109 : decode cX6_searcher 109 = .ok (.aload_n 0, 1) := by decide +kernel
theorem dX6_searcher_110 : decode cX6_searcher 110 = .ok (.getfield 29, 3) := by decide +kernel
theorem dX6_searcher_113 : decode cX6_searcher 113 = .ok (.iload_n 1, 1) := by decide +kernel
theorem dX6_searcher_114 : decode cX6_searcher 114 = .ok (.invokevirtual 115, 3) := by decide +kernel
theorem dX6_searcher_117 : decode cX6_searcher 117 = .ok (.ireturn, 1) := by decide +kernel
theorem dX6_searcher_118 : decode cX6_searcher 118 = .ok (.bipush (-2), 2) := by decide +kernel
theorem dX6_searcher_120 : decode cX6_searcher 120 = .ok (.ireturn, 1) := by decide +kernel
theorem dX6_note_0 : decode cX6_note 0 = .ok (.aload_n 0, 1) := by decide +kernel
theorem dX6_note_1 : decode cX6_note 1 = .ok (.getfield 163, 3) := by decide +kernel
theorem dX6_note_4 : decode cX6_note 4 = .ok (.bipush 14, 2) := by decide +kernel
theorem dX6_note_6 : decode cX6_note 6 = .ok (.if_icmp .ne 43, 3) := by decide +kernel
theorem dX6_note_9 : decode cX6_note 9 = .ok (.iconst 0, 1) := by decide +kernel
theorem dX6_note_10 : decode cX6_note 10 = .ok (.istore_n 1, 1) := by decide +kernel
theorem dX6_note_11 : decode cX6_note 11 = .ok (.iload_n 1, 1) := by decide +kernel
theorem dX6_note_12 : decode cX6_note 12 = .ok (.sipush 273, 3) := by decide +kernel
theorem dX6_note_15 : decode cX6_note 15 = .ok (.if_icmp .ge 24, 3) := by decide +kernel
theorem dX6_note_18 : decode cX6_note 18 = .ok (.aload_n 0, 1) := by decide +kernel
theorem dX6_note_19 : decode cX6_note 19 = .ok (.getfield 35, 3) := by decide +kernel
theorem dX6_note_22 : decode cX6_note 22 = .ok (.iload_n 1, 1) := by decide +kernel
theorem dX6_note_23 : decode cX6_note 23 = .ok (.aload_n 0, 1) := by decide +kernel
theorem dX6_note_24 : decode cX6_note 24 = .ok (.getfield 35, 3) := by decide +kernel
theorem dX6_note_27 : decode cX6_note 27 = .ok (.iload_n 1, 1) := by decide +kernel
theorem dX6_note_28 : decode cX6_note 28 = .ok (.bipush 21, 2) := by decide +kernel
theorem dX6_note_30 : decode cX6_note 30 = .ok (.iadd, 1) := by decide +kernel
theorem dX6_note_31 : decode cX6_note 31 = .ok (.iaload, 1) := by decide +kernel
theorem dX6_note_32 : decode cX6_note 32 = .ok (.iastore, 1) := by decide +kernel
theorem dX6_note_33 : decode cX6_note 33 = .ok (.iinc 1 1, 3) := by decide +kernel
theorem dX6_note_36 : decode cX6_note 36 = .ok (.goto (-25), 3) := by decide +kernel
theorem dX6_note_39 : decode cX6_note 39 = .ok (.aload_n 0, 1) := by decide +kernel
theorem dX6_note_40 : decode cX6_note 40 = .ok (.dup, 1) := by decide +kernel
theorem dX6_note_41 : decode cX6_note 41 = .ok (.getfield 163, 3) := by decide +kernel
theorem dX6_note_44 : decode cX6_note 44 = .ok (.iconst 1, 1) := by decide +kernel
theorem dX6_note_45 : decode cX6_note 45 = .ok (.isub, 1) := by decide +kernel
theorem dX6_note_46 : decode cX6_note 46 = .ok (.putfield 163, 3) := by decide +kernel
theorem dX6_note_49 : decode cX6_note 49 = .ok (.iconst 0, 1) := by decide +kernel
theorem dX6_note_50 : decode cX6_note 50 = .ok (.istore_n 1, 1) := by decide +kernel
theorem dX6_note_51 : decode cX6_note 51 = .ok (.iload_n 1, 1) := by decide +kernel
theorem dX6_note_52 : decode cX6_note 52 = .ok (.bipush 21, 2) := by decide +kernel
theorem dX6_note_54 : decode cX6_note 54 = .ok (.if_icmp .ge 29, 3) := by decide +kernel
theorem dX6_note_57 : decode cX6_note 57 = .ok (.aload_n 0, 1) := by decide +kernel
theorem dX6_note_58 : decode cX6_note 58 = .ok (.getfield 35, 3) := by decide +kernel
theorem dX6_note_61 : decode cX6_note 61 = .ok (.bipush 21, 2) := by decide +kernel
theorem dX6_note_63 : decode cX6_note 63 = .ok (.aload_n 0, 1) := by decide +kernel
theorem dX6_note_64 : decode cX6_note 64 = .ok (.getfield 163, 3) := by decide +kernel
theorem dX6_note_67 : decode cX6_note 67 = .ok (.imul, 1) := by decide +kernel
theorem dX6_note_68 : decode cX6_note 68 = .ok (.iload_n 1, 1) := by decide +kernel
theorem dX6_note_69 : decode cX6_note 69 = .ok (.iadd, 1) := by decide +kernel
theorem dX6_note_70 : decode cX6_note 70 = .ok (.aload_n 0, 1) := by decide +kernel
theorem dX6_note_71 : decode cX6_note 71 = .ok (.getfield 29, 3) := by decide +kernel
theorem dX6_note_74 : decode cX6_note 74 = .ok (.iload_n 1, 1) := by decide +kernel
theorem dX6_note_75 : decode cX6_note 75 = .ok (.iaload, 1) := by decide +kernel
theorem dX6_note_76 : decode cX6_note 76 = .ok (.iastore, 1) := by decide +kernel
theorem dX6_note_77 : decode cX6_note 77 = .ok (.iinc 1 1, 3) := by decide +kernel
theorem dX6_note_80 : decode cX6_note 80 = .ok (.goto (-29), 3) := by decide +kernel
theorem dX6_note_83 : decode cX6_note 83 = .ok (.aload_n 0, 1) := by decide +kernel
theorem dX6_note_84 : decode cX6_note 84 = .ok (.dup, 1) := by decide +kernel
theorem dX6_note_85 : decode cX6_note 85 = .ok (.getfield 163, 3) := by decide +kernel
theorem dX6_note_88 : decode cX6_note 88 = .ok (.iconst 1, 1) := by decide +kernel
theorem dX6_note_89 : decode cX6_note 89 = .ok (.iadd, 1) := by decide +kernel
theorem dX6_note_90 : decode cX6_note 90 = .ok (.putfield 163, 3) := by decide +kernel
theorem dX6_note_93 : decode cX6_note 93 = .ok (.return_, 1) := by decide +kernel
set_option maxRecDepth 20000 in
theorem ggX6_step_X6_noSearcher : GoodIn wsX6_step wsX6_noSearcher := goodIn_r _ [7, 2, 8, 9, 6, 10, 59, 60, 61, 62, 63, 64, 65, 66, 67, 68, 69, 70, 71, 72, 73, 74, 75, 76, 77, 78, 79, 80, 81, 82, 83, 84, 85, 86] (by decide +kernel) (by decide +kernel)
set_option maxRecDepth 20000 in
theorem gX6_step_X6_noSearcher : GoodIn wsX6_step (wsV RX6 174 RX6 yX6_noSearcher wsX6_noSearcher) := goodIn_app (goodIn_of _ (by decide +kernel)) ggX6_step_X6_noSearcher
set_option maxRecDepth 20000 in
theorem ggX6_step_X6_noEdge : GoodIn wsX6_step wsX6_noEdge := goodIn_r _ [14, 15, 8, 9, 6, 10, 59, 60, 61, 62, 63, 64, 65, 66, 67, 68, 69, 70, 71, 72, 73, 74, 75, 76, 77, 78, 79, 80, 81, 82, 83, 84, 85, 86] (by decide +kernel) (by decide +kernel)
set_option maxRecDepth 20000 in
theorem gX6_step_X6_noEdge : GoodIn wsX6_step (wsV RX6 166 RX6 yX6_noEdge wsX6_noEdge) := goodIn_app (goodIn_of _ (by decide +kernel)) ggX6_step_X6_noEdge
set_option maxRecDepth 20000 in
theorem ggX6_step_X6_canStep : GoodIn wsX6_step wsX6_canStep := goodIn_r _ [19, 15, 20, 21, 22, 23, 6, 24, 25, 26, 27, 28, 29, 30, 31, 32, 33, 34, 35, 36, 37, 38, 39, 40, 41, 42, 43, 44, 59, 60, 61, 62, 63, 64, 65, 66, 67, 68, 69, 70, 71, 72, 73, 74, 75, 76, 77, 78, 79, 80, 81, 82, 83, 84, 85, 86] (by decide +kernel) (by decide +kernel)
set_option maxRecDepth 20000 in
theorem gX6_step_X6_canStep : GoodIn wsX6_step (wsV RX6 170 RX6 yX6_canStep wsX6_canStep) := goodIn_app (goodIn_of _ (by decide +kernel)) ggX6_step_X6_canStep
set_option maxRecDepth 20000 in
theorem ggX6_step_X6_note : GoodIn wsX6_step wsX6_note := goodIn_r _ [48, 49, 50, 2, 59, 60, 61, 62, 63, 64, 65, 66, 67, 68, 69, 70, 71, 72, 73, 74, 75, 76, 77, 78, 79, 80, 81, 82, 83, 84, 85, 86] (by decide +kernel) (by decide +kernel)
set_option maxRecDepth 20000 in
theorem gX6_step_X6_note : GoodIn wsX6_step (wsV RX6 180 RX6 yX6_note wsX6_note) := goodIn_app (goodIn_of _ (by decide +kernel)) ggX6_step_X6_note
set_option maxRecDepth 20000 in
theorem ggX6_step_X6_stepOn : GoodIn wsX6_step wsX6_stepOn := goodIn_r _ [54, 55, 56, 57, 6, 58, 20, 21, 59, 60, 61, 62, 63, 64, 65, 66, 67, 68, 69, 70, 71, 72, 73, 74, 75, 76, 77, 78, 79, 80, 81, 82, 83, 84, 85, 86] (by decide +kernel) (by decide +kernel)
set_option maxRecDepth 20000 in
theorem gX6_step_X6_stepOn : GoodIn wsX6_step (wsV RX6 118 RX6 yX6_stepOn wsX6_stepOn) := goodIn_app (goodIn_of _ (by decide +kernel)) ggX6_step_X6_stepOn
set_option maxRecDepth 20000 in
theorem ggX6_step_X6_lives : GoodIn wsX6_step wsX6_lives := goodIn_r _ [24] (by decide +kernel) (by decide +kernel)
set_option maxRecDepth 20000 in
theorem gX6_step_X6_lives : GoodIn wsX6_step (va_wsS RX6 74 yX6_lives wsX6_lives) := goodIn_app (goodIn_of _ (by decide +kernel)) ggX6_step_X6_lives
theorem dX6_step_0 : decode cX6_step 0 = .ok (.aload_n 0, 1) := by decide +kernel
theorem dX6_step_1 : decode cX6_step 1 = .ok (.iconst 0, 1) := by decide +kernel
theorem dX6_step_2 : decode cX6_step 2 = .ok (.putfield 61, 3) := by decide +kernel
theorem dX6_step_5 : decode cX6_step 5 = .ok (.aload_n 0, 1) := by decide +kernel
theorem dX6_step_6 : decode cX6_step 6 = .ok (.iload_n 1, 1) := by decide +kernel
theorem dX6_step_7 : decode cX6_step 7 = .ok (.invokevirtual 174, 3) := by decide +kernel
theorem dX6_step_10 : decode cX6_step 10 = .ok (.ifCond .ne 11, 3) := by decide +kernel
theorem dX6_step_13 : decode cX6_step 13 = .ok (.aload_n 0, 1) := by decide +kernel
theorem dX6_step_14 : decode cX6_step 14 = .ok (.iload_n 2, 1) := by decide +kernel
theorem dX6_step_15 : decode cX6_step 15 = .ok (.invokevirtual 166, 3) := by decide +kernel
theorem dX6_step_18 : decode cX6_step 18 = .ok (.ifCond .eq 5, 3) := by decide +kernel
theorem dX6_step_21 : decode cX6_step 21 = .ok (.iconst (-1), 1) := by decide +kernel
theorem dX6_step_22 : decode cX6_step 22 = .ok (.ireturn, 1) := by decide +kernel
theorem dX6_step_23 : decode cX6_step 23 = .ok (.aload_n 0, 1) := by decide +kernel
theorem dX6_step_24 : decode cX6_step 24 = .ok (.aload_n 0, 1) := by decide +kernel
theorem dX6_step_25 : decode cX6_step 25 = .ok (.getfield 29, 3) := by decide +kernel
theorem dX6_step_28 : decode cX6_step 28 = .ok (.iload_n 1, 1) := by decide +kernel
theorem dX6_step_29 : decode cX6_step 29 = .ok (.iload_n 2, 1) := by decide +kernel
theorem dX6_step_30 : decode cX6_step 30 = .ok (.invokevirtual 170, 3) := by decide +kernel
theorem dX6_step_33 : decode cX6_step 33 = .ok (.ifCond .ne 6, 3) := by decide +kernel
theorem dX6_step_36 : decode cX6_step 36 = .ok (.bipush (-3), 2) := by decide +kernel
theorem dX6_step_38 : decode cX6_step 38 = .ok (.ireturn, 1) := by decide +kernel
theorem dX6_step_39 : decode cX6_step 39 = .ok (.aload_n 0, 1) := by decide +kernel
theorem dX6_step_40 : decode cX6_step 40 = .ok (.invokevirtual 180, 3) := by decide +kernel
theorem dX6_step_43 : decode cX6_step 43 = .ok (.aload_n 0, 1) := by decide +kernel
theorem dX6_step_44 : decode cX6_step 44 = .ok (.aload_n 0, 1) := by decide +kernel
theorem dX6_step_45 : decode cX6_step 45 = .ok (.getfield 29, 3) := by decide +kernel
theorem dX6_step_48 : decode cX6_step 48 = .ok (.iload_n 1, 1) := by decide +kernel
theorem dX6_step_49 : decode cX6_step 49 = .ok (.iload_n 2, 1) := by decide +kernel
theorem dX6_step_50 : decode cX6_step 50 = .ok (.invokevirtual 118, 3) := by decide +kernel
theorem dX6_step_53 : decode cX6_step 53 = .ok (.aload_n 0, 1) := by decide +kernel
theorem dX6_step_54 : decode cX6_step 54 = .ok (.getfield 29, 3) := by decide +kernel
theorem dX6_step_57 : decode cX6_step 57 = .ok (.iload_n 1, 1) := by decide +kernel
theorem dX6_step_58 : decode cX6_step 58 = .ok (.invokestatic 74, 3) := by decide +kernel
theorem dX6_step_61 : decode cX6_step 61 = .ok (.ifCond .eq 14, 3) := by decide +kernel
theorem dX6_step_64 : decode cX6_step 64 = .ok (.aload_n 0, 1) := by decide +kernel
theorem dX6_step_65 : decode cX6_step 65 = .ok (.getfield 29, 3) := by decide +kernel
theorem dX6_step_68 : decode cX6_step 68 = .ok (.iconst 3, 1) := by decide +kernel
theorem dX6_step_69 : decode cX6_step 69 = .ok (.iload_n 1, 1) := by decide +kernel
theorem dX6_step_70 : decode cX6_step 70 = .ok (.iadd, 1) := by decide +kernel
theorem dX6_step_71 : decode cX6_step 71 = .ok (.iaload, 1) := by decide +kernel
theorem dX6_step_72 : decode cX6_step 72 = .ok (.goto 5, 3) := by decide +kernel
theorem dX6_step_75 : decode cX6_step 75 = .ok (.bipush (-9), 2) := by decide +kernel
theorem dX6_step_77 : decode cX6_step 77 = .ok (.ireturn, 1) := by decide +kernel
set_option maxRecDepth 20000 in
theorem ggX6_round_X6_living : GoodIn wsX6_round wsX6_living := goodIn_r _ [6, 7, 8, 5, 9] (by decide +kernel) (by decide +kernel)
set_option maxRecDepth 20000 in
theorem gX6_round_X6_living : GoodIn wsX6_round (va_wsS RX6 183 yX6_living wsX6_living) := goodIn_app (goodIn_of _ (by decide +kernel)) ggX6_round_X6_living
set_option maxRecDepth 20000 in
theorem ggX6_round_X6_note : GoodIn wsX6_round wsX6_note := goodIn_r _ [13, 14, 15, 2, 73, 74, 75, 76, 77, 78, 79, 80, 81, 82, 83, 84, 85, 86, 87, 88, 89, 90, 91, 92, 93, 94, 95, 96, 97, 98, 99, 100] (by decide +kernel) (by decide +kernel)
set_option maxRecDepth 20000 in
theorem gX6_round_X6_note : GoodIn wsX6_round (wsV RX6 180 RX6 yX6_note wsX6_note) := goodIn_app (goodIn_of _ (by decide +kernel)) ggX6_round_X6_note
set_option maxRecDepth 20000 in
theorem ggX6_round_X6_roundOn : GoodIn wsX6_round wsX6_roundOn := goodIn_r _ [19, 20, 21, 22, 5, 23, 24, 25, 26, 27, 7, 8, 9, 28, 29, 30, 31, 32, 33, 34, 35, 36, 37, 38, 39, 40, 41, 42, 43, 44, 45, 46, 47, 48, 49, 50, 51, 52, 53, 54, 55, 56, 57, 58, 59, 60, 61, 62, 63, 64, 65, 66, 67, 68, 69, 70, 71, 72, 73, 74, 75, 76, 77, 78, 79, 80, 81, 82, 83, 84, 85, 86, 87, 88, 89, 90, 91, 92, 93, 94, 95, 96, 97, 98, 99, 100] (by decide +kernel) (by decide +kernel)
set_option maxRecDepth 20000 in
theorem gX6_round_X6_roundOn : GoodIn wsX6_round (wsV RX6 186 RX6 yX6_roundOn wsX6_roundOn) := goodIn_app (goodIn_of _ (by decide +kernel)) ggX6_round_X6_roundOn
theorem dX6_round_0 : decode cX6_round 0 = .ok (.aload_n 0, 1) := by decide +kernel
theorem dX6_round_1 : decode cX6_round 1 = .ok (.iconst 0, 1) := by decide +kernel
theorem dX6_round_2 : decode cX6_round 2 = .ok (.putfield 61, 3) := by decide +kernel
theorem dX6_round_5 : decode cX6_round 5 = .ok (.aload_n 0, 1) := by decide +kernel
theorem dX6_round_6 : decode cX6_round 6 = .ok (.getfield 29, 3) := by decide +kernel
theorem dX6_round_9 : decode cX6_round 9 = .ok (.invokestatic 183, 3) := by decide +kernel
theorem dX6_round_12 : decode cX6_round 12 = .ok (.ifCond .ne 6, 3) := by decide +kernel
theorem dX6_round_15 : decode cX6_round 15 = .ok (.bipush (-3), 2) := by decide +kernel
theorem dX6_round_17 : decode cX6_round 17 = .ok (.ireturn, 1) := by decide +kernel
theorem dX6_round_18 : decode cX6_round 18 = .ok (.aload_n 0, 1) := by decide +kernel
theorem dX6_round_19 : decode cX6_round 19 = .ok (.invokevirtual 180, 3) := by decide +kernel
theorem dX6_round_22 : decode cX6_round 22 = .ok (.aload_n 0, 1) := by decide +kernel
theorem dX6_round_23 : decode cX6_round 23 = .ok (.aload_n 0, 1) := by decide +kernel
theorem dX6_round_24 : decode cX6_round 24 = .ok (.getfield 29, 3) := by decide +kernel
theorem dX6_round_27 : decode cX6_round 27 = .ok (.invokevirtual 186, 3) := by decide +kernel
theorem dX6_round_30 : decode cX6_round 30 = .ok (.ireturn, 1) := by decide +kernel
set_option maxRecDepth 20000 in
theorem ggX6_join_X6_note : GoodIn wsX6_join wsX6_note := goodIn_r _ [8, 9, 10, 2, 11, 12, 13, 14, 15, 16, 17, 18, 19, 20, 21, 22, 23, 24, 25, 26, 27, 28, 29, 30, 31, 32, 33, 34, 35, 36, 37, 38] (by decide +kernel) (by decide +kernel)
set_option maxRecDepth 20000 in
theorem gX6_join_X6_note : GoodIn wsX6_join (wsV RX6 180 RX6 yX6_note wsX6_note) := goodIn_app (goodIn_of _ (by decide +kernel)) ggX6_join_X6_note
theorem dX6_join_0 : decode cX6_join 0 = .ok (.aload_n 0, 1) := by decide +kernel
theorem dX6_join_1 : decode cX6_join 1 = .ok (.iconst 0, 1) := by decide +kernel
theorem dX6_join_2 : decode cX6_join 2 = .ok (.putfield 61, 3) := by decide +kernel
theorem dX6_join_5 : decode cX6_join 5 = .ok (.aload_n 0, 1) := by decide +kernel
theorem dX6_join_6 : decode cX6_join 6 = .ok (.getfield 29, 3) := by decide +kernel
theorem dX6_join_9 : decode cX6_join 9 = .ok (.iconst 1, 1) := by decide +kernel
theorem dX6_join_10 : decode cX6_join 10 = .ok (.iaload, 1) := by decide +kernel
theorem dX6_join_11 : decode cX6_join 11 = .ok (.iconst 4, 1) := by decide +kernel
theorem dX6_join_12 : decode cX6_join 12 = .ok (.if_icmp .ne 6, 3) := by decide +kernel
theorem dX6_join_15 : decode cX6_join 15 = .ok (.bipush (-4), 2) := by decide +kernel
theorem dX6_join_17 : decode cX6_join 17 = .ok (.ireturn, 1) := by decide +kernel
theorem dX6_join_18 : decode cX6_join 18 = .ok (.aload_n 0, 1) := by decide +kernel
theorem dX6_join_19 : decode cX6_join 19 = .ok (.invokevirtual 180, 3) := by decide +kernel
theorem dX6_join_22 : decode cX6_join 22 = .ok (.aload_n 0, 1) := by decide +kernel
theorem dX6_join_23 : decode cX6_join 23 = .ok (.getfield 29, 3) := by decide +kernel
theorem dX6_join_26 : decode cX6_join 26 = .ok (.iconst 1, 1) := by decide +kernel
theorem dX6_join_27 : decode cX6_join 27 = .ok (.iaload, 1) := by decide +kernel
theorem dX6_join_28 : decode cX6_join 28 = .ok (.istore_n 1, 1) := by decide +kernel
theorem dX6_join_29 : decode cX6_join 29 = .ok (.aload_n 0, 1) := by decide +kernel
theorem dX6_join_30 : decode cX6_join 30 = .ok (.getfield 29, 3) := by decide +kernel
theorem dX6_join_33 : decode cX6_join 33 = .ok (.iconst 3, 1) := by decide +kernel
theorem dX6_join_34 : decode cX6_join 34 = .ok (.iload_n 1, 1) := by decide +kernel
theorem dX6_join_35 : decode cX6_join 35 = .ok (.iadd, 1) := by decide +kernel
theorem dX6_join_36 : decode cX6_join 36 = .ok (.aload_n 0, 1) := by decide +kernel
theorem dX6_join_37 : decode cX6_join 37 = .ok (.getfield 64, 3) := by decide +kernel
theorem dX6_join_40 : decode cX6_join 40 = .ok (.iastore, 1) := by decide +kernel
theorem dX6_join_41 : decode cX6_join 41 = .ok (.aload_n 0, 1) := by decide +kernel
theorem dX6_join_42 : decode cX6_join 42 = .ok (.getfield 29, 3) := by decide +kernel
theorem dX6_join_45 : decode cX6_join 45 = .ok (.bipush 7, 2) := by decide +kernel
theorem dX6_join_47 : decode cX6_join 47 = .ok (.iload_n 1, 1) := by decide +kernel
theorem dX6_join_48 : decode cX6_join 48 = .ok (.iadd, 1) := by decide +kernel
theorem dX6_join_49 : decode cX6_join 49 = .ok (.iconst 0, 1) := by decide +kernel
theorem dX6_join_50 : decode cX6_join 50 = .ok (.iastore, 1) := by decide +kernel
theorem dX6_join_51 : decode cX6_join 51 = .ok (.aload_n 0, 1) := by decide +kernel
theorem dX6_join_52 : decode cX6_join 52 = .ok (.getfield 29, 3) := by decide +kernel
theorem dX6_join_55 : decode cX6_join 55 = .ok (.iconst 1, 1) := by decide +kernel
theorem dX6_join_56 : decode cX6_join 56 = .ok (.dup2, 1) := by decide +kernel
theorem dX6_join_57 : decode cX6_join 57 = .ok (.iaload, 1) := by decide +kernel
theorem dX6_join_58 : decode cX6_join 58 = .ok (.iconst 1, 1) := by decide +kernel
theorem dX6_join_59 : decode cX6_join 59 = .ok (.iadd, 1) := by decide +kernel
theorem dX6_join_60 : decode cX6_join 60 = .ok (.iastore, 1) := by decide +kernel
theorem dX6_join_61 : decode cX6_join 61 = .ok (.iload_n 1, 1) := by decide +kernel
theorem dX6_join_62 : decode cX6_join 62 = .ok (.ireturn, 1) := by decide +kernel
set_option maxRecDepth 20000 in
theorem ggX6_hide_X6_noPlace : GoodIn wsX6_hide wsX6_noPlace := goodIn_r _ [7, 8, 9, 10, 6, 11, 37, 38, 39, 40, 41, 42, 43, 44, 45, 46, 47, 48, 49, 50, 51, 52, 53, 54, 55, 56, 57, 58, 59, 60, 61, 62, 63, 64] (by decide +kernel) (by decide +kernel)
set_option maxRecDepth 20000 in
theorem gX6_hide_X6_noPlace : GoodIn wsX6_hide (wsV RX6 189 RX6 yX6_noPlace wsX6_noPlace) := goodIn_app (goodIn_of _ (by decide +kernel)) ggX6_hide_X6_noPlace
set_option maxRecDepth 20000 in
theorem ggX6_hide_X6_isFree : GoodIn wsX6_hide wsX6_isFree := goodIn_r _ [15, 16, 17, 18, 6, 19, 8, 20, 21, 22, 23, 24, 25, 26, 27, 28, 29, 30, 37, 38, 39, 40, 41, 42, 43, 44, 45, 46, 47, 48, 49, 50, 51, 52, 53, 54, 55, 56, 57, 58, 59, 60, 61, 62, 63, 64] (by decide +kernel) (by decide +kernel)
set_option maxRecDepth 20000 in
theorem gX6_hide_X6_isFree : GoodIn wsX6_hide (wsV RX6 121 RX6 yX6_isFree wsX6_isFree) := goodIn_app (goodIn_of _ (by decide +kernel)) ggX6_hide_X6_isFree
set_option maxRecDepth 20000 in
theorem ggX6_hide_X6_note : GoodIn wsX6_hide wsX6_note := goodIn_r _ [34, 35, 36, 2, 37, 38, 39, 40, 41, 42, 43, 44, 45, 46, 47, 48, 49, 50, 51, 52, 53, 54, 55, 56, 57, 58, 59, 60, 61, 62, 63, 64] (by decide +kernel) (by decide +kernel)
set_option maxRecDepth 20000 in
theorem gX6_hide_X6_note : GoodIn wsX6_hide (wsV RX6 180 RX6 yX6_note wsX6_note) := goodIn_app (goodIn_of _ (by decide +kernel)) ggX6_hide_X6_note
theorem dX6_hide_0 : decode cX6_hide 0 = .ok (.aload_n 0, 1) := by decide +kernel
theorem dX6_hide_1 : decode cX6_hide 1 = .ok (.iconst 0, 1) := by decide +kernel
theorem dX6_hide_2 : decode cX6_hide 2 = .ok (.putfield 61, 3) := by decide +kernel
theorem dX6_hide_5 : decode cX6_hide 5 = .ok (.aload_n 0, 1) := by decide +kernel
theorem dX6_hide_6 : decode cX6_hide 6 = .ok (.iload_n 1, 1) := by decide +kernel
theorem dX6_hide_7 : decode cX6_hide 7 = .ok (.invokevirtual 189, 3) := by decide +kernel
theorem dX6_hide_10 : decode cX6_hide 10 = .ok (.ifCond .eq 5, 3) := by decide +kernel
theorem dX6_hide_13 : decode cX6_hide 13 = .ok (.iconst (-1), 1) := by decide +kernel
theorem dX6_hide_14 : decode cX6_hide 14 = .ok (.ireturn, 1) := by decide +kernel
theorem dX6_hide_15 : decode cX6_hide 15 = .ok (.iload_n 1, 1) := by decide +kernel
theorem dX6_hide_16 : decode cX6_hide 16 = .ok (.aload_n 0, 1) := by decide +kernel
theorem dX6_hide_17 : decode cX6_hide 17 = .ok (.getfield 29, 3) := by decide +kernel
theorem dX6_hide_20 : decode cX6_hide 20 = .ok (.iconst 0, 1) := by decide +kernel
theorem dX6_hide_21 : decode cX6_hide 21 = .ok (.iaload, 1) := by decide +kernel
theorem dX6_hide_22 : decode cX6_hide 22 = .ok (.if_icmp .eq 15, 3) := by decide +kernel
theorem dX6_hide_25 : decode cX6_hide 25 = .ok (.aload_n 0, 1) := by decide +kernel
theorem dX6_hide_26 : decode cX6_hide 26 = .ok (.aload_n 0, 1) := by decide +kernel
theorem dX6_hide_27 : decode cX6_hide 27 = .ok (.getfield 29, 3) := by decide +kernel
theorem dX6_hide_30 : decode cX6_hide 30 = .ok (.iload_n 1, 1) := by decide +kernel
theorem dX6_hide_31 : decode cX6_hide 31 = .ok (.invokevirtual 121, 3) := by decide +kernel
theorem dX6_hide_34 : decode cX6_hide 34 = .ok (.ifCond .ne 6, 3) := by decide +kernel
theorem dX6_hide_37 : decode cX6_hide 37 = .ok (.bipush (-3), 2) := by decide +kernel
theorem dX6_hide_39 : decode cX6_hide 39 = .ok (.ireturn, 1) := by decide +kernel
theorem dX6_hide_40 : decode cX6_hide 40 = .ok (.aload_n 0, 1) := by decide +kernel
theorem dX6_hide_41 : decode cX6_hide 41 = .ok (.invokevirtual 180, 3) := by decide +kernel
theorem dX6_hide_44 : decode cX6_hide 44 = .ok (.aload_n 0, 1) := by decide +kernel
theorem dX6_hide_45 : decode cX6_hide 45 = .ok (.getfield 29, 3) := by decide +kernel
theorem dX6_hide_48 : decode cX6_hide 48 = .ok (.iconst 0, 1) := by decide +kernel
theorem dX6_hide_49 : decode cX6_hide 49 = .ok (.iaload, 1) := by decide +kernel
theorem dX6_hide_50 : decode cX6_hide 50 = .ok (.istore_n 2, 1) := by decide +kernel
theorem dX6_hide_51 : decode cX6_hide 51 = .ok (.aload_n 0, 1) := by decide +kernel
theorem dX6_hide_52 : decode cX6_hide 52 = .ok (.getfield 29, 3) := by decide +kernel
theorem dX6_hide_55 : decode cX6_hide 55 = .ok (.iconst 0, 1) := by decide +kernel
theorem dX6_hide_56 : decode cX6_hide 56 = .ok (.iload_n 1, 1) := by decide +kernel
theorem dX6_hide_57 : decode cX6_hide 57 = .ok (.iastore, 1) := by decide +kernel
theorem dX6_hide_58 : decode cX6_hide 58 = .ok (.iload_n 2, 1) := by decide +kernel
theorem dX6_hide_59 : decode cX6_hide 59 = .ok (.ireturn, 1) := by decide +kernel
theorem dX6_undo_0 : decode cX6_undo 0 = .ok (.aload_n 0, 1) := by decide +kernel
theorem dX6_undo_1 : decode cX6_undo 1 = .ok (.iconst 0, 1) := by decide +kernel
theorem dX6_undo_2 : decode cX6_undo 2 = .ok (.putfield 61, 3) := by decide +kernel
theorem dX6_undo_5 : decode cX6_undo 5 = .ok (.aload_n 0, 1) := by decide +kernel
theorem dX6_undo_6 : decode cX6_undo 6 = .ok (.getfield 163, 3) := by decide +kernel
theorem dX6_undo_9 : decode cX6_undo 9 = .ok (.ifCond .ne 6, 3) := by decide +kernel
theorem dX6_undo_12 : decode cX6_undo 12 = .ok (.bipush (-3), 2) := by decide +kernel
theorem dX6_undo_14 : decode cX6_undo 14 = .ok (.ireturn, 1) := by decide +kernel
theorem dX6_undo_15 : decode cX6_undo 15 = .ok (.aload_n 0, 1) := by decide +kernel
theorem dX6_undo_16 : decode cX6_undo 16 = .ok (.dup, 1) := by decide +kernel
theorem dX6_undo_17 : decode cX6_undo 17 = .ok (.getfield 163, 3) := by decide +kernel
theorem dX6_undo_20 : decode cX6_undo 20 = .ok (.iconst 1, 1) := by decide +kernel
theorem dX6_undo_21 : decode cX6_undo 21 = .ok (.isub, 1) := by decide +kernel
theorem dX6_undo_22 : decode cX6_undo 22 = .ok (.putfield 163, 3) := by decide +kernel
theorem dX6_undo_25 : decode cX6_undo 25 = .ok (.iconst 0, 1) := by decide +kernel
theorem dX6_undo_26 : decode cX6_undo 26 = .ok (.istore_n 1, 1) := by decide +kernel
theorem dX6_undo_27 : decode cX6_undo 27 = .ok (.iload_n 1, 1) := by decide +kernel
theorem dX6_undo_28 : decode cX6_undo 28 = .ok (.bipush 21, 2) := by decide +kernel
theorem dX6_undo_30 : decode cX6_undo 30 = .ok (.if_icmp .ge 29, 3) := by decide +kernel
theorem dX6_undo_33 : decode cX6_undo 33 = .ok (.aload_n 0, 1) := by decide +kernel
theorem dX6_undo_34 : decode cX6_undo 34 = .ok (.getfield 29, 3) := by decide +kernel
theorem dX6_undo_37 : decode cX6_undo 37 = .ok (.iload_n 1, 1) := by decide +kernel
theorem dX6_undo_38 : decode cX6_undo 38 = .ok (.aload_n 0, 1) := by decide +kernel
theorem dX6_undo_39 : decode cX6_undo 39 = .ok (.getfield 35, 3) := by decide +kernel
theorem dX6_undo_42 : decode cX6_undo 42 = .ok (.bipush 21, 2) := by decide +kernel
theorem dX6_undo_44 : decode cX6_undo 44 = .ok (.aload_n 0, 1) := by decide +kernel
theorem dX6_undo_45 : decode cX6_undo 45 = .ok (.getfield 163, 3) := by decide +kernel
theorem dX6_undo_48 : decode cX6_undo 48 = .ok (.imul, 1) := by decide +kernel
theorem dX6_undo_49 : decode cX6_undo 49 = .ok (.iload_n 1, 1) := by decide +kernel
theorem dX6_undo_50 : decode cX6_undo 50 = .ok (.iadd, 1) := by decide +kernel
theorem dX6_undo_51 : decode cX6_undo 51 = .ok (.iaload, 1) := by decide +kernel
theorem dX6_undo_52 : decode cX6_undo 52 = .ok (.iastore, 1) := by decide +kernel
theorem dX6_undo_53 : decode cX6_undo 53 = .ok (.iinc 1 1, 3) := by decide +kernel
theorem dX6_undo_56 : decode cX6_undo 56 = .ok (.goto (-29), 3) := by decide +kernel
theorem dX6_undo_59 : decode cX6_undo 59 = .ok (.aload_n 0, 1) := by decide +kernel
theorem dX6_undo_60 : decode cX6_undo 60 = .ok (.getfield 163, 3) := by decide +kernel
theorem dX6_undo_63 : decode cX6_undo 63 = .ok (.ireturn, 1) := by decide +kernel
set_option maxRecDepth 20000 in
theorem ggX6_runTrial_X6_isKnown : GoodIn wsX6_runTrial wsX6_isKnown := goodIn_r _ [6, 7, 8, 9, 5, 10, 11, 12, 13, 14, 15, 16, 17, 18, 19, 20, 21, 22, 63, 64, 65, 66, 67, 68, 69, 70, 71, 72, 73, 74, 75, 76, 77, 78, 79, 80, 81, 82, 83, 84, 85, 86, 87, 88, 89, 90] (by decide +kernel) (by decide +kernel)
set_option maxRecDepth 20000 in
theorem gX6_runTrial_X6_isKnown : GoodIn wsX6_runTrial (wsV RX6 108 RX6 yX6_isKnown wsX6_isKnown) := goodIn_app (goodIn_of _ (by decide +kernel)) ggX6_runTrial_X6_isKnown
set_option maxRecDepth 20000 in
theorem ggX6_runTrial_X6_roundOn : GoodIn wsX6_runTrial wsX6_roundOn := goodIn_r _ [26, 27, 28, 29, 5, 30, 31, 32, 33, 34, 35, 36, 37, 2, 3, 4, 6, 7, 8, 9, 10, 11, 12, 13, 14, 15, 16, 17, 18, 19, 20, 21, 22, 38, 39, 40, 41, 42, 43, 44, 45, 46, 47, 48, 49, 50, 51, 52, 53, 54, 55, 56, 57, 58, 59, 60, 61, 62, 63, 64, 65, 66, 67, 68, 69, 70, 71, 72, 73, 74, 75, 76, 77, 78, 79, 80, 81, 82, 83, 84, 85, 86, 87, 88, 89, 90] (by decide +kernel) (by decide +kernel)
set_option maxRecDepth 20000 in
theorem gX6_runTrial_X6_roundOn : GoodIn wsX6_runTrial (wsV RX6 186 RX6 yX6_roundOn wsX6_roundOn) := goodIn_app (goodIn_of _ (by decide +kernel)) ggX6_runTrial_X6_roundOn
theorem dX6_runTrial_0 : decode cX6_runTrial 0 = .ok (.iconst 0, 1) := by decide +kernel
theorem dX6_runTrial_1 : decode cX6_runTrial 1 = .ok (.istore_n 1, 1) := by decide +kernel
theorem dX6_runTrial_2 : decode cX6_runTrial 2 = .ok (.iload_n 1, 1) := by decide +kernel
theorem dX6_runTrial_3 : decode cX6_runTrial 3 = .ok (.bipush 61, 2) := by decide +kernel
theorem dX6_runTrial_5 : decode cX6_runTrial 5 = .ok (.if_icmp .ge 31, 3) := by decide +kernel
theorem dX6_runTrial_8 : decode cX6_runTrial 8 = .ok (.aload_n 0, 1) := by decide +kernel
theorem dX6_runTrial_9 : decode cX6_runTrial 9 = .ok (.aload_n 0, 1) := by decide +kernel
theorem dX6_runTrial_10 : decode cX6_runTrial 10 = .ok (.getfield 32, 3) := by decide +kernel
theorem dX6_runTrial_13 : decode cX6_runTrial 13 = .ok (.invokevirtual 108, 3) := by decide +kernel
theorem dX6_runTrial_16 : decode cX6_runTrial 16 = .ok (.ifCond .eq 5, 3) := by decide +kernel
theorem dX6_runTrial_19 : decode cX6_runTrial 19 = .ok (.iload_n 1, 1) := by decide +kernel
theorem dX6_runTrial_20 : decode cX6_runTrial 20 = .ok (.ireturn, 1) := by decide +kernel
theorem dX6_runTrial_21 : decode cX6_runTrial 21 = .ok (.aload_n 0, 1) := by decide +kernel
theorem dX6_runTrial_22 : decode cX6_runTrial 22 = .ok (.aload_n 0, 1) := by decide +kernel
theorem dX6_runTrial_23 : decode cX6_runTrial 23 = .ok (.getfield 32, 3) := by decide +kernel
theorem dX6_runTrial_26 : decode cX6_runTrial 26 = .ok (.invokevirtual 186, 3) := by decide +kernel
theorem dX6_runTrial_29 : decode cX6_runTrial 29 = .ok (.pop, 1) := by decide +kernel
theorem dX6_runTrial_30 : decode cX6_runTrial 30 = .ok (.iinc 1 1, 3) := by decide +kernel
theorem dX6_runTrial_33 : decode cX6_runTrial 33 = .ok (.goto (-31), 3) := by decide +kernel
theorem dX6_runTrial_36 : decode cX6_runTrial 36 = .ok (.bipush (-9), 2) := by decide +kernel
theorem dX6_runTrial_38 : decode cX6_runTrial 38 = .ok (.ireturn, 1) := by decide +kernel
set_option maxRecDepth 20000 in
theorem ggX6_worst_X6_isFree : GoodIn wsX6_worst wsX6_isFree := goodIn_r _ [8, 9, 10, 11, 7, 12, 1, 13, 14, 15, 16, 17, 18, 19, 20, 21, 22, 23, 75, 76, 77, 78, 79, 80, 81, 82, 83, 84, 85, 86, 87, 88, 89, 90, 91, 92, 93, 94, 95, 96, 97, 98, 99, 100, 101, 102] (by decide +kernel) (by decide +kernel)
set_option maxRecDepth 20000 in
theorem gX6_worst_X6_isFree : GoodIn wsX6_worst (wsV RX6 121 RX6 yX6_isFree wsX6_isFree) := goodIn_app (goodIn_of _ (by decide +kernel)) ggX6_worst_X6_isFree
set_option maxRecDepth 20000 in
theorem ggX6_worst_X6_lay : GoodIn wsX6_worst wsX6_lay := goodIn_r _ [26] (by decide +kernel) (by decide +kernel)
set_option maxRecDepth 20000 in
theorem gX6_worst_X6_lay : GoodIn wsX6_worst (va_wsS RX6 192 yX6_lay wsX6_lay) := goodIn_app (goodIn_of _ (by decide +kernel)) ggX6_worst_X6_lay
set_option maxRecDepth 20000 in
theorem ggX6_worst_X6_runTrial : GoodIn wsX6_worst wsX6_runTrial := goodIn_r _ [30, 3, 31, 32, 33, 7, 34, 9, 10, 11, 12, 1, 13, 14, 15, 16, 17, 18, 19, 20, 35, 36, 37, 38, 39, 40, 41, 42, 21, 22, 23, 43, 44, 45, 46, 47, 48, 49, 50, 51, 52, 53, 54, 55, 56, 57, 58, 59, 60, 61, 62, 63, 64, 65, 66, 67, 68, 69, 70, 71, 72, 73, 74, 75, 76, 77, 78, 79, 80, 81, 82, 83, 84, 85, 86, 87, 88, 89, 90, 91, 92, 93, 94, 95, 96, 97, 98, 99, 100, 101, 102] (by decide +kernel) (by decide +kernel)
set_option maxRecDepth 20000 in
theorem gX6_worst_X6_runTrial : GoodIn wsX6_worst (wsV RX6 196 RX6 yX6_runTrial wsX6_runTrial) := goodIn_app (goodIn_of _ (by decide +kernel)) ggX6_worst_X6_runTrial
theorem dX6_worst_0 : decode cX6_worst 0 = .ok (.bipush (-9), 2) := by decide +kernel
theorem dX6_worst_2 : decode cX6_worst 2 = .ok (.istore_n 1, 1) := by decide +kernel
theorem dX6_worst_3 : decode cX6_worst 3 = .ok (.iconst (-1), 1) := by decide +kernel
theorem dX6_worst_4 : decode cX6_worst 4 = .ok (.istore_n 2, 1) := by decide +kernel
theorem dX6_worst_5 : decode cX6_worst 5 = .ok (.iconst 0, 1) := by decide +kernel
theorem dX6_worst_6 : decode cX6_worst 6 = .ok (.istore_n 3, 1) := by decide +kernel
theorem dX6_worst_7 : decode cX6_worst 7 = .ok (.iload_n 3, 1) := by decide +kernel
theorem dX6_worst_8 : decode cX6_worst 8 = .ok (.aload_n 0, 1) := by decide +kernel
theorem dX6_worst_9 : decode cX6_worst 9 = .ok (.getfield 13, 3) := by decide +kernel
theorem dX6_worst_12 : decode cX6_worst 12 = .ok (.if_icmp .ge 86, 3) := by decide +kernel
theorem dX6_worst_15 : decode cX6_worst 15 = .ok (.aload_n 0, 1) := by decide +kernel
theorem dX6_worst_16 : decode cX6_worst 16 = .ok (.aload_n 0, 1) := by decide +kernel
theorem dX6_worst_17 : decode cX6_worst 17 = .ok (.getfield 29, 3) := by decide +kernel
theorem dX6_worst_20 : decode cX6_worst 20 = .ok (.iload_n 3, 1) := by decide +kernel
theorem dX6_worst_21 : decode cX6_worst 21 = .ok (.invokevirtual 121, 3) := by decide +kernel
theorem dX6_worst_24 : decode cX6_worst 24 = .ok (.ifCond .eq 68, 3) := by decide +kernel
theorem dX6_worst_27 : decode cX6_worst 27 = .ok (.aload_n 0, 1) := by decide +kernel
theorem dX6_worst_28 : decode cX6_worst 28 = .ok (.getfield 29, 3) := by decide +kernel
theorem dX6_worst_31 : decode cX6_worst 31 = .ok (.aload_n 0, 1) := by decide +kernel
theorem dX6_worst_32 : decode cX6_worst 32 = .ok (.getfield 32, 3) := by decide +kernel
theorem dX6_worst_35 : decode cX6_worst 35 = .ok (.invokestatic 192, 3) := by decide +kernel
theorem dX6_worst_38 : decode cX6_worst 38 = .ok (.aload_n 0, 1) := by decide +kernel
theorem dX6_worst_39 : decode cX6_worst 39 = .ok (.getfield 32, 3) := by decide +kernel
theorem dX6_worst_42 : decode cX6_worst 42 = .ok (.iconst 0, 1) := by decide +kernel
theorem dX6_worst_43 : decode cX6_worst 43 = .ok (.iload_n 3, 1) := by decide +kernel
theorem dX6_worst_44 : decode cX6_worst 44 = .ok (.iastore, 1) := by decide +kernel
theorem dX6_worst_45 : decode cX6_worst 45 = .ok (.aload_n 0, 1) := by decide +kernel
theorem dX6_worst_46 : decode cX6_worst 46 = .ok (.invokevirtual 196, 3) := by decide +kernel
theorem dX6_worst_49 : decode cX6_worst 49 = .ok (.istore 4, 2) := by decide +kernel
theorem dX6_worst_51 : decode cX6_worst 51 = .ok (.iload 4, 2) := by decide +kernel
theorem dX6_worst_53 : decode cX6_worst 53 = .ok (.bipush (-9), 2) := by decide +kernel
theorem dX6_worst_55 : decode cX6_worst 55 = .ok (.if_icmp .ne 8, 3) := by decide +kernel
theorem dX6_worst_58 : decode cX6_worst 58 = .ok (.bipush 99, 2) := by decide +kernel
theorem dX6_worst_60 : decode cX6_worst 60 = .ok (.goto 5, 3) := by decide +kernel
theorem dX6_worst_63 : decode cX6_worst 63 = .ok (.iload 4, 2) := by decide +kernel
theorem dX6_worst_65 : decode cX6_worst 65 = .ok (.istore 4, 2) := by decide +kernel
theorem dX6_worst_67 : decode cX6_worst 67 = .ok (.iload 4, 2) := by decide +kernel
theorem dX6_worst_69 : decode cX6_worst 69 = .ok (.iload_n 2, 1) := by decide +kernel
theorem dX6_worst_70 : decode cX6_worst 70 = .ok (.if_icmp .le 7, 3) := by decide +kernel
theorem dX6_worst_73 : decode cX6_worst 73 = .ok (.iload_n 3, 1) := by decide +kernel
theorem dX6_worst_74 : decode cX6_worst 74 = .ok (.goto 4, 3) := by decide +kernel
theorem dX6_worst_77 : decode cX6_worst 77 = .ok (.iload_n 1, 1) := by decide +kernel
theorem dX6_worst_78 : decode cX6_worst 78 = .ok (.istore_n 1, 1) := by decide +kernel
theorem dX6_worst_79 : decode cX6_worst 79 = .ok (.iload 4, 2) := by decide +kernel
theorem dX6_worst_81 : decode cX6_worst 81 = .ok (.iload_n 2, 1) := by decide +kernel
theorem dX6_worst_82 : decode cX6_worst 82 = .ok (.if_icmp .le 8, 3) := by decide +kernel
theorem dX6_worst_85 : decode cX6_worst 85 = .ok (.iload 4, 2) := by decide +kernel
theorem dX6_worst_87 : decode cX6_worst 87 = .ok (.goto 4, 3) := by decide +kernel
theorem dX6_worst_90 : decode cX6_worst 90 = .ok (.iload_n 2, 1) := by decide +kernel
theorem dX6_worst_91 : decode cX6_worst 91 = .ok (.istore_n 2, 1) := by decide +kernel
theorem dX6_worst_92 : decode cX6_worst 92 = .ok (.iinc 3 1, 3) := by decide +kernel
theorem dX6_worst_95 : decode cX6_worst 95 = .ok (.goto (-88), 3) := by decide +kernel
theorem dX6_worst_98 : decode cX6_worst 98 = .ok (.iload_n 1, 1) := by decide +kernel
theorem dX6_worst_99 : decode cX6_worst 99 = .ok (.ireturn, 1) := by decide +kernel
set_option maxRecDepth 20000 in
theorem ggX6_fewest_X6_layFirst : GoodIn wsX6_fewest wsX6_layFirst := goodIn_r _ [8, 2, 74, 75, 76, 77, 78, 79, 80, 81, 82, 83, 84, 85, 86, 87, 88, 89, 90, 91, 92, 93, 94, 95, 96, 97, 98, 99, 100, 101] (by decide +kernel) (by decide +kernel)
set_option maxRecDepth 20000 in
theorem gX6_fewest_X6_layFirst : GoodIn wsX6_fewest (wsV RX6 57 RX6 yX6_layFirst wsX6_layFirst) := goodIn_app (goodIn_of _ (by decide +kernel)) ggX6_fewest_X6_layFirst
set_option maxRecDepth 20000 in
theorem ggX6_fewest_X6_runTrial : GoodIn wsX6_fewest wsX6_runTrial := goodIn_r _ [12, 3, 13, 14, 15, 7, 16, 17, 18, 19, 20, 1, 21, 22, 23, 24, 2, 25, 26, 27, 28, 29, 30, 31, 32, 33, 34, 35, 36, 37, 38, 39, 40, 41, 42, 43, 44, 45, 46, 47, 48, 49, 50, 51, 52, 53, 54, 55, 56, 57, 58, 59, 60, 61, 62, 63, 64, 65, 66, 67, 68, 69, 70, 74, 75, 76, 77, 78, 79, 80, 81, 82, 83, 84, 85, 86, 87, 88, 89, 90, 91, 92, 93, 94, 95, 96, 97, 98, 99, 100, 101] (by decide +kernel) (by decide +kernel)
set_option maxRecDepth 20000 in
theorem gX6_fewest_X6_runTrial : GoodIn wsX6_fewest (wsV RX6 196 RX6 yX6_runTrial wsX6_runTrial) := goodIn_app (goodIn_of _ (by decide +kernel)) ggX6_fewest_X6_runTrial
set_option maxRecDepth 20000 in
theorem ggX6_fewest_X6_living : GoodIn wsX6_fewest wsX6_living := goodIn_r _ [73, 43, 44, 7, 45] (by decide +kernel) (by decide +kernel)
set_option maxRecDepth 20000 in
theorem gX6_fewest_X6_living : GoodIn wsX6_fewest (va_wsS RX6 183 yX6_living wsX6_living) := goodIn_app (goodIn_of _ (by decide +kernel)) ggX6_fewest_X6_living
theorem dX6_fewest_0 : decode cX6_fewest 0 = .ok (.iconst 1, 1) := by decide +kernel
theorem dX6_fewest_1 : decode cX6_fewest 1 = .ok (.istore_n 1, 1) := by decide +kernel
theorem dX6_fewest_2 : decode cX6_fewest 2 = .ok (.iload_n 1, 1) := by decide +kernel
theorem dX6_fewest_3 : decode cX6_fewest 3 = .ok (.iconst 5, 1) := by decide +kernel
theorem dX6_fewest_4 : decode cX6_fewest 4 = .ok (.if_icmp .ge 80, 3) := by decide +kernel
theorem dX6_fewest_7 : decode cX6_fewest 7 = .ok (.iconst 1, 1) := by decide +kernel
theorem dX6_fewest_8 : decode cX6_fewest 8 = .ok (.istore_n 2, 1) := by decide +kernel
theorem dX6_fewest_9 : decode cX6_fewest 9 = .ok (.iconst 0, 1) := by decide +kernel
theorem dX6_fewest_10 : decode cX6_fewest 10 = .ok (.istore_n 3, 1) := by decide +kernel
theorem dX6_fewest_11 : decode cX6_fewest 11 = .ok (.iload_n 3, 1) := by decide +kernel
theorem dX6_fewest_12 : decode cX6_fewest 12 = .ok (.aload_n 0, 1) := by decide +kernel
theorem dX6_fewest_13 : decode cX6_fewest 13 = .ok (.getfield 13, 3) := by decide +kernel
theorem dX6_fewest_16 : decode cX6_fewest 16 = .ok (.if_icmp .ge 56, 3) := by decide +kernel
theorem dX6_fewest_19 : decode cX6_fewest 19 = .ok (.iload_n 3, 1) := by decide +kernel
theorem dX6_fewest_20 : decode cX6_fewest 20 = .ok (.aload_n 0, 1) := by decide +kernel
theorem dX6_fewest_21 : decode cX6_fewest 21 = .ok (.getfield 64, 3) := by decide +kernel
theorem dX6_fewest_24 : decode cX6_fewest 24 = .ok (.if_icmp .eq 42, 3) := by decide +kernel
theorem dX6_fewest_27 : decode cX6_fewest 27 = .ok (.aload_n 0, 1) := by decide +kernel
theorem dX6_fewest_28 : decode cX6_fewest 28 = .ok (.aload_n 0, 1) := by decide +kernel
theorem dX6_fewest_29 : decode cX6_fewest 29 = .ok (.getfield 32, 3) := by decide +kernel
theorem dX6_fewest_32 : decode cX6_fewest 32 = .ok (.iload_n 3, 1) := by decide +kernel
theorem dX6_fewest_33 : decode cX6_fewest 33 = .ok (.iload_n 1, 1) := by decide +kernel
theorem dX6_fewest_34 : decode cX6_fewest 34 = .ok (.invokevirtual 57, 3) := by decide +kernel
theorem dX6_fewest_37 : decode cX6_fewest 37 = .ok (.iload_n 2, 1) := by decide +kernel
theorem dX6_fewest_38 : decode cX6_fewest 38 = .ok (.ifCond .eq 26, 3) := by decide +kernel
theorem dX6_fewest_41 : decode cX6_fewest 41 = .ok (.aload_n 0, 1) := by decide +kernel
theorem dX6_fewest_42 : decode cX6_fewest 42 = .ok (.invokevirtual 196, 3) := by decide +kernel
theorem dX6_fewest_45 : decode cX6_fewest 45 = .ok (.bipush (-9), 2) := by decide +kernel
theorem dX6_fewest_47 : decode cX6_fewest 47 = .ok (.if_icmp .eq 17, 3) := by decide +kernel
theorem dX6_fewest_50 : decode cX6_fewest 50 = .ok (.aload_n 0, 1) := by decide +kernel
theorem dX6_fewest_51 : decode cX6_fewest 51 = .ok (.getfield 32, 3) := by decide +kernel
theorem dX6_fewest_54 : decode cX6_fewest 54 = .ok (.invokestatic 183, 3) := by decide +kernel
theorem dX6_fewest_57 : decode cX6_fewest 57 = .ok (.ifCond .le 7, 3) := by decide +kernel
theorem dX6_fewest_60 : decode cX6_fewest 60 = .ok (.iconst 1, 1) := by decide +kernel
theorem dX6_fewest_61 : decode cX6_fewest 61 = .ok (.goto 4, 3) := by decide +kernel
theorem dX6_fewest_64 : decode cX6_fewest 64 = .ok (.iconst 0, 1) := by decide +kernel
theorem dX6_fewest_65 : decode cX6_fewest 65 = .ok (.istore_n 2, 1) := by decide +kernel
theorem dX6_fewest_66 : decode cX6_fewest 66 = .ok (.iinc 3 1, 3) := by decide +kernel
theorem dX6_fewest_69 : decode cX6_fewest 69 = .ok (.goto (-58), 3) := by decide +kernel
theorem dX6_fewest_72 : decode cX6_fewest 72 = .ok (.iload_n 2, 1) := by decide +kernel
theorem dX6_fewest_73 : decode cX6_fewest 73 = .ok (.ifCond .eq 5, 3) := by decide +kernel
theorem dX6_fewest_76 : decode cX6_fewest 76 = .ok (.iload_n 1, 1) := by decide +kernel
theorem dX6_fewest_77 : decode cX6_fewest 77 = .ok (.ireturn, 1) := by decide +kernel
theorem dX6_fewest_78 : decode cX6_fewest 78 = .ok (.iinc 1 1, 3) := by decide +kernel
theorem dX6_fewest_81 : decode cX6_fewest 81 = .ok (.goto (-79), 3) := by decide +kernel
theorem dX6_fewest_84 : decode cX6_fewest 84 = .ok (.bipush (-9), 2) := by decide +kernel
theorem dX6_fewest_86 : decode cX6_fewest 86 = .ok (.ireturn, 1) := by decide +kernel
set_option maxRecDepth 20000 in
theorem ggX6_ask_X6_living : GoodIn wsX6_ask wsX6_living := goodIn_r _ [6, 7, 8, 5, 9] (by decide +kernel) (by decide +kernel)
set_option maxRecDepth 20000 in
theorem gX6_ask_X6_living : GoodIn wsX6_ask (va_wsS RX6 183 yX6_living wsX6_living) := goodIn_app (goodIn_of _ (by decide +kernel)) ggX6_ask_X6_living
set_option maxRecDepth 20000 in
theorem ggX6_ask_X6_visited : GoodIn wsX6_ask wsX6_visited := goodIn_r _ [13, 14, 15, 16, 17, 95, 96, 97, 98, 99, 100, 101, 102, 103, 104, 105, 106, 107, 108, 109, 110, 111, 112, 113, 114, 115, 116, 117, 118, 119, 120, 121, 122] (by decide +kernel) (by decide +kernel)
set_option maxRecDepth 20000 in
theorem gX6_ask_X6_visited : GoodIn wsX6_ask (wsV RX6 78 RX6 yX6_visited wsX6_visited) := goodIn_app (goodIn_of _ (by decide +kernel)) ggX6_ask_X6_visited
set_option maxRecDepth 20000 in
theorem ggX6_ask_X6_mayBe : GoodIn wsX6_ask wsX6_mayBe := goodIn_r _ [21, 22, 10, 11, 12, 5, 13, 14, 15, 16, 17, 95, 96, 97, 98, 99, 100, 101, 102, 103, 104, 105, 106, 107, 108, 109, 110, 111, 112, 113, 114, 115, 116, 117, 118, 119, 120, 121, 122] (by decide +kernel) (by decide +kernel)
set_option maxRecDepth 20000 in
theorem gX6_ask_X6_mayBe : GoodIn wsX6_ask (wsV RX6 82 RX6 yX6_mayBe wsX6_mayBe) := goodIn_app (goodIn_of _ (by decide +kernel)) ggX6_ask_X6_mayBe
set_option maxRecDepth 20000 in
theorem ggX6_ask_X6_isKnown : GoodIn wsX6_ask wsX6_isKnown := goodIn_r _ [26, 18, 19, 20, 5, 21, 22, 10, 11, 12, 13, 14, 15, 16, 17, 27, 28, 29, 95, 96, 97, 98, 99, 100, 101, 102, 103, 104, 105, 106, 107, 108, 109, 110, 111, 112, 113, 114, 115, 116, 117, 118, 119, 120, 121, 122] (by decide +kernel) (by decide +kernel)
set_option maxRecDepth 20000 in
theorem gX6_ask_X6_isKnown : GoodIn wsX6_ask (wsV RX6 108 RX6 yX6_isKnown wsX6_isKnown) := goodIn_app (goodIn_of _ (by decide +kernel)) ggX6_ask_X6_isKnown
set_option maxRecDepth 20000 in
theorem ggX6_ask_X6_worst : GoodIn wsX6_ask wsX6_worst := goodIn_r _ [33, 22, 2, 34, 35, 36, 37, 5, 38, 18, 19, 20, 21, 10, 11, 12, 13, 14, 15, 16, 17, 39, 40, 41, 42, 43, 44, 45, 46, 47, 48, 23, 24, 25, 26, 27, 28, 29, 49, 50, 51, 52, 53, 54, 55, 56, 57, 7, 8, 9, 58, 59, 60, 61, 62, 63, 64, 65, 66, 67, 68, 69, 70, 71, 72, 73, 74, 75, 76, 77, 78, 79, 80, 81, 82, 95, 96, 97, 98, 99, 100, 101, 102, 103, 104, 105, 106, 107, 108, 109, 110, 111, 112, 113, 114, 115, 116, 117, 118, 119, 120, 121, 122] (by decide +kernel) (by decide +kernel)
set_option maxRecDepth 20000 in
theorem gX6_ask_X6_worst : GoodIn wsX6_ask (wsV RX6 199 RX6 yX6_worst wsX6_worst) := goodIn_app (goodIn_of _ (by decide +kernel)) ggX6_ask_X6_worst
set_option maxRecDepth 20000 in
theorem ggX6_ask_X6_fewest : GoodIn wsX6_ask wsX6_fewest := goodIn_r _ [86, 22, 14, 34, 87, 88, 89, 5, 90, 45, 46, 47, 48, 23, 24, 25, 26, 18, 19, 20, 21, 10, 11, 12, 13, 15, 16, 17, 27, 28, 29, 49, 50, 51, 52, 53, 39, 40, 41, 54, 55, 56, 57, 7, 8, 9, 58, 59, 60, 61, 62, 63, 64, 65, 66, 67, 68, 69, 70, 71, 72, 73, 74, 75, 76, 77, 78, 79, 80, 81, 82, 3, 4, 6, 95, 96, 97, 98, 99, 100, 101, 102, 103, 104, 105, 106, 107, 108, 109, 110, 111, 112, 113, 114, 115, 116, 117, 118, 119, 120, 121, 122] (by decide +kernel) (by decide +kernel)
set_option maxRecDepth 20000 in
theorem gX6_ask_X6_fewest : GoodIn wsX6_ask (wsV RX6 202 RX6 yX6_fewest wsX6_fewest) := goodIn_app (goodIn_of _ (by decide +kernel)) ggX6_ask_X6_fewest
set_option maxRecDepth 20000 in
theorem ggX6_ask_X6_fated : GoodIn wsX6_ask wsX6_fated := goodIn_r _ [94, 22, 2, 35, 36, 37, 5, 38, 18, 19, 20, 21, 10, 11, 12, 13, 14, 15, 16, 17, 39, 40, 41, 95, 96, 97, 98, 99, 100, 101, 102, 103, 104, 105, 106, 107, 108, 109, 110, 111, 112, 113, 114, 115, 116, 117, 118, 119, 120, 121, 122] (by decide +kernel) (by decide +kernel)
set_option maxRecDepth 20000 in
theorem gX6_ask_X6_fated : GoodIn wsX6_ask (wsV RX6 205 RX6 yX6_fated wsX6_fated) := goodIn_app (goodIn_of _ (by decide +kernel)) ggX6_ask_X6_fated
theorem dX6_ask_0 : decode cX6_ask 0 = .ok (.aload_n 0, 1) := by decide +kernel
theorem dX6_ask_1 : decode cX6_ask 1 = .ok (.iconst 0, 1) := by decide +kernel
theorem dX6_ask_2 : decode cX6_ask 2 = .ok (.putfield 61, 3) := by decide +kernel
theorem dX6_ask_5 : decode cX6_ask 5 = .ok (.iload_n 1, 1) := by decide +kernel
theorem dX6_ask_6 : decode cX6_ask 6 = .ok (.tableswitch 111 0 7 #[46, 54, 61, 70, 79, 96, 101, 106], 46) := by decide +kernel
theorem dX6_ask_52 : decode cX6_ask 52 = .ok (.aload_n 0, 1) := by decide +kernel
theorem dX6_ask_53 : decode cX6_ask 53 = .ok (.getfield 29, 3) := by decide +kernel
theorem dX6_ask_56 : decode cX6_ask 56 = .ok (.invokestatic 183, 3) := by decide +kernel
theorem dX6_ask_59 : decode cX6_ask 59 = .ok (.ireturn, 1) := by decide +kernel
theorem dX6_ask_60 : decode cX6_ask 60 = .ok (.aload_n 0, 1) := by decide +kernel
theorem dX6_ask_61 : decode cX6_ask 61 = .ok (.getfield 29, 3) := by decide +kernel
theorem dX6_ask_64 : decode cX6_ask 64 = .ok (.iconst 2, 1) := by decide +kernel
theorem dX6_ask_65 : decode cX6_ask 65 = .ok (.iaload, 1) := by decide +kernel
theorem dX6_ask_66 : decode cX6_ask 66 = .ok (.ireturn, 1) := by decide +kernel
theorem dX6_ask_67 : decode cX6_ask 67 = .ok (.aload_n 0, 1) := by decide +kernel
theorem dX6_ask_68 : decode cX6_ask 68 = .ok (.aload_n 0, 1) := by decide +kernel
theorem dX6_ask_69 : decode cX6_ask 69 = .ok (.getfield 29, 3) := by decide +kernel
theorem dX6_ask_72 : decode cX6_ask 72 = .ok (.invokevirtual 78, 3) := by decide +kernel
theorem dX6_ask_75 : decode cX6_ask 75 = .ok (.ireturn, 1) := by decide +kernel
theorem dX6_ask_76 : decode cX6_ask 76 = .ok (.aload_n 0, 1) := by decide +kernel
theorem dX6_ask_77 : decode cX6_ask 77 = .ok (.aload_n 0, 1) := by decide +kernel
theorem dX6_ask_78 : decode cX6_ask 78 = .ok (.getfield 29, 3) := by decide +kernel
theorem dX6_ask_81 : decode cX6_ask 81 = .ok (.invokevirtual 82, 3) := by decide +kernel
theorem dX6_ask_84 : decode cX6_ask 84 = .ok (.ireturn, 1) := by decide +kernel
theorem dX6_ask_85 : decode cX6_ask 85 = .ok (.aload_n 0, 1) := by decide +kernel
theorem dX6_ask_86 : decode cX6_ask 86 = .ok (.aload_n 0, 1) := by decide +kernel
theorem dX6_ask_87 : decode cX6_ask 87 = .ok (.getfield 29, 3) := by decide +kernel
theorem dX6_ask_90 : decode cX6_ask 90 = .ok (.invokevirtual 108, 3) := by decide +kernel
theorem dX6_ask_93 : decode cX6_ask 93 = .ok (.ifCond .eq 7, 3) := by decide +kernel
theorem dX6_ask_96 : decode cX6_ask 96 = .ok (.iconst 1, 1) := by decide +kernel
theorem dX6_ask_97 : decode cX6_ask 97 = .ok (.goto 4, 3) := by decide +kernel
theorem dX6_ask_100 : decode cX6_ask 100 = .ok (.iconst 0, 1) := by decide +kernel
theorem dX6_ask_101 : decode cX6_ask 101 = .ok (.ireturn, 1) := by decide +kernel
theorem dX6_ask_102 : decode cX6_ask 102 = .ok (.aload_n 0, 1) := by decide +kernel
theorem dX6_ask_103 : decode cX6_ask 103 = .ok (.invokevirtual 199, 3) := by decide +kernel
theorem dX6_ask_106 : decode cX6_ask 106 = .ok (.ireturn, 1) := by decide +kernel
theorem dX6_ask_107 : decode cX6_ask 107 = .ok (.aload_n 0, 1) := by decide +kernel
theorem dX6_ask_108 : decode cX6_ask 108 = .ok (.invokevirtual 202, 3) := by decide +kernel
theorem dX6_ask_111 : decode cX6_ask 111 = .ok (.ireturn, 1) := by decide +kernel
theorem dX6_ask_112 : decode cX6_ask 112 = .ok (.aload_n 0, 1) := by decide +kernel
theorem dX6_ask_113 : decode cX6_ask 113 = .ok (.invokevirtual 205, 3) := by decide +kernel
theorem dX6_ask_116 : decode cX6_ask 116 = .ok (.ireturn, 1) := by decide +kernel
theorem dX6_ask_117 : decode cX6_ask 117 = .ok (.bipush (-2), 2) := by decide +kernel
theorem dX6_ask_119 : decode cX6_ask 119 = .ok (.ireturn, 1) := by decide +kernel
set_option maxRecDepth 20000 in
theorem ggX6_fate_X6_noPlace : GoodIn wsX6_fate wsX6_noPlace := goodIn_r _ [9, 10, 11, 12, 8, 13, 87, 88, 89, 90, 91, 92, 93, 94, 95, 96, 97, 98, 99, 100, 101, 102, 103, 104, 105, 106, 107, 108, 109, 110, 111, 112, 113, 114] (by decide +kernel) (by decide +kernel)
set_option maxRecDepth 20000 in
theorem gX6_fate_X6_noPlace : GoodIn wsX6_fate (wsV RX6 189 RX6 yX6_noPlace wsX6_noPlace) := goodIn_app (goodIn_of _ (by decide +kernel)) ggX6_fate_X6_noPlace
set_option maxRecDepth 20000 in
theorem ggX6_fate_X6_in : GoodIn wsX6_fate wsX6_in := goodIn_r _ [13] (by decide +kernel) (by decide +kernel)
set_option maxRecDepth 20000 in
theorem gX6_fate_X6_in : GoodIn wsX6_fate (va_wsS RX6 67 yX6_in wsX6_in) := goodIn_app (goodIn_of _ (by decide +kernel)) ggX6_fate_X6_in
set_option maxRecDepth 20000 in
theorem ggX6_fate_X6_isFree : GoodIn wsX6_fate wsX6_isFree := goodIn_r _ [17, 18, 19, 20, 8, 21, 10, 22, 23, 24, 25, 26, 27, 28, 29, 30, 31, 32, 87, 88, 89, 90, 91, 92, 93, 94, 95, 96, 97, 98, 99, 100, 101, 102, 103, 104, 105, 106, 107, 108, 109, 110, 111, 112, 113, 114] (by decide +kernel) (by decide +kernel)
set_option maxRecDepth 20000 in
theorem gX6_fate_X6_isFree : GoodIn wsX6_fate (wsV RX6 121 RX6 yX6_isFree wsX6_isFree) := goodIn_app (goodIn_of _ (by decide +kernel)) ggX6_fate_X6_isFree
set_option maxRecDepth 20000 in
theorem ggX6_fate_X6_lay : GoodIn wsX6_fate wsX6_lay := goodIn_r _ [35] (by decide +kernel) (by decide +kernel)
set_option maxRecDepth 20000 in
theorem gX6_fate_X6_lay : GoodIn wsX6_fate (va_wsS RX6 192 yX6_lay wsX6_lay) := goodIn_app (goodIn_of _ (by decide +kernel)) ggX6_fate_X6_lay
set_option maxRecDepth 20000 in
theorem ggX6_fate_X6_runTrial : GoodIn wsX6_fate wsX6_runTrial := goodIn_r _ [39, 4, 40, 41, 42, 8, 43, 18, 19, 20, 21, 10, 22, 23, 24, 25, 26, 27, 28, 29, 44, 45, 46, 47, 48, 49, 50, 51, 30, 31, 32, 52, 53, 54, 55, 56, 57, 58, 59, 60, 61, 62, 63, 64, 65, 66, 67, 68, 69, 70, 71, 72, 73, 74, 75, 76, 77, 78, 79, 80, 81, 82, 83, 87, 88, 89, 90, 91, 92, 93, 94, 95, 96, 97, 98, 99, 100, 101, 102, 103, 104, 105, 106, 107, 108, 109, 110, 111, 112, 113, 114] (by decide +kernel) (by decide +kernel)
set_option maxRecDepth 20000 in
theorem gX6_fate_X6_runTrial : GoodIn wsX6_fate (wsV RX6 196 RX6 yX6_runTrial wsX6_runTrial) := goodIn_app (goodIn_of _ (by decide +kernel)) ggX6_fate_X6_runTrial
set_option maxRecDepth 20000 in
theorem ggX6_fate_X6_living : GoodIn wsX6_fate wsX6_living := goodIn_r _ [86, 56, 57, 8, 58] (by decide +kernel) (by decide +kernel)
set_option maxRecDepth 20000 in
theorem gX6_fate_X6_living : GoodIn wsX6_fate (va_wsS RX6 183 yX6_living wsX6_living) := goodIn_app (goodIn_of _ (by decide +kernel)) ggX6_fate_X6_living
theorem dX6_fate_0 : decode cX6_fate 0 = .ok (.aload_n 0, 1) := by decide +kernel
theorem dX6_fate_1 : decode cX6_fate 1 = .ok (.iconst 0, 1) := by decide +kernel
theorem dX6_fate_2 : decode cX6_fate 2 = .ok (.putfield 61, 3) := by decide +kernel
theorem dX6_fate_5 : decode cX6_fate 5 = .ok (.aload_n 0, 1) := by decide +kernel
theorem dX6_fate_6 : decode cX6_fate 6 = .ok (.iload_n 1, 1) := by decide +kernel
theorem dX6_fate_7 : decode cX6_fate 7 = .ok (.invokevirtual 189, 3) := by decide +kernel
theorem dX6_fate_10 : decode cX6_fate 10 = .ok (.ifCond .eq 5, 3) := by decide +kernel
theorem dX6_fate_13 : decode cX6_fate 13 = .ok (.iconst (-1), 1) := by decide +kernel
theorem dX6_fate_14 : decode cX6_fate 14 = .ok (.ireturn, 1) := by decide +kernel
theorem dX6_fate_15 : decode cX6_fate 15 = .ok (.iload_n 2, 1) := by decide +kernel
theorem dX6_fate_16 : decode cX6_fate 16 = .ok (.i2l, 1) := by decide +kernel
theorem dX6_fate_17 : decode cX6_fate 17 = .ok (.lconst 0, 1) := by decide +kernel
theorem dX6_fate_18 : decode cX6_fate 18 = .ok (.ldc2_w 208, 3) := by decide +kernel
theorem dX6_fate_21 : decode cX6_fate 21 = .ok (.invokestatic 67, 3) := by decide +kernel
theorem dX6_fate_24 : decode cX6_fate 24 = .ok (.ifCond .ne 6, 3) := by decide +kernel
theorem dX6_fate_27 : decode cX6_fate 27 = .ok (.bipush (-2), 2) := by decide +kernel
theorem dX6_fate_29 : decode cX6_fate 29 = .ok (.ireturn, 1) := by decide +kernel
theorem dX6_fate_30 : decode cX6_fate 30 = .ok (.aload_n 0, 1) := by decide +kernel
theorem dX6_fate_31 : decode cX6_fate 31 = .ok (.aload_n 0, 1) := by decide +kernel
theorem dX6_fate_32 : decode cX6_fate 32 = .ok (.getfield 29, 3) := by decide +kernel
theorem dX6_fate_35 : decode cX6_fate 35 = .ok (.iload_n 1, 1) := by decide +kernel
theorem dX6_fate_36 : decode cX6_fate 36 = .ok (.invokevirtual 121, 3) := by decide +kernel
theorem dX6_fate_39 : decode cX6_fate 39 = .ok (.ifCond .ne 6, 3) := by decide +kernel
theorem dX6_fate_42 : decode cX6_fate 42 = .ok (.bipush (-3), 2) := by decide +kernel
theorem dX6_fate_44 : decode cX6_fate 44 = .ok (.ireturn, 1) := by decide +kernel
theorem dX6_fate_45 : decode cX6_fate 45 = .ok (.aload_n 0, 1) := by decide +kernel
theorem dX6_fate_46 : decode cX6_fate 46 = .ok (.getfield 29, 3) := by decide +kernel
theorem dX6_fate_49 : decode cX6_fate 49 = .ok (.aload_n 0, 1) := by decide +kernel
theorem dX6_fate_50 : decode cX6_fate 50 = .ok (.getfield 32, 3) := by decide +kernel
theorem dX6_fate_53 : decode cX6_fate 53 = .ok (.invokestatic 192, 3) := by decide +kernel
theorem dX6_fate_56 : decode cX6_fate 56 = .ok (.aload_n 0, 1) := by decide +kernel
theorem dX6_fate_57 : decode cX6_fate 57 = .ok (.getfield 32, 3) := by decide +kernel
theorem dX6_fate_60 : decode cX6_fate 60 = .ok (.iconst 0, 1) := by decide +kernel
theorem dX6_fate_61 : decode cX6_fate 61 = .ok (.iload_n 1, 1) := by decide +kernel
theorem dX6_fate_62 : decode cX6_fate 62 = .ok (.iastore, 1) := by decide +kernel
theorem dX6_fate_63 : decode cX6_fate 63 = .ok (.aload_n 0, 1) := by decide +kernel
theorem dX6_fate_64 : decode cX6_fate 64 = .ok (.invokevirtual 196, 3) := by decide +kernel
theorem dX6_fate_67 : decode cX6_fate 67 = .ok (.istore_n 3, 1) := by decide +kernel
theorem dX6_fate_68 : decode cX6_fate 68 = .ok (.iload_n 2, 1) := by decide +kernel
theorem dX6_fate_69 : decode cX6_fate 69 = .ok (.ifCond .ne 7, 3) := by decide +kernel
theorem dX6_fate_72 : decode cX6_fate 72 = .ok (.iload_n 3, 1) := by decide +kernel
theorem dX6_fate_73 : decode cX6_fate 73 = .ok (.goto 24, 3) := by decide +kernel
theorem dX6_fate_76 : decode cX6_fate 76 = .ok (.iload_n 2, 1) := by decide +kernel
theorem dX6_fate_77 : decode cX6_fate 77 = .ok (.iconst 1, 1) := by decide +kernel
theorem dX6_fate_78 : decode cX6_fate 78 = .ok (.if_icmp .ne 12, 3) := by decide +kernel
theorem dX6_fate_81 : decode cX6_fate 81 = .ok (.aload_n 0, 1) := by decide +kernel
theorem dX6_fate_82 : decode cX6_fate 82 = .ok (.getfield 32, 3) := by decide +kernel
theorem dX6_fate_85 : decode cX6_fate 85 = .ok (.iconst 2, 1) := by decide +kernel
theorem dX6_fate_86 : decode cX6_fate 86 = .ok (.iaload, 1) := by decide +kernel
theorem dX6_fate_87 : decode cX6_fate 87 = .ok (.goto 10, 3) := by decide +kernel
theorem dX6_fate_90 : decode cX6_fate 90 = .ok (.aload_n 0, 1) := by decide +kernel
theorem dX6_fate_91 : decode cX6_fate 91 = .ok (.getfield 32, 3) := by decide +kernel
theorem dX6_fate_94 : decode cX6_fate 94 = .ok (.invokestatic 183, 3) := by decide +kernel
theorem dX6_fate_97 : decode cX6_fate 97 = .ok (.ireturn, 1) := by decide +kernel
set_option maxRecDepth 20000 in
theorem ggX6_does_X6_mayBe : GoodIn wsX6_does wsX6_mayBe := goodIn_r _ [6, 7, 8, 9, 10, 5, 11, 12, 13, 14, 15, 81, 82, 83, 84, 85, 86, 87, 88, 89, 90, 91, 92, 93, 94, 95, 96, 97, 98, 99, 100, 101, 102, 103, 104, 105, 106, 107, 108] (by decide +kernel) (by decide +kernel)
set_option maxRecDepth 20000 in
theorem gX6_does_X6_mayBe : GoodIn wsX6_does (wsV RX6 82 RX6 yX6_mayBe wsX6_mayBe) := goodIn_app (goodIn_of _ (by decide +kernel)) ggX6_does_X6_mayBe
set_option maxRecDepth 20000 in
theorem ggX6_does_X6_canStep : GoodIn wsX6_does wsX6_canStep := goodIn_r _ [19, 13, 14, 15, 20, 21, 5, 22, 23, 24, 25, 26, 2, 3, 4, 6, 7, 8, 9, 10, 11, 12, 27, 28, 29, 30, 31, 32, 81, 82, 83, 84, 85, 86, 87, 88, 89, 90, 91, 92, 93, 94, 95, 96, 97, 98, 99, 100, 101, 102, 103, 104, 105, 106, 107, 108] (by decide +kernel) (by decide +kernel)
set_option maxRecDepth 20000 in
theorem gX6_does_X6_canStep : GoodIn wsX6_does (wsV RX6 170 RX6 yX6_canStep wsX6_canStep) := goodIn_app (goodIn_of _ (by decide +kernel)) ggX6_does_X6_canStep
set_option maxRecDepth 20000 in
theorem ggX6_does_X6_stepOn : GoodIn wsX6_does wsX6_stepOn := goodIn_r _ [36, 37, 38, 39, 5, 40, 14, 15, 81, 82, 83, 84, 85, 86, 87, 88, 89, 90, 91, 92, 93, 94, 95, 96, 97, 98, 99, 100, 101, 102, 103, 104, 105, 106, 107, 108] (by decide +kernel) (by decide +kernel)
set_option maxRecDepth 20000 in
theorem gX6_does_X6_stepOn : GoodIn wsX6_does (wsV RX6 118 RX6 yX6_stepOn wsX6_stepOn) := goodIn_app (goodIn_of _ (by decide +kernel)) ggX6_does_X6_stepOn
set_option maxRecDepth 20000 in
theorem ggX6_does_X6_living : GoodIn wsX6_does wsX6_living := goodIn_r _ [43, 20, 21, 5, 22] (by decide +kernel) (by decide +kernel)
set_option maxRecDepth 20000 in
theorem gX6_does_X6_living : GoodIn wsX6_does (va_wsS RX6 183 yX6_living wsX6_living) := goodIn_app (goodIn_of _ (by decide +kernel)) ggX6_does_X6_living
set_option maxRecDepth 20000 in
theorem ggX6_does_X6_roundOn : GoodIn wsX6_does wsX6_roundOn := goodIn_r _ [47, 48, 30, 31, 5, 32, 49, 50, 51, 52, 20, 21, 22, 53, 54, 55, 56, 2, 3, 4, 6, 7, 8, 9, 10, 11, 12, 13, 14, 15, 27, 28, 29, 57, 58, 59, 60, 23, 24, 25, 26, 61, 62, 63, 64, 65, 66, 67, 68, 69, 37, 38, 39, 40, 33, 34, 35, 36, 81, 82, 83, 84, 85, 86, 87, 88, 89, 90, 91, 92, 93, 94, 95, 96, 97, 98, 99, 100, 101, 102, 103, 104, 105, 106, 107, 108] (by decide +kernel) (by decide +kernel)
set_option maxRecDepth 20000 in
theorem gX6_does_X6_roundOn : GoodIn wsX6_does (wsV RX6 186 RX6 yX6_roundOn wsX6_roundOn) := goodIn_app (goodIn_of _ (by decide +kernel)) ggX6_does_X6_roundOn
set_option maxRecDepth 20000 in
theorem ggX6_does_X6_has : GoodIn wsX6_does wsX6_has := goodIn_r _ [32] (by decide +kernel) (by decide +kernel)
set_option maxRecDepth 20000 in
theorem gX6_does_X6_has : GoodIn wsX6_does (va_wsS RX6 93 yX6_has wsX6_has) := goodIn_app (goodIn_of _ (by decide +kernel)) ggX6_does_X6_has
set_option maxRecDepth 20000 in
theorem ggX6_does_X6_noPlace : GoodIn wsX6_does wsX6_noPlace := goodIn_r _ [73, 7, 74, 75, 5, 76, 81, 82, 83, 84, 85, 86, 87, 88, 89, 90, 91, 92, 93, 94, 95, 96, 97, 98, 99, 100, 101, 102, 103, 104, 105, 106, 107, 108] (by decide +kernel) (by decide +kernel)
set_option maxRecDepth 20000 in
theorem gX6_does_X6_noPlace : GoodIn wsX6_does (wsV RX6 189 RX6 yX6_noPlace wsX6_noPlace) := goodIn_app (goodIn_of _ (by decide +kernel)) ggX6_does_X6_noPlace
set_option maxRecDepth 20000 in
theorem ggX6_does_X6_noEdge : GoodIn wsX6_does wsX6_noEdge := goodIn_r _ [80, 13, 74, 75, 5, 76, 81, 82, 83, 84, 85, 86, 87, 88, 89, 90, 91, 92, 93, 94, 95, 96, 97, 98, 99, 100, 101, 102, 103, 104, 105, 106, 107, 108] (by decide +kernel) (by decide +kernel)
set_option maxRecDepth 20000 in
theorem gX6_does_X6_noEdge : GoodIn wsX6_does (wsV RX6 166 RX6 yX6_noEdge wsX6_noEdge) := goodIn_app (goodIn_of _ (by decide +kernel)) ggX6_does_X6_noEdge
theorem dX6_does_0 : decode cX6_does 0 = .ok (.aload_n 0, 1) := by decide +kernel
theorem dX6_does_1 : decode cX6_does 1 = .ok (.aload_n 0, 1) := by decide +kernel
theorem dX6_does_2 : decode cX6_does 2 = .ok (.getfield 32, 3) := by decide +kernel
theorem dX6_does_5 : decode cX6_does 5 = .ok (.invokevirtual 82, 3) := by decide +kernel
theorem dX6_does_8 : decode cX6_does 8 = .ok (.istore 4, 2) := by decide +kernel
theorem dX6_does_10 : decode cX6_does 10 = .ok (.iload_n 1, 1) := by decide +kernel
theorem dX6_does_11 : decode cX6_does 11 = .ok (.tableswitch 228 1 7 #[41, 68, 99, 120, 139, 175, 202], 41) := by decide +kernel
theorem dX6_does_52 : decode cX6_does 52 = .ok (.aload_n 0, 1) := by decide +kernel
theorem dX6_does_53 : decode cX6_does 53 = .ok (.aload_n 0, 1) := by decide +kernel
theorem dX6_does_54 : decode cX6_does 54 = .ok (.getfield 32, 3) := by decide +kernel
theorem dX6_does_57 : decode cX6_does 57 = .ok (.iload_n 2, 1) := by decide +kernel
theorem dX6_does_58 : decode cX6_does 58 = .ok (.iload_n 3, 1) := by decide +kernel
theorem dX6_does_59 : decode cX6_does 59 = .ok (.invokevirtual 170, 3) := by decide +kernel
theorem dX6_does_62 : decode cX6_does 62 = .ok (.ifCond .ne 5, 3) := by decide +kernel
theorem dX6_does_65 : decode cX6_does 65 = .ok (.iconst 0, 1) := by decide +kernel
theorem dX6_does_66 : decode cX6_does 66 = .ok (.ireturn, 1) := by decide +kernel
theorem dX6_does_67 : decode cX6_does 67 = .ok (.aload_n 0, 1) := by decide +kernel
theorem dX6_does_68 : decode cX6_does 68 = .ok (.aload_n 0, 1) := by decide +kernel
theorem dX6_does_69 : decode cX6_does 69 = .ok (.getfield 32, 3) := by decide +kernel
theorem dX6_does_72 : decode cX6_does 72 = .ok (.iload_n 2, 1) := by decide +kernel
theorem dX6_does_73 : decode cX6_does 73 = .ok (.iload_n 3, 1) := by decide +kernel
theorem dX6_does_74 : decode cX6_does 74 = .ok (.invokevirtual 118, 3) := by decide +kernel
theorem dX6_does_77 : decode cX6_does 77 = .ok (.iconst 1, 1) := by decide +kernel
theorem dX6_does_78 : decode cX6_does 78 = .ok (.ireturn, 1) := by decide +kernel
theorem dX6_does_79 : decode cX6_does 79 = .ok (.iload_n 2, 1) := by decide +kernel
theorem dX6_does_80 : decode cX6_does 80 = .ok (.ifCond .ne 17, 3) := by decide +kernel
theorem dX6_does_83 : decode cX6_does 83 = .ok (.iload_n 3, 1) := by decide +kernel
theorem dX6_does_84 : decode cX6_does 84 = .ok (.ifCond .ne 13, 3) := by decide +kernel
theorem dX6_does_87 : decode cX6_does 87 = .ok (.aload_n 0, 1) := by decide +kernel
theorem dX6_does_88 : decode cX6_does 88 = .ok (.getfield 32, 3) := by decide +kernel
theorem dX6_does_91 : decode cX6_does 91 = .ok (.invokestatic 183, 3) := by decide +kernel
theorem dX6_does_94 : decode cX6_does 94 = .ok (.ifCond .ne 5, 3) := by decide +kernel
theorem dX6_does_97 : decode cX6_does 97 = .ok (.iconst 0, 1) := by decide +kernel
theorem dX6_does_98 : decode cX6_does 98 = .ok (.ireturn, 1) := by decide +kernel
theorem dX6_does_99 : decode cX6_does 99 = .ok (.aload_n 0, 1) := by decide +kernel
theorem dX6_does_100 : decode cX6_does 100 = .ok (.aload_n 0, 1) := by decide +kernel
theorem dX6_does_101 : decode cX6_does 101 = .ok (.getfield 32, 3) := by decide +kernel
theorem dX6_does_104 : decode cX6_does 104 = .ok (.invokevirtual 186, 3) := by decide +kernel
theorem dX6_does_107 : decode cX6_does 107 = .ok (.pop, 1) := by decide +kernel
theorem dX6_does_108 : decode cX6_does 108 = .ok (.iconst 1, 1) := by decide +kernel
theorem dX6_does_109 : decode cX6_does 109 = .ok (.ireturn, 1) := by decide +kernel
theorem dX6_does_110 : decode cX6_does 110 = .ok (.iload_n 2, 1) := by decide +kernel
theorem dX6_does_111 : decode cX6_does 111 = .ok (.ifCond .ne 18, 3) := by decide +kernel
theorem dX6_does_114 : decode cX6_does 114 = .ok (.aload_n 0, 1) := by decide +kernel
theorem dX6_does_115 : decode cX6_does 115 = .ok (.getfield 32, 3) := by decide +kernel
theorem dX6_does_118 : decode cX6_does 118 = .ok (.invokestatic 183, 3) := by decide +kernel
theorem dX6_does_121 : decode cX6_does 121 = .ok (.iload_n 3, 1) := by decide +kernel
theorem dX6_does_122 : decode cX6_does 122 = .ok (.if_icmp .ne 7, 3) := by decide +kernel
theorem dX6_does_125 : decode cX6_does 125 = .ok (.iconst 1, 1) := by decide +kernel
theorem dX6_does_126 : decode cX6_does 126 = .ok (.goto 4, 3) := by decide +kernel
theorem dX6_does_129 : decode cX6_does 129 = .ok (.iconst 0, 1) := by decide +kernel
theorem dX6_does_130 : decode cX6_does 130 = .ok (.ireturn, 1) := by decide +kernel
theorem dX6_does_131 : decode cX6_does 131 = .ok (.iload_n 2, 1) := by decide +kernel
theorem dX6_does_132 : decode cX6_does 132 = .ok (.ifCond .ne 16, 3) := by decide +kernel
theorem dX6_does_135 : decode cX6_does 135 = .ok (.iload 4, 2) := by decide +kernel
theorem dX6_does_137 : decode cX6_does 137 = .ok (.iload_n 3, 1) := by decide +kernel
theorem dX6_does_138 : decode cX6_does 138 = .ok (.invokestatic 93, 3) := by decide +kernel
theorem dX6_does_141 : decode cX6_does 141 = .ok (.ifCond .eq 7, 3) := by decide +kernel
theorem dX6_does_144 : decode cX6_does 144 = .ok (.iconst 1, 1) := by decide +kernel
theorem dX6_does_145 : decode cX6_does 145 = .ok (.goto 4, 3) := by decide +kernel
theorem dX6_does_148 : decode cX6_does 148 = .ok (.iconst 0, 1) := by decide +kernel
theorem dX6_does_149 : decode cX6_does 149 = .ok (.ireturn, 1) := by decide +kernel
theorem dX6_does_150 : decode cX6_does 150 = .ok (.iload_n 2, 1) := by decide +kernel
theorem dX6_does_151 : decode cX6_does 151 = .ok (.aload_n 0, 1) := by decide +kernel
theorem dX6_does_152 : decode cX6_does 152 = .ok (.getfield 32, 3) := by decide +kernel
theorem dX6_does_155 : decode cX6_does 155 = .ok (.iconst 1, 1) := by decide +kernel
theorem dX6_does_156 : decode cX6_does 156 = .ok (.iaload, 1) := by decide +kernel
theorem dX6_does_157 : decode cX6_does 157 = .ok (.if_icmp .ge 27, 3) := by decide +kernel
theorem dX6_does_160 : decode cX6_does 160 = .ok (.aload_n 0, 1) := by decide +kernel
theorem dX6_does_161 : decode cX6_does 161 = .ok (.iload_n 3, 1) := by decide +kernel
theorem dX6_does_162 : decode cX6_does 162 = .ok (.invokevirtual 189, 3) := by decide +kernel
theorem dX6_does_165 : decode cX6_does 165 = .ok (.ifCond .ne 19, 3) := by decide +kernel
theorem dX6_does_168 : decode cX6_does 168 = .ok (.aload_n 0, 1) := by decide +kernel
theorem dX6_does_169 : decode cX6_does 169 = .ok (.getfield 32, 3) := by decide +kernel
theorem dX6_does_172 : decode cX6_does 172 = .ok (.iconst 3, 1) := by decide +kernel
theorem dX6_does_173 : decode cX6_does 173 = .ok (.iload_n 2, 1) := by decide +kernel
theorem dX6_does_174 : decode cX6_does 174 = .ok (.iadd, 1) := by decide +kernel
theorem dX6_does_175 : decode cX6_does 175 = .ok (.iaload, 1) := by decide +kernel
theorem dX6_does_176 : decode cX6_does 176 = .ok (.iload_n 3, 1) := by decide +kernel
theorem dX6_does_177 : decode cX6_does 177 = .ok (.if_icmp .ne 7, 3) := by decide +kernel
theorem dX6_does_180 : decode cX6_does 180 = .ok (.iconst 1, 1) := by decide +kernel
theorem dX6_does_181 : decode cX6_does 181 = .ok (.goto 4, 3) := by decide +kernel
theorem dX6_does_184 : decode cX6_does 184 = .ok (.iconst 0, 1) := by decide +kernel
theorem dX6_does_185 : decode cX6_does 185 = .ok (.ireturn, 1) := by decide +kernel
theorem dX6_does_186 : decode cX6_does 186 = .ok (.aload_n 0, 1) := by decide +kernel
theorem dX6_does_187 : decode cX6_does 187 = .ok (.iload_n 2, 1) := by decide +kernel
theorem dX6_does_188 : decode cX6_does 188 = .ok (.invokevirtual 166, 3) := by decide +kernel
theorem dX6_does_191 : decode cX6_does 191 = .ok (.ifCond .ne 20, 3) := by decide +kernel
theorem dX6_does_194 : decode cX6_does 194 = .ok (.aload_n 0, 1) := by decide +kernel
theorem dX6_does_195 : decode cX6_does 195 = .ok (.getfield 32, 3) := by decide +kernel
theorem dX6_does_198 : decode cX6_does 198 = .ok (.bipush 11, 2) := by decide +kernel
theorem dX6_does_200 : decode cX6_does 200 = .ok (.iload_n 2, 1) := by decide +kernel
theorem dX6_does_201 : decode cX6_does 201 = .ok (.iadd, 1) := by decide +kernel
theorem dX6_does_202 : decode cX6_does 202 = .ok (.iaload, 1) := by decide +kernel
theorem dX6_does_203 : decode cX6_does 203 = .ok (.iload_n 3, 1) := by decide +kernel
theorem dX6_does_204 : decode cX6_does 204 = .ok (.if_icmp .ne 7, 3) := by decide +kernel
theorem dX6_does_207 : decode cX6_does 207 = .ok (.iconst 1, 1) := by decide +kernel
theorem dX6_does_208 : decode cX6_does 208 = .ok (.goto 4, 3) := by decide +kernel
theorem dX6_does_211 : decode cX6_does 211 = .ok (.iconst 0, 1) := by decide +kernel
theorem dX6_does_212 : decode cX6_does 212 = .ok (.ireturn, 1) := by decide +kernel
theorem dX6_does_213 : decode cX6_does 213 = .ok (.iload_n 2, 1) := by decide +kernel
theorem dX6_does_214 : decode cX6_does 214 = .ok (.ifCond .ne 23, 3) := by decide +kernel
theorem dX6_does_217 : decode cX6_does 217 = .ok (.aload_n 0, 1) := by decide +kernel
theorem dX6_does_218 : decode cX6_does 218 = .ok (.iload_n 3, 1) := by decide +kernel
theorem dX6_does_219 : decode cX6_does 219 = .ok (.invokevirtual 189, 3) := by decide +kernel
theorem dX6_does_222 : decode cX6_does 222 = .ok (.ifCond .ne 15, 3) := by decide +kernel
theorem dX6_does_225 : decode cX6_does 225 = .ok (.iload 4, 2) := by decide +kernel
theorem dX6_does_227 : decode cX6_does 227 = .ok (.iconst 1, 1) := by decide +kernel
theorem dX6_does_228 : decode cX6_does 228 = .ok (.iload_n 3, 1) := by decide +kernel
theorem dX6_does_229 : decode cX6_does 229 = .ok (.ishl, 1) := by decide +kernel
theorem dX6_does_230 : decode cX6_does 230 = .ok (.if_icmp .ne 7, 3) := by decide +kernel
theorem dX6_does_233 : decode cX6_does 233 = .ok (.iconst 1, 1) := by decide +kernel
theorem dX6_does_234 : decode cX6_does 234 = .ok (.goto 4, 3) := by decide +kernel
theorem dX6_does_237 : decode cX6_does 237 = .ok (.iconst 0, 1) := by decide +kernel
theorem dX6_does_238 : decode cX6_does 238 = .ok (.ireturn, 1) := by decide +kernel
theorem dX6_does_239 : decode cX6_does 239 = .ok (.iconst 0, 1) := by decide +kernel
theorem dX6_does_240 : decode cX6_does 240 = .ok (.ireturn, 1) := by decide +kernel
theorem dX6_longPower_0 : decode cX6_longPower 0 = .ok (.lconst 1, 1) := by decide +kernel
theorem dX6_longPower_1 : decode cX6_longPower 1 = .ok (.lstore_n 3, 1) := by decide +kernel
theorem dX6_longPower_2 : decode cX6_longPower 2 = .ok (.iconst 0, 1) := by decide +kernel
theorem dX6_longPower_3 : decode cX6_longPower 3 = .ok (.istore 5, 2) := by decide +kernel
theorem dX6_longPower_5 : decode cX6_longPower 5 = .ok (.iload 5, 2) := by decide +kernel
theorem dX6_longPower_7 : decode cX6_longPower 7 = .ok (.iload_n 2, 1) := by decide +kernel
theorem dX6_longPower_8 : decode cX6_longPower 8 = .ok (.if_icmp .ge 13, 3) := by decide +kernel
theorem dX6_longPower_11 : decode cX6_longPower 11 = .ok (.lload_n 3, 1) := by decide +kernel
theorem dX6_longPower_12 : decode cX6_longPower 12 = .ok (.lload_n 0, 1) := by decide +kernel
theorem dX6_longPower_13 : decode cX6_longPower 13 = .ok (.lmul, 1) := by decide +kernel
theorem dX6_longPower_14 : decode cX6_longPower 14 = .ok (.lstore_n 3, 1) := by decide +kernel
theorem dX6_longPower_15 : decode cX6_longPower 15 = .ok (.iinc 5 1, 3) := by decide +kernel
theorem dX6_longPower_18 : decode cX6_longPower 18 = .ok (.goto (-13), 3) := by decide +kernel
theorem dX6_longPower_21 : decode cX6_longPower 21 = .ok (.lload_n 3, 1) := by decide +kernel
theorem dX6_longPower_22 : decode cX6_longPower 22 = .ok (.lreturn, 1) := by decide +kernel
set_option maxRecDepth 20000 in
theorem ggX6_judge_X6_in : GoodIn wsX6_judge wsX6_in := goodIn_r _ [9] (by decide +kernel) (by decide +kernel)
set_option maxRecDepth 20000 in
theorem gX6_judge_X6_in : GoodIn wsX6_judge (va_wsS RX6 67 yX6_in wsX6_in) := goodIn_app (goodIn_of _ (by decide +kernel)) ggX6_judge_X6_in
set_option maxRecDepth 20000 in
theorem ggX6_judge_X6_longPower : GoodIn wsX6_judge wsX6_longPower := goodIn_r _ [12] (by decide +kernel) (by decide +kernel)
set_option maxRecDepth 20000 in
theorem gX6_judge_X6_longPower : GoodIn wsX6_judge (va_wsS RX6 214 yX6_longPower wsX6_longPower) := goodIn_app (goodIn_of _ (by decide +kernel)) ggX6_judge_X6_longPower
set_option maxRecDepth 20000 in
theorem ggX6_judge_X6_lay : GoodIn wsX6_judge wsX6_lay := goodIn_r _ [15] (by decide +kernel) (by decide +kernel)
set_option maxRecDepth 20000 in
theorem gX6_judge_X6_lay : GoodIn wsX6_judge (va_wsS RX6 192 yX6_lay wsX6_lay) := goodIn_app (goodIn_of _ (by decide +kernel)) ggX6_judge_X6_lay
set_option maxRecDepth 20000 in
theorem ggX6_judge_X6_does : GoodIn wsX6_judge wsX6_does := goodIn_r _ [19, 5, 20, 21, 22, 8, 23, 24, 25, 26, 27, 28, 29, 30, 31, 32, 33, 34, 35, 36, 37, 38, 39, 40, 41, 42, 43, 44, 45, 46, 47, 48, 49, 50, 51, 52, 53, 54, 55, 56, 57, 58, 59, 60, 61, 62, 63, 64, 65, 66, 67, 68, 69, 70, 71, 72, 73, 74, 75, 76, 77, 78, 79, 80, 81, 82, 83, 84, 85, 86, 87, 88, 89, 90, 6, 7, 9, 91, 92, 93, 94, 95, 96, 97, 98, 99, 100, 101, 102, 103, 104, 105, 106, 107, 108, 109, 110, 111, 112, 113, 114, 115, 116, 117, 118, 119, 120, 121, 122] (by decide +kernel) (by decide +kernel)
set_option maxRecDepth 20000 in
theorem gX6_judge_X6_does : GoodIn wsX6_judge (wsV RX6 218 RX6 yX6_does wsX6_does) := goodIn_app (goodIn_of _ (by decide +kernel)) ggX6_judge_X6_does
theorem dX6_judge_0 : decode cX6_judge 0 = .ok (.aload_n 0, 1) := by decide +kernel
theorem dX6_judge_1 : decode cX6_judge 1 = .ok (.iconst 0, 1) := by decide +kernel
theorem dX6_judge_2 : decode cX6_judge 2 = .ok (.putfield 61, 3) := by decide +kernel
theorem dX6_judge_5 : decode cX6_judge 5 = .ok (.iload_n 1, 1) := by decide +kernel
theorem dX6_judge_6 : decode cX6_judge 6 = .ok (.i2l, 1) := by decide +kernel
theorem dX6_judge_7 : decode cX6_judge 7 = .ok (.lconst 1, 1) := by decide +kernel
theorem dX6_judge_8 : decode cX6_judge 8 = .ok (.ldc2_w 210, 3) := by decide +kernel
theorem dX6_judge_11 : decode cX6_judge 11 = .ok (.invokestatic 67, 3) := by decide +kernel
theorem dX6_judge_14 : decode cX6_judge 14 = .ok (.ifCond .eq 20, 3) := by decide +kernel
theorem dX6_judge_17 : decode cX6_judge 17 = .ok (.lload_n 2, 1) := by decide +kernel
theorem dX6_judge_18 : decode cX6_judge 18 = .ok (.lconst 0, 1) := by decide +kernel
theorem dX6_judge_19 : decode cX6_judge 19 = .ok (.ldc2_w 212, 3) := by decide +kernel
theorem dX6_judge_22 : decode cX6_judge 22 = .ok (.iload_n 1, 1) := by decide +kernel
theorem dX6_judge_23 : decode cX6_judge 23 = .ok (.invokestatic 214, 3) := by decide +kernel
theorem dX6_judge_26 : decode cX6_judge 26 = .ok (.lconst 1, 1) := by decide +kernel
theorem dX6_judge_27 : decode cX6_judge 27 = .ok (.lsub, 1) := by decide +kernel
theorem dX6_judge_28 : decode cX6_judge 28 = .ok (.invokestatic 67, 3) := by decide +kernel
theorem dX6_judge_31 : decode cX6_judge 31 = .ok (.ifCond .ne 6, 3) := by decide +kernel
theorem dX6_judge_34 : decode cX6_judge 34 = .ok (.bipush (-2), 2) := by decide +kernel
theorem dX6_judge_36 : decode cX6_judge 36 = .ok (.ireturn, 1) := by decide +kernel
theorem dX6_judge_37 : decode cX6_judge 37 = .ok (.aload_n 0, 1) := by decide +kernel
theorem dX6_judge_38 : decode cX6_judge 38 = .ok (.getfield 29, 3) := by decide +kernel
theorem dX6_judge_41 : decode cX6_judge 41 = .ok (.aload_n 0, 1) := by decide +kernel
theorem dX6_judge_42 : decode cX6_judge 42 = .ok (.getfield 32, 3) := by decide +kernel
theorem dX6_judge_45 : decode cX6_judge 45 = .ok (.invokestatic 192, 3) := by decide +kernel
theorem dX6_judge_48 : decode cX6_judge 48 = .ok (.iconst 0, 1) := by decide +kernel
theorem dX6_judge_49 : decode cX6_judge 49 = .ok (.istore 4, 2) := by decide +kernel
theorem dX6_judge_51 : decode cX6_judge 51 = .ok (.iload 4, 2) := by decide +kernel
theorem dX6_judge_53 : decode cX6_judge 53 = .ok (.iload_n 1, 1) := by decide +kernel
theorem dX6_judge_54 : decode cX6_judge 54 = .ok (.if_icmp .ge 58, 3) := by decide +kernel
theorem dX6_judge_57 : decode cX6_judge 57 = .ok (.lload_n 2, 1) := by decide +kernel
theorem dX6_judge_58 : decode cX6_judge 58 = .ok (.ldc2_w 212, 3) := by decide +kernel
theorem dX6_judge_61 : decode cX6_judge 61 = .ok (.iload_n 1, 1) := by decide +kernel
theorem dX6_judge_62 : decode cX6_judge 62 = .ok (.iconst 1, 1) := by decide +kernel
theorem dX6_judge_63 : decode cX6_judge 63 = .ok (.isub, 1) := by decide +kernel
theorem dX6_judge_64 : decode cX6_judge 64 = .ok (.iload 4, 2) := by decide +kernel
theorem dX6_judge_66 : decode cX6_judge 66 = .ok (.isub, 1) := by decide +kernel
theorem dX6_judge_67 : decode cX6_judge 67 = .ok (.invokestatic 214, 3) := by decide +kernel
theorem dX6_judge_70 : decode cX6_judge 70 = .ok (.ldiv, 1) := by decide +kernel
theorem dX6_judge_71 : decode cX6_judge 71 = .ok (.ldc2_w 212, 3) := by decide +kernel
theorem dX6_judge_74 : decode cX6_judge 74 = .ok (.lrem, 1) := by decide +kernel
theorem dX6_judge_75 : decode cX6_judge 75 = .ok (.l2i, 1) := by decide +kernel
theorem dX6_judge_76 : decode cX6_judge 76 = .ok (.istore 5, 2) := by decide +kernel
theorem dX6_judge_78 : decode cX6_judge 78 = .ok (.aload_n 0, 1) := by decide +kernel
theorem dX6_judge_79 : decode cX6_judge 79 = .ok (.iload 5, 2) := by decide +kernel
theorem dX6_judge_81 : decode cX6_judge 81 = .ok (.bipush 100, 2) := by decide +kernel
theorem dX6_judge_83 : decode cX6_judge 83 = .ok (.idiv, 1) := by decide +kernel
theorem dX6_judge_84 : decode cX6_judge 84 = .ok (.iload 5, 2) := by decide +kernel
theorem dX6_judge_86 : decode cX6_judge 86 = .ok (.bipush 10, 2) := by decide +kernel
theorem dX6_judge_88 : decode cX6_judge 88 = .ok (.idiv, 1) := by decide +kernel
theorem dX6_judge_89 : decode cX6_judge 89 = .ok (.bipush 10, 2) := by decide +kernel
theorem dX6_judge_91 : decode cX6_judge 91 = .ok (.irem, 1) := by decide +kernel
theorem dX6_judge_92 : decode cX6_judge 92 = .ok (.iload 5, 2) := by decide +kernel
theorem dX6_judge_94 : decode cX6_judge 94 = .ok (.bipush 10, 2) := by decide +kernel
theorem dX6_judge_96 : decode cX6_judge 96 = .ok (.irem, 1) := by decide +kernel
theorem dX6_judge_97 : decode cX6_judge 97 = .ok (.invokevirtual 218, 3) := by decide +kernel
theorem dX6_judge_100 : decode cX6_judge 100 = .ok (.ifCond .ne 6, 3) := by decide +kernel
theorem dX6_judge_103 : decode cX6_judge 103 = .ok (.iload 4, 2) := by decide +kernel
theorem dX6_judge_105 : decode cX6_judge 105 = .ok (.ireturn, 1) := by decide +kernel
theorem dX6_judge_106 : decode cX6_judge 106 = .ok (.iinc 4 1, 3) := by decide +kernel
theorem dX6_judge_109 : decode cX6_judge 109 = .ok (.goto (-58), 3) := by decide +kernel
theorem dX6_judge_112 : decode cX6_judge 112 = .ok (.bipush (-9), 2) := by decide +kernel
theorem dX6_judge_114 : decode cX6_judge 114 = .ok (.ireturn, 1) := by decide +kernel
set_option maxRecDepth 20000 in
theorem ggX6_see_X6_in : GoodIn wsX6_see wsX6_in := goodIn_r _ [10] (by decide +kernel) (by decide +kernel)
set_option maxRecDepth 20000 in
theorem gX6_see_X6_in : GoodIn wsX6_see (va_wsS RX6 67 yX6_in wsX6_in) := goodIn_app (goodIn_of _ (by decide +kernel)) ggX6_see_X6_in
theorem dX6_see_0 : decode cX6_see 0 = .ok (.aload_n 0, 1) := by decide +kernel
theorem dX6_see_1 : decode cX6_see 1 = .ok (.iconst 0, 1) := by decide +kernel
theorem dX6_see_2 : decode cX6_see 2 = .ok (.putfield 61, 3) := by decide +kernel
theorem dX6_see_5 : decode cX6_see 5 = .ok (.iload_n 1, 1) := by decide +kernel
theorem dX6_see_6 : decode cX6_see 6 = .ok (.i2l, 1) := by decide +kernel
theorem dX6_see_7 : decode cX6_see 7 = .ok (.lconst 0, 1) := by decide +kernel
theorem dX6_see_8 : decode cX6_see 8 = .ok (.ldc2_w 222, 3) := by decide +kernel
theorem dX6_see_11 : decode cX6_see 11 = .ok (.invokestatic 67, 3) := by decide +kernel
theorem dX6_see_14 : decode cX6_see 14 = .ok (.ifCond .eq 15, 3) := by decide +kernel
theorem dX6_see_17 : decode cX6_see 17 = .ok (.iload_n 2, 1) := by decide +kernel
theorem dX6_see_18 : decode cX6_see 18 = .ok (.i2l, 1) := by decide +kernel
theorem dX6_see_19 : decode cX6_see 19 = .ok (.lconst 0, 1) := by decide +kernel
theorem dX6_see_20 : decode cX6_see 20 = .ok (.ldc2_w 210, 3) := by decide +kernel
theorem dX6_see_23 : decode cX6_see 23 = .ok (.invokestatic 67, 3) := by decide +kernel
theorem dX6_see_26 : decode cX6_see 26 = .ok (.ifCond .ne 6, 3) := by decide +kernel
theorem dX6_see_29 : decode cX6_see 29 = .ok (.bipush (-2), 2) := by decide +kernel
theorem dX6_see_31 : decode cX6_see 31 = .ok (.ireturn, 1) := by decide +kernel
theorem dX6_see_32 : decode cX6_see 32 = .ok (.aload_n 0, 1) := by decide +kernel
theorem dX6_see_33 : decode cX6_see 33 = .ok (.getfield 224, 3) := by decide +kernel
theorem dX6_see_36 : decode cX6_see 36 = .ok (.bipush 6, 2) := by decide +kernel
theorem dX6_see_38 : decode cX6_see 38 = .ok (.if_icmp .ne 6, 3) := by decide +kernel
theorem dX6_see_41 : decode cX6_see 41 = .ok (.bipush (-4), 2) := by decide +kernel
theorem dX6_see_43 : decode cX6_see 43 = .ok (.ireturn, 1) := by decide +kernel
theorem dX6_see_44 : decode cX6_see 44 = .ok (.aload_n 0, 1) := by decide +kernel
theorem dX6_see_45 : decode cX6_see 45 = .ok (.getfield 45, 3) := by decide +kernel
theorem dX6_see_48 : decode cX6_see 48 = .ok (.aload_n 0, 1) := by decide +kernel
theorem dX6_see_49 : decode cX6_see 49 = .ok (.getfield 224, 3) := by decide +kernel
theorem dX6_see_52 : decode cX6_see 52 = .ok (.iload_n 1, 1) := by decide +kernel
theorem dX6_see_53 : decode cX6_see 53 = .ok (.iastore, 1) := by decide +kernel
theorem dX6_see_54 : decode cX6_see 54 = .ok (.aload_n 0, 1) := by decide +kernel
theorem dX6_see_55 : decode cX6_see 55 = .ok (.getfield 48, 3) := by decide +kernel
theorem dX6_see_58 : decode cX6_see 58 = .ok (.aload_n 0, 1) := by decide +kernel
theorem dX6_see_59 : decode cX6_see 59 = .ok (.getfield 224, 3) := by decide +kernel
theorem dX6_see_62 : decode cX6_see 62 = .ok (.iload_n 2, 1) := by decide +kernel
theorem dX6_see_63 : decode cX6_see 63 = .ok (.iastore, 1) := by decide +kernel
theorem dX6_see_64 : decode cX6_see 64 = .ok (.aload_n 0, 1) := by decide +kernel
theorem dX6_see_65 : decode cX6_see 65 = .ok (.dup, 1) := by decide +kernel
theorem dX6_see_66 : decode cX6_see 66 = .ok (.getfield 224, 3) := by decide +kernel
theorem dX6_see_69 : decode cX6_see 69 = .ok (.iconst 1, 1) := by decide +kernel
theorem dX6_see_70 : decode cX6_see 70 = .ok (.iadd, 1) := by decide +kernel
theorem dX6_see_71 : decode cX6_see 71 = .ok (.putfield 224, 3) := by decide +kernel
theorem dX6_see_74 : decode cX6_see 74 = .ok (.aload_n 0, 1) := by decide +kernel
theorem dX6_see_75 : decode cX6_see 75 = .ok (.getfield 224, 3) := by decide +kernel
theorem dX6_see_78 : decode cX6_see 78 = .ok (.ireturn, 1) := by decide +kernel
theorem dX6_unsee_0 : decode cX6_unsee 0 = .ok (.aload_n 0, 1) := by decide +kernel
theorem dX6_unsee_1 : decode cX6_unsee 1 = .ok (.iconst 0, 1) := by decide +kernel
theorem dX6_unsee_2 : decode cX6_unsee 2 = .ok (.putfield 61, 3) := by decide +kernel
theorem dX6_unsee_5 : decode cX6_unsee 5 = .ok (.aload_n 0, 1) := by decide +kernel
theorem dX6_unsee_6 : decode cX6_unsee 6 = .ok (.getfield 224, 3) := by decide +kernel
theorem dX6_unsee_9 : decode cX6_unsee 9 = .ok (.istore_n 1, 1) := by decide +kernel
theorem dX6_unsee_10 : decode cX6_unsee 10 = .ok (.aload_n 0, 1) := by decide +kernel
theorem dX6_unsee_11 : decode cX6_unsee 11 = .ok (.iconst 0, 1) := by decide +kernel
theorem dX6_unsee_12 : decode cX6_unsee 12 = .ok (.putfield 224, 3) := by decide +kernel
theorem dX6_unsee_15 : decode cX6_unsee 15 = .ok (.iload_n 1, 1) := by decide +kernel
theorem dX6_unsee_16 : decode cX6_unsee 16 = .ok (.ireturn, 1) := by decide +kernel
set_option maxRecDepth 20000 in
theorem ggX6_livingBehind_X6_lay : GoodIn wsX6_livingBehind wsX6_lay := goodIn_r _ [6] (by decide +kernel) (by decide +kernel)
set_option maxRecDepth 20000 in
theorem gX6_livingBehind_X6_lay : GoodIn wsX6_livingBehind (va_wsS RX6 192 yX6_lay wsX6_lay) := goodIn_app (goodIn_of _ (by decide +kernel)) ggX6_livingBehind_X6_lay
set_option maxRecDepth 20000 in
theorem ggX6_livingBehind_X6_roundOn : GoodIn wsX6_livingBehind wsX6_roundOn := goodIn_r _ [10, 11, 12, 13, 5, 14, 15, 16, 17, 18, 19, 20, 21, 22, 23, 24, 25, 26, 27, 28, 29, 30, 31, 32, 33, 34, 35, 36, 37, 38, 39, 40, 41, 42, 43, 44, 45, 46, 47, 48, 49, 50, 51, 52, 53, 54, 55, 56, 57, 58, 59, 60, 61, 62, 63, 64, 65, 66, 70, 71, 72, 73, 74, 75, 76, 77, 78, 79, 80, 81, 82, 83, 84, 85, 86, 87, 88, 89, 90, 91, 92, 93, 94, 95, 96, 97] (by decide +kernel) (by decide +kernel)
set_option maxRecDepth 20000 in
theorem gX6_livingBehind_X6_roundOn : GoodIn wsX6_livingBehind (wsV RX6 186 RX6 yX6_roundOn wsX6_roundOn) := goodIn_app (goodIn_of _ (by decide +kernel)) ggX6_livingBehind_X6_roundOn
set_option maxRecDepth 20000 in
theorem ggX6_livingBehind_X6_living : GoodIn wsX6_livingBehind wsX6_living := goodIn_r _ [69, 19, 20, 5, 21] (by decide +kernel) (by decide +kernel)
set_option maxRecDepth 20000 in
theorem gX6_livingBehind_X6_living : GoodIn wsX6_livingBehind (va_wsS RX6 183 yX6_living wsX6_living) := goodIn_app (goodIn_of _ (by decide +kernel)) ggX6_livingBehind_X6_living
theorem dX6_livingBehind_0 : decode cX6_livingBehind 0 = .ok (.aload_n 0, 1) := by decide +kernel
theorem dX6_livingBehind_1 : decode cX6_livingBehind 1 = .ok (.getfield 29, 3) := by decide +kernel
theorem dX6_livingBehind_4 : decode cX6_livingBehind 4 = .ok (.aload_n 0, 1) := by decide +kernel
theorem dX6_livingBehind_5 : decode cX6_livingBehind 5 = .ok (.getfield 32, 3) := by decide +kernel
theorem dX6_livingBehind_8 : decode cX6_livingBehind 8 = .ok (.invokestatic 192, 3) := by decide +kernel
theorem dX6_livingBehind_11 : decode cX6_livingBehind 11 = .ok (.aload_n 0, 1) := by decide +kernel
theorem dX6_livingBehind_12 : decode cX6_livingBehind 12 = .ok (.getfield 32, 3) := by decide +kernel
theorem dX6_livingBehind_15 : decode cX6_livingBehind 15 = .ok (.iconst 0, 1) := by decide +kernel
theorem dX6_livingBehind_16 : decode cX6_livingBehind 16 = .ok (.iload_n 1, 1) := by decide +kernel
theorem dX6_livingBehind_17 : decode cX6_livingBehind 17 = .ok (.iastore, 1) := by decide +kernel
theorem dX6_livingBehind_18 : decode cX6_livingBehind 18 = .ok (.iconst 0, 1) := by decide +kernel
theorem dX6_livingBehind_19 : decode cX6_livingBehind 19 = .ok (.istore_n 3, 1) := by decide +kernel
theorem dX6_livingBehind_20 : decode cX6_livingBehind 20 = .ok (.iload_n 3, 1) := by decide +kernel
theorem dX6_livingBehind_21 : decode cX6_livingBehind 21 = .ok (.iload_n 2, 1) := by decide +kernel
theorem dX6_livingBehind_22 : decode cX6_livingBehind 22 = .ok (.if_icmp .ge 18, 3) := by decide +kernel
theorem dX6_livingBehind_25 : decode cX6_livingBehind 25 = .ok (.aload_n 0, 1) := by decide +kernel
theorem dX6_livingBehind_26 : decode cX6_livingBehind 26 = .ok (.aload_n 0, 1) := by decide +kernel
theorem dX6_livingBehind_27 : decode cX6_livingBehind 27 = .ok (.getfield 32, 3) := by decide +kernel
theorem dX6_livingBehind_30 : decode cX6_livingBehind 30 = .ok (.invokevirtual 186, 3) := by decide +kernel
theorem dX6_livingBehind_33 : decode cX6_livingBehind 33 = .ok (.pop, 1) := by decide +kernel
theorem dX6_livingBehind_34 : decode cX6_livingBehind 34 = .ok (.iinc 3 1, 3) := by decide +kernel
theorem dX6_livingBehind_37 : decode cX6_livingBehind 37 = .ok (.goto (-17), 3) := by decide +kernel
theorem dX6_livingBehind_40 : decode cX6_livingBehind 40 = .ok (.aload_n 0, 1) := by decide +kernel
theorem dX6_livingBehind_41 : decode cX6_livingBehind 41 = .ok (.getfield 32, 3) := by decide +kernel
theorem dX6_livingBehind_44 : decode cX6_livingBehind 44 = .ok (.invokestatic 183, 3) := by decide +kernel
theorem dX6_livingBehind_47 : decode cX6_livingBehind 47 = .ok (.ireturn, 1) := by decide +kernel
set_option maxRecDepth 20000 in
theorem ggX6_which_X6_isFree : GoodIn wsX6_which wsX6_isFree := goodIn_r _ [11, 12, 13, 14, 10, 15, 2, 16, 17, 18, 19, 20, 21, 22, 23, 24, 25, 26, 82, 83, 84, 85, 86, 87, 88, 89, 90, 91, 92, 93, 94, 95, 96, 97, 98, 99, 100, 101, 102, 103, 104, 105, 106, 107, 108, 109] (by decide +kernel) (by decide +kernel)
set_option maxRecDepth 20000 in
theorem gX6_which_X6_isFree : GoodIn wsX6_which (wsV RX6 121 RX6 yX6_isFree wsX6_isFree) := goodIn_app (goodIn_of _ (by decide +kernel)) ggX6_which_X6_isFree
set_option maxRecDepth 20000 in
theorem ggX6_which_X6_livingBehind : GoodIn wsX6_which wsX6_livingBehind := goodIn_r _ [30, 3, 31, 32, 33, 10, 34, 35, 36, 37, 38, 39, 24, 25, 26, 40, 41, 42, 43, 44, 45, 46, 47, 48, 49, 50, 12, 13, 14, 15, 2, 16, 17, 18, 19, 20, 21, 22, 23, 51, 52, 53, 54, 55, 56, 57, 58, 59, 60, 61, 62, 63, 64, 65, 66, 67, 68, 69, 70, 71, 72, 73, 74, 75, 76, 77, 78, 79, 80, 81, 82, 83, 84, 85, 86, 87, 88, 89, 90, 91, 92, 93, 94, 95, 96, 97, 98, 99, 100, 101, 102, 103, 104, 105, 106, 107, 108, 109] (by decide +kernel) (by decide +kernel)
set_option maxRecDepth 20000 in
theorem gX6_which_X6_livingBehind : GoodIn wsX6_which (wsV RX6 227 RX6 yX6_livingBehind wsX6_livingBehind) := goodIn_app (goodIn_of _ (by decide +kernel)) ggX6_which_X6_livingBehind
theorem dX6_which_0 : decode cX6_which 0 = .ok (.aload_n 0, 1) := by decide +kernel
theorem dX6_which_1 : decode cX6_which 1 = .ok (.iconst 0, 1) := by decide +kernel
theorem dX6_which_2 : decode cX6_which 2 = .ok (.putfield 61, 3) := by decide +kernel
theorem dX6_which_5 : decode cX6_which 5 = .ok (.iconst 0, 1) := by decide +kernel
theorem dX6_which_6 : decode cX6_which 6 = .ok (.istore_n 1, 1) := by decide +kernel
theorem dX6_which_7 : decode cX6_which 7 = .ok (.iconst 0, 1) := by decide +kernel
theorem dX6_which_8 : decode cX6_which 8 = .ok (.istore_n 2, 1) := by decide +kernel
theorem dX6_which_9 : decode cX6_which 9 = .ok (.iload_n 2, 1) := by decide +kernel
theorem dX6_which_10 : decode cX6_which 10 = .ok (.aload_n 0, 1) := by decide +kernel
theorem dX6_which_11 : decode cX6_which 11 = .ok (.getfield 13, 3) := by decide +kernel
theorem dX6_which_14 : decode cX6_which 14 = .ok (.if_icmp .ge 83, 3) := by decide +kernel
theorem dX6_which_17 : decode cX6_which 17 = .ok (.aload_n 0, 1) := by decide +kernel
theorem dX6_which_18 : decode cX6_which 18 = .ok (.aload_n 0, 1) := by decide +kernel
theorem dX6_which_19 : decode cX6_which 19 = .ok (.getfield 29, 3) := by decide +kernel
theorem dX6_which_22 : decode cX6_which 22 = .ok (.iload_n 2, 1) := by decide +kernel
theorem dX6_which_23 : decode cX6_which 23 = .ok (.invokevirtual 121, 3) := by decide +kernel
theorem dX6_which_26 : decode cX6_which 26 = .ok (.istore_n 3, 1) := by decide +kernel
theorem dX6_which_27 : decode cX6_which 27 = .ok (.iconst 0, 1) := by decide +kernel
theorem dX6_which_28 : decode cX6_which 28 = .ok (.istore 4, 2) := by decide +kernel
theorem dX6_which_30 : decode cX6_which 30 = .ok (.iload 4, 2) := by decide +kernel
theorem dX6_which_32 : decode cX6_which 32 = .ok (.aload_n 0, 1) := by decide +kernel
theorem dX6_which_33 : decode cX6_which 33 = .ok (.getfield 224, 3) := by decide +kernel
theorem dX6_which_36 : decode cX6_which 36 = .ok (.if_icmp .ge 41, 3) := by decide +kernel
theorem dX6_which_39 : decode cX6_which 39 = .ok (.iload_n 3, 1) := by decide +kernel
theorem dX6_which_40 : decode cX6_which 40 = .ok (.ifCond .eq 37, 3) := by decide +kernel
theorem dX6_which_43 : decode cX6_which 43 = .ok (.aload_n 0, 1) := by decide +kernel
theorem dX6_which_44 : decode cX6_which 44 = .ok (.iload_n 2, 1) := by decide +kernel
theorem dX6_which_45 : decode cX6_which 45 = .ok (.aload_n 0, 1) := by decide +kernel
theorem dX6_which_46 : decode cX6_which 46 = .ok (.getfield 45, 3) := by decide +kernel
theorem dX6_which_49 : decode cX6_which 49 = .ok (.iload 4, 2) := by decide +kernel
theorem dX6_which_51 : decode cX6_which 51 = .ok (.iaload, 1) := by decide +kernel
theorem dX6_which_52 : decode cX6_which 52 = .ok (.invokevirtual 227, 3) := by decide +kernel
theorem dX6_which_55 : decode cX6_which 55 = .ok (.aload_n 0, 1) := by decide +kernel
theorem dX6_which_56 : decode cX6_which 56 = .ok (.getfield 48, 3) := by decide +kernel
theorem dX6_which_59 : decode cX6_which 59 = .ok (.iload 4, 2) := by decide +kernel
theorem dX6_which_61 : decode cX6_which 61 = .ok (.iaload, 1) := by decide +kernel
theorem dX6_which_62 : decode cX6_which 62 = .ok (.if_icmp .ne 7, 3) := by decide +kernel
theorem dX6_which_65 : decode cX6_which 65 = .ok (.iconst 1, 1) := by decide +kernel
theorem dX6_which_66 : decode cX6_which 66 = .ok (.goto 4, 3) := by decide +kernel
theorem dX6_which_69 : decode cX6_which 69 = .ok (.iconst 0, 1) := by decide +kernel
theorem dX6_which_70 : decode cX6_which 70 = .ok (.istore_n 3, 1) := by decide +kernel
theorem dX6_which_71 : decode cX6_which 71 = .ok (.iinc 4 1, 3) := by decide +kernel
theorem dX6_which_74 : decode cX6_which 74 = .ok (.goto (-44), 3) := by decide +kernel
theorem dX6_which_77 : decode cX6_which 77 = .ok (.iload_n 1, 1) := by decide +kernel
theorem dX6_which_78 : decode cX6_which 78 = .ok (.iload_n 3, 1) := by decide +kernel
theorem dX6_which_79 : decode cX6_which 79 = .ok (.ifCond .eq 9, 3) := by decide +kernel
theorem dX6_which_82 : decode cX6_which 82 = .ok (.iconst 1, 1) := by decide +kernel
theorem dX6_which_83 : decode cX6_which 83 = .ok (.iload_n 2, 1) := by decide +kernel
theorem dX6_which_84 : decode cX6_which 84 = .ok (.ishl, 1) := by decide +kernel
theorem dX6_which_85 : decode cX6_which 85 = .ok (.goto 4, 3) := by decide +kernel
theorem dX6_which_88 : decode cX6_which 88 = .ok (.iconst 0, 1) := by decide +kernel
theorem dX6_which_89 : decode cX6_which 89 = .ok (.ior, 1) := by decide +kernel
theorem dX6_which_90 : decode cX6_which 90 = .ok (.istore_n 1, 1) := by decide +kernel
theorem dX6_which_91 : decode cX6_which 91 = .ok (.iinc 2 1, 3) := by decide +kernel
theorem dX6_which_94 : decode cX6_which 94 = .ok (.goto (-85), 3) := by decide +kernel
theorem dX6_which_97 : decode cX6_which 97 = .ok (.iload_n 1, 1) := by decide +kernel
theorem dX6_which_98 : decode cX6_which 98 = .ok (.ireturn, 1) := by decide +kernel
theorem dX6_divisor_0 : decode cX6_divisor 0 = .ok (.iload_n 0, 1) := by decide +kernel
theorem dX6_divisor_1 : decode cX6_divisor 1 = .ok (.ifCond .ge 8, 3) := by decide +kernel
theorem dX6_divisor_4 : decode cX6_divisor 4 = .ok (.iload_n 0, 1) := by decide +kernel
theorem dX6_divisor_5 : decode cX6_divisor 5 = .ok (.ineg, 1) := by decide +kernel
theorem dX6_divisor_6 : decode cX6_divisor 6 = .ok (.goto 4, 3) := by decide +kernel
theorem dX6_divisor_9 : decode cX6_divisor 9 = .ok (.iload_n 0, 1) := by decide +kernel
theorem dX6_divisor_10 : decode cX6_divisor 10 = .ok (.istore_n 2, 1) := by decide +kernel
theorem dX6_divisor_11 : decode cX6_divisor 11 = .ok (.iload_n 1, 1) := by decide +kernel
theorem dX6_divisor_12 : decode cX6_divisor 12 = .ok (.istore_n 3, 1) := by decide +kernel
theorem dX6_divisor_13 : decode cX6_divisor 13 = .ok (.iload_n 3, 1) := by decide +kernel
theorem dX6_divisor_14 : decode cX6_divisor 14 = .ok (.ifCond .eq 16, 3) := by decide +kernel
theorem dX6_divisor_17 : decode cX6_divisor 17 = .ok (.iload_n 2, 1) := by decide +kernel
theorem dX6_divisor_18 : decode cX6_divisor 18 = .ok (.iload_n 3, 1) := by decide +kernel
theorem dX6_divisor_19 : decode cX6_divisor 19 = .ok (.irem, 1) := by decide +kernel
theorem dX6_divisor_20 : decode cX6_divisor 20 = .ok (.istore 4, 2) := by decide +kernel
theorem dX6_divisor_22 : decode cX6_divisor 22 = .ok (.iload_n 3, 1) := by decide +kernel
theorem dX6_divisor_23 : decode cX6_divisor 23 = .ok (.istore_n 2, 1) := by decide +kernel
theorem dX6_divisor_24 : decode cX6_divisor 24 = .ok (.iload 4, 2) := by decide +kernel
theorem dX6_divisor_26 : decode cX6_divisor 26 = .ok (.istore_n 3, 1) := by decide +kernel
theorem dX6_divisor_27 : decode cX6_divisor 27 = .ok (.goto (-14), 3) := by decide +kernel
theorem dX6_divisor_30 : decode cX6_divisor 30 = .ok (.iload_n 2, 1) := by decide +kernel
theorem dX6_divisor_31 : decode cX6_divisor 31 = .ok (.ireturn, 1) := by decide +kernel
set_option maxRecDepth 20000 in
theorem ggX6_fraction_X6_divisor : GoodIn wsX6_fraction wsX6_divisor := goodIn_r _ [4] (by decide +kernel) (by decide +kernel)
set_option maxRecDepth 20000 in
theorem gX6_fraction_X6_divisor : GoodIn wsX6_fraction (va_wsS RX6 230 yX6_divisor wsX6_divisor) := goodIn_app (goodIn_of _ (by decide +kernel)) ggX6_fraction_X6_divisor
theorem dX6_fraction_0 : decode cX6_fraction 0 = .ok (.iload_n 0, 1) := by decide +kernel
theorem dX6_fraction_1 : decode cX6_fraction 1 = .ok (.iload_n 1, 1) := by decide +kernel
theorem dX6_fraction_2 : decode cX6_fraction 2 = .ok (.invokestatic 230, 3) := by decide +kernel
theorem dX6_fraction_5 : decode cX6_fraction 5 = .ok (.istore_n 3, 1) := by decide +kernel
theorem dX6_fraction_6 : decode cX6_fraction 6 = .ok (.iload_n 2, 1) := by decide +kernel
theorem dX6_fraction_7 : decode cX6_fraction 7 = .ok (.ifCond .eq 9, 3) := by decide +kernel
theorem dX6_fraction_10 : decode cX6_fraction 10 = .ok (.iload_n 0, 1) := by decide +kernel
theorem dX6_fraction_11 : decode cX6_fraction 11 = .ok (.iload_n 3, 1) := by decide +kernel
theorem dX6_fraction_12 : decode cX6_fraction 12 = .ok (.idiv, 1) := by decide +kernel
theorem dX6_fraction_13 : decode cX6_fraction 13 = .ok (.goto 6, 3) := by decide +kernel
theorem dX6_fraction_16 : decode cX6_fraction 16 = .ok (.iload_n 1, 1) := by decide +kernel
theorem dX6_fraction_17 : decode cX6_fraction 17 = .ok (.iload_n 3, 1) := by decide +kernel
theorem dX6_fraction_18 : decode cX6_fraction 18 = .ok (.idiv, 1) := by decide +kernel
theorem dX6_fraction_19 : decode cX6_fraction 19 = .ok (.ireturn, 1) := by decide +kernel
theorem dX6_factorial_0 : decode cX6_factorial 0 = .ok (.iconst 1, 1) := by decide +kernel
theorem dX6_factorial_1 : decode cX6_factorial 1 = .ok (.istore_n 1, 1) := by decide +kernel
theorem dX6_factorial_2 : decode cX6_factorial 2 = .ok (.iconst 2, 1) := by decide +kernel
theorem dX6_factorial_3 : decode cX6_factorial 3 = .ok (.istore_n 2, 1) := by decide +kernel
theorem dX6_factorial_4 : decode cX6_factorial 4 = .ok (.iload_n 2, 1) := by decide +kernel
theorem dX6_factorial_5 : decode cX6_factorial 5 = .ok (.iload_n 0, 1) := by decide +kernel
theorem dX6_factorial_6 : decode cX6_factorial 6 = .ok (.if_icmp .gt 13, 3) := by decide +kernel
theorem dX6_factorial_9 : decode cX6_factorial 9 = .ok (.iload_n 1, 1) := by decide +kernel
theorem dX6_factorial_10 : decode cX6_factorial 10 = .ok (.iload_n 2, 1) := by decide +kernel
theorem dX6_factorial_11 : decode cX6_factorial 11 = .ok (.imul, 1) := by decide +kernel
theorem dX6_factorial_12 : decode cX6_factorial 12 = .ok (.istore_n 1, 1) := by decide +kernel
theorem dX6_factorial_13 : decode cX6_factorial 13 = .ok (.iinc 2 1, 3) := by decide +kernel
theorem dX6_factorial_16 : decode cX6_factorial 16 = .ok (.goto (-12), 3) := by decide +kernel
theorem dX6_factorial_19 : decode cX6_factorial 19 = .ok (.iload_n 1, 1) := by decide +kernel
theorem dX6_factorial_20 : decode cX6_factorial 20 = .ok (.ireturn, 1) := by decide +kernel
set_option maxRecDepth 20000 in
theorem ggX6_visitedBy_X6_lay : GoodIn wsX6_visitedBy wsX6_lay := goodIn_r _ [7] (by decide +kernel) (by decide +kernel)
set_option maxRecDepth 20000 in
theorem gX6_visitedBy_X6_lay : GoodIn wsX6_visitedBy (va_wsS RX6 192 yX6_lay wsX6_lay) := goodIn_app (goodIn_of _ (by decide +kernel)) ggX6_visitedBy_X6_lay
set_option maxRecDepth 20000 in
theorem ggX6_visitedBy_X6_roundOn : GoodIn wsX6_visitedBy wsX6_roundOn := goodIn_r _ [11, 1, 12, 13, 6, 14, 15, 16, 17, 18, 19, 20, 21, 22, 23, 24, 25, 26, 27, 28, 29, 30, 31, 32, 33, 34, 35, 36, 37, 38, 39, 40, 41, 42, 43, 44, 45, 46, 47, 48, 49, 50, 51, 52, 53, 54, 55, 56, 57, 58, 59, 60, 61, 62, 63, 64, 65, 66, 67, 68, 69, 70, 71, 72, 73, 74, 75, 76, 77, 78, 79, 80, 81, 82, 83, 84, 85, 86, 87, 88, 89, 90, 91, 92, 93, 94] (by decide +kernel) (by decide +kernel)
set_option maxRecDepth 20000 in
theorem gX6_visitedBy_X6_roundOn : GoodIn wsX6_visitedBy (wsV RX6 186 RX6 yX6_roundOn wsX6_roundOn) := goodIn_app (goodIn_of _ (by decide +kernel)) ggX6_visitedBy_X6_roundOn
set_option maxRecDepth 20000 in
theorem ggX6_visitedBy_X6_visited : GoodIn wsX6_visitedBy wsX6_visited := goodIn_r _ [34, 35, 36, 37, 38, 67, 68, 69, 70, 71, 72, 73, 74, 75, 76, 77, 78, 79, 80, 81, 82, 83, 84, 85, 86, 87, 88, 89, 90, 91, 92, 93, 94] (by decide +kernel) (by decide +kernel)
set_option maxRecDepth 20000 in
theorem gX6_visitedBy_X6_visited : GoodIn wsX6_visitedBy (wsV RX6 78 RX6 yX6_visited wsX6_visited) := goodIn_app (goodIn_of _ (by decide +kernel)) ggX6_visitedBy_X6_visited
set_option maxRecDepth 20000 in
theorem ggX6_visitedBy_X6_ones : GoodIn wsX6_visitedBy wsX6_ones := goodIn_r _ [41] (by decide +kernel) (by decide +kernel)
set_option maxRecDepth 20000 in
theorem gX6_visitedBy_X6_ones : GoodIn wsX6_visitedBy (va_wsS RX6 85 yX6_ones wsX6_ones) := goodIn_app (goodIn_of _ (by decide +kernel)) ggX6_visitedBy_X6_ones
theorem dX6_visitedBy_0 : decode cX6_visitedBy 0 = .ok (.aload_n 0, 1) := by decide +kernel
theorem dX6_visitedBy_1 : decode cX6_visitedBy 1 = .ok (.iload_n 1, 1) := by decide +kernel
theorem dX6_visitedBy_2 : decode cX6_visitedBy 2 = .ok (.putfield 54, 3) := by decide +kernel
theorem dX6_visitedBy_5 : decode cX6_visitedBy 5 = .ok (.aload_n 0, 1) := by decide +kernel
theorem dX6_visitedBy_6 : decode cX6_visitedBy 6 = .ok (.getfield 29, 3) := by decide +kernel
theorem dX6_visitedBy_9 : decode cX6_visitedBy 9 = .ok (.aload_n 0, 1) := by decide +kernel
theorem dX6_visitedBy_10 : decode cX6_visitedBy 10 = .ok (.getfield 32, 3) := by decide +kernel
