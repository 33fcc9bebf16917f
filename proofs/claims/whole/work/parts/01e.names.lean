theorem dX5_fewestSearchers_47 : decode cX5_fewestSearchers 47 = .ok (.getfield 35, 3) := by decide +kernel
theorem dX5_fewestSearchers_50 : decode cX5_fewestSearchers 50 = .ok (.invokevirtual 190, 3) := by decide +kernel
theorem dX5_fewestSearchers_53 : decode cX5_fewestSearchers 53 = .ok (.bipush (-9), 2) := by decide +kernel
theorem dX5_fewestSearchers_55 : decode cX5_fewestSearchers 55 = .ok (.if_icmp .eq 17, 3) := by decide +kernel
theorem dX5_fewestSearchers_58 : decode cX5_fewestSearchers 58 = .ok (.aload_n 0, 1) := by decide +kernel
theorem dX5_fewestSearchers_59 : decode cX5_fewestSearchers 59 = .ok (.getfield 35, 3) := by decide +kernel
theorem dX5_fewestSearchers_62 : decode cX5_fewestSearchers 62 = .ok (.invokevirtual 141, 3) := by decide +kernel
theorem dX5_fewestSearchers_65 : decode cX5_fewestSearchers 65 = .ok (.ifCond .le 7, 3) := by decide +kernel
theorem dX5_fewestSearchers_68 : decode cX5_fewestSearchers 68 = .ok (.iconst 1, 1) := by decide +kernel
theorem dX5_fewestSearchers_69 : decode cX5_fewestSearchers 69 = .ok (.goto 4, 3) := by decide +kernel
theorem dX5_fewestSearchers_72 : decode cX5_fewestSearchers 72 = .ok (.iconst 0, 1) := by decide +kernel
theorem dX5_fewestSearchers_73 : decode cX5_fewestSearchers 73 = .ok (.istore_n 2, 1) := by decide +kernel
theorem dX5_fewestSearchers_74 : decode cX5_fewestSearchers 74 = .ok (.iinc 3 1, 3) := by decide +kernel
theorem dX5_fewestSearchers_77 : decode cX5_fewestSearchers 77 = .ok (.goto (-66), 3) := by decide +kernel
theorem dX5_fewestSearchers_80 : decode cX5_fewestSearchers 80 = .ok (.iload_n 2, 1) := by decide +kernel
theorem dX5_fewestSearchers_81 : decode cX5_fewestSearchers 81 = .ok (.ifCond .eq 5, 3) := by decide +kernel
theorem dX5_fewestSearchers_84 : decode cX5_fewestSearchers 84 = .ok (.iload_n 1, 1) := by decide +kernel
theorem dX5_fewestSearchers_85 : decode cX5_fewestSearchers 85 = .ok (.ireturn, 1) := by decide +kernel
theorem dX5_fewestSearchers_86 : decode cX5_fewestSearchers 86 = .ok (.iinc 1 1, 3) := by decide +kernel
theorem dX5_fewestSearchers_89 : decode cX5_fewestSearchers 89 = .ok (.goto (-87), 3) := by decide +kernel
theorem dX5_fewestSearchers_92 : decode cX5_fewestSearchers 92 = .ok (.bipush (-9), 2) := by decide +kernel
theorem dX5_fewestSearchers_94 : decode cX5_fewestSearchers 94 = .ok (.ireturn, 1) := by decide +kernel
theorem dX5_isOutsideOfSeen_0 : decode cX5_isOutsideOfSeen 0 = .ok (.iload_n 0, 1) := by decide +kernel
theorem dX5_isOutsideOfSeen_1 : decode cX5_isOutsideOfSeen 1 = .ok (.ifCond .lt 18, 3) := by decide +kernel
theorem dX5_isOutsideOfSeen_4 : decode cX5_isOutsideOfSeen 4 = .ok (.iload_n 0, 1) := by decide +kernel
theorem dX5_isOutsideOfSeen_5 : decode cX5_isOutsideOfSeen 5 = .ok (.bipush 20, 2) := by decide +kernel
theorem dX5_isOutsideOfSeen_7 : decode cX5_isOutsideOfSeen 7 = .ok (.if_icmp .gt 12, 3) := by decide +kernel
theorem dX5_isOutsideOfSeen_10 : decode cX5_isOutsideOfSeen 10 = .ok (.iload_n 1, 1) := by decide +kernel
theorem dX5_isOutsideOfSeen_11 : decode cX5_isOutsideOfSeen 11 = .ok (.ifCond .lt 8, 3) := by decide +kernel
theorem dX5_isOutsideOfSeen_14 : decode cX5_isOutsideOfSeen 14 = .ok (.iload_n 1, 1) := by decide +kernel
theorem dX5_isOutsideOfSeen_15 : decode cX5_isOutsideOfSeen 15 = .ok (.iconst 4, 1) := by decide +kernel
theorem dX5_isOutsideOfSeen_16 : decode cX5_isOutsideOfSeen 16 = .ok (.if_icmp .le 7, 3) := by decide +kernel
theorem dX5_isOutsideOfSeen_19 : decode cX5_isOutsideOfSeen 19 = .ok (.iconst 1, 1) := by decide +kernel
theorem dX5_isOutsideOfSeen_20 : decode cX5_isOutsideOfSeen 20 = .ok (.goto 4, 3) := by decide +kernel
theorem dX5_isOutsideOfSeen_23 : decode cX5_isOutsideOfSeen 23 = .ok (.iconst 0, 1) := by decide +kernel
theorem dX5_isOutsideOfSeen_24 : decode cX5_isOutsideOfSeen 24 = .ok (.ireturn, 1) := by decide +kernel
set_option maxRecDepth 20000 in
theorem ggX5_fitsAllSeen_X3_suppose : GoodIn wsX5_fitsAllSeen wsX3_suppose := goodIn_r _ [8, 9, 10, 11, 12, 7, 13, 14, 15, 16, 17, 18, 19, 20, 143, 144, 145, 146, 147, 148, 149, 150, 151] (by decide +kernel) (by decide +kernel)
set_option maxRecDepth 20000 in
theorem gX5_fitsAllSeen_X3_suppose : GoodIn wsX5_fitsAllSeen (wsV RX5 186 RX3 yX3_suppose wsX3_suppose) := goodIn_app (goodIn_of _ (by decide +kernel)) ggX5_fitsAllSeen_X3_suppose
set_option maxRecDepth 20000 in
theorem ggX5_fitsAllSeen_X2_mostRounds : GoodIn wsX5_fitsAllSeen wsX2_mostRounds := goodIn_r _ [25, 26, 27, 28, 29, 30, 31, 140, 141, 142] (by decide +kernel) (by decide +kernel)
set_option maxRecDepth 20000 in
theorem gX5_fitsAllSeen_X2_mostRounds : GoodIn wsX5_fitsAllSeen (wsV RX5 254 RX2 yX2_mostRounds wsX2_mostRounds) := goodIn_app (goodIn_of _ (by decide +kernel)) ggX5_fitsAllSeen_X2_mostRounds
set_option maxRecDepth 20000 in
theorem ggX5_fitsAllSeen_X3_playRound : GoodIn wsX5_fitsAllSeen wsX3_playRound := goodIn_r _ [35, 16, 36, 37, 38, 39, 40, 41, 7, 42, 15, 43, 14, 18, 44, 45, 46, 47, 48, 49, 50, 51, 52, 53, 54, 55, 56, 57, 58, 59, 20, 60, 61, 62, 63, 64, 65, 66, 67, 68, 69, 70, 71, 72, 73, 74, 75, 76, 77, 78, 19, 79, 80, 81, 82, 83, 84, 85, 86, 87, 88, 89, 90, 91, 92, 93, 94, 95, 96, 97, 98, 99, 100, 17, 101, 102, 103, 104, 105, 106, 107, 108, 109, 110, 111, 112, 113, 114, 115, 116, 9, 143, 144, 145, 146, 147, 148, 149, 150, 151, 152, 153, 154, 155, 156, 157, 158, 159, 160] (by decide +kernel) (by decide +kernel)
set_option maxRecDepth 20000 in
theorem gX5_fitsAllSeen_X3_playRound : GoodIn wsX5_fitsAllSeen (wsV RX5 144 RX3 yX3_playRound wsX3_playRound) := goodIn_app (goodIn_of _ (by decide +kernel)) ggX5_fitsAllSeen_X3_playRound
set_option maxRecDepth 20000 in
theorem ggX5_fitsAllSeen_X3_living : GoodIn wsX5_fitsAllSeen wsX3_living := goodIn_r _ [120, 121, 122, 123, 7, 124, 16, 14, 60, 61, 62, 63, 64, 65, 66, 143, 144, 145, 146, 147, 148, 149, 150, 151] (by decide +kernel) (by decide +kernel)
set_option maxRecDepth 20000 in
theorem gX5_fitsAllSeen_X3_living : GoodIn wsX5_fitsAllSeen (wsV RX5 141 RX3 yX3_living wsX3_living) := goodIn_app (goodIn_of _ (by decide +kernel)) ggX5_fitsAllSeen_X3_living
set_option maxRecDepth 20000 in
theorem ggX5_fitsAllSeen_X2_speaksAgainst : GoodIn wsX5_fitsAllSeen wsX2_speaksAgainst := goodIn_r _ [128, 26, 27, 129, 140, 141, 142] (by decide +kernel) (by decide +kernel)
set_option maxRecDepth 20000 in
theorem gX5_fitsAllSeen_X2_speaksAgainst : GoodIn wsX5_fitsAllSeen (wsV RX5 257 RX2 yX2_speaksAgainst wsX2_speaksAgainst) := goodIn_app (goodIn_of _ (by decide +kernel)) ggX5_fitsAllSeen_X2_speaksAgainst
theorem dX5_fitsAllSeen_0 : decode cX5_fitsAllSeen 0 = .ok (.aload_n 0, 1) := by decide +kernel
theorem dX5_fitsAllSeen_1 : decode cX5_fitsAllSeen 1 = .ok (.getfield 56, 3) := by decide +kernel
theorem dX5_fitsAllSeen_4 : decode cX5_fitsAllSeen 4 = .ok (.getfield 208, 3) := by decide +kernel
theorem dX5_fitsAllSeen_7 : decode cX5_fitsAllSeen 7 = .ok (.ifCond .ne 5, 3) := by decide +kernel
theorem dX5_fitsAllSeen_10 : decode cX5_fitsAllSeen 10 = .ok (.iconst 1, 1) := by decide +kernel
theorem dX5_fitsAllSeen_11 : decode cX5_fitsAllSeen 11 = .ok (.ireturn, 1) := by decide +kernel
theorem dX5_fitsAllSeen_12 : decode cX5_fitsAllSeen 12 = .ok (.aload_n 0, 1) := by decide +kernel
theorem dX5_fitsAllSeen_13 : decode cX5_fitsAllSeen 13 = .ok (.getfield 35, 3) := by decide +kernel
theorem dX5_fitsAllSeen_16 : decode cX5_fitsAllSeen 16 = .ok (.aload_n 0, 1) := by decide +kernel
theorem dX5_fitsAllSeen_17 : decode cX5_fitsAllSeen 17 = .ok (.getfield 31, 3) := by decide +kernel
theorem dX5_fitsAllSeen_20 : decode cX5_fitsAllSeen 20 = .ok (.iload_n 1, 1) := by decide +kernel
theorem dX5_fitsAllSeen_21 : decode cX5_fitsAllSeen 21 = .ok (.invokevirtual 186, 3) := by decide +kernel
theorem dX5_fitsAllSeen_24 : decode cX5_fitsAllSeen 24 = .ok (.aload_n 0, 1) := by decide +kernel
theorem dX5_fitsAllSeen_25 : decode cX5_fitsAllSeen 25 = .ok (.getfield 56, 3) := by decide +kernel
theorem dX5_fitsAllSeen_28 : decode cX5_fitsAllSeen 28 = .ok (.invokevirtual 254, 3) := by decide +kernel
theorem dX5_fitsAllSeen_31 : decode cX5_fitsAllSeen 31 = .ok (.istore_n 2, 1) := by decide +kernel
theorem dX5_fitsAllSeen_32 : decode cX5_fitsAllSeen 32 = .ok (.iconst 0, 1) := by decide +kernel
theorem dX5_fitsAllSeen_33 : decode cX5_fitsAllSeen 33 = .ok (.istore_n 3, 1) := by decide +kernel
theorem dX5_fitsAllSeen_34 : decode cX5_fitsAllSeen 34 = .ok (.iload_n 3, 1) := by decide +kernel
theorem dX5_fitsAllSeen_35 : decode cX5_fitsAllSeen 35 = .ok (.iload_n 2, 1) := by decide +kernel
theorem dX5_fitsAllSeen_36 : decode cX5_fitsAllSeen 36 = .ok (.if_icmp .gt 43, 3) := by decide +kernel
theorem dX5_fitsAllSeen_39 : decode cX5_fitsAllSeen 39 = .ok (.iload_n 3, 1) := by decide +kernel
theorem dX5_fitsAllSeen_40 : decode cX5_fitsAllSeen 40 = .ok (.ifCond .le 13, 3) := by decide +kernel
theorem dX5_fitsAllSeen_43 : decode cX5_fitsAllSeen 43 = .ok (.aload_n 0, 1) := by decide +kernel
theorem dX5_fitsAllSeen_44 : decode cX5_fitsAllSeen 44 = .ok (.getfield 35, 3) := by decide +kernel
theorem dX5_fitsAllSeen_47 : decode cX5_fitsAllSeen 47 = .ok (.bipush 15, 2) := by decide +kernel
theorem dX5_fitsAllSeen_49 : decode cX5_fitsAllSeen 49 = .ok (.invokevirtual 144, 3) := by decide +kernel
theorem dX5_fitsAllSeen_52 : decode cX5_fitsAllSeen 52 = .ok (.pop, 1) := by decide +kernel
theorem dX5_fitsAllSeen_53 : decode cX5_fitsAllSeen 53 = .ok (.aload_n 0, 1) := by decide +kernel
theorem dX5_fitsAllSeen_54 : decode cX5_fitsAllSeen 54 = .ok (.getfield 56, 3) := by decide +kernel
theorem dX5_fitsAllSeen_57 : decode cX5_fitsAllSeen 57 = .ok (.iload_n 3, 1) := by decide +kernel
theorem dX5_fitsAllSeen_58 : decode cX5_fitsAllSeen 58 = .ok (.aload_n 0, 1) := by decide +kernel
theorem dX5_fitsAllSeen_59 : decode cX5_fitsAllSeen 59 = .ok (.getfield 35, 3) := by decide +kernel
theorem dX5_fitsAllSeen_62 : decode cX5_fitsAllSeen 62 = .ok (.invokevirtual 141, 3) := by decide +kernel
theorem dX5_fitsAllSeen_65 : decode cX5_fitsAllSeen 65 = .ok (.invokevirtual 257, 3) := by decide +kernel
theorem dX5_fitsAllSeen_68 : decode cX5_fitsAllSeen 68 = .ok (.ifCond .eq 5, 3) := by decide +kernel
theorem dX5_fitsAllSeen_71 : decode cX5_fitsAllSeen 71 = .ok (.iconst 0, 1) := by decide +kernel
theorem dX5_fitsAllSeen_72 : decode cX5_fitsAllSeen 72 = .ok (.ireturn, 1) := by decide +kernel
theorem dX5_fitsAllSeen_73 : decode cX5_fitsAllSeen 73 = .ok (.iinc 3 1, 3) := by decide +kernel
theorem dX5_fitsAllSeen_76 : decode cX5_fitsAllSeen 76 = .ok (.goto (-42), 3) := by decide +kernel
theorem dX5_fitsAllSeen_79 : decode cX5_fitsAllSeen 79 = .ok (.iconst 1, 1) := by decide +kernel
theorem dX5_fitsAllSeen_80 : decode cX5_fitsAllSeen 80 = .ok (.ireturn, 1) := by decide +kernel
set_option maxRecDepth 20000 in
theorem ggX5_livingBehind_X3_suppose : GoodIn wsX5_livingBehind wsX3_suppose := goodIn_r _ [7, 8, 9, 10, 11, 6, 12, 13, 14, 15, 16, 17, 18, 19, 123, 124, 125, 126, 127, 128, 129, 130, 131] (by decide +kernel) (by decide +kernel)
set_option maxRecDepth 20000 in
theorem gX5_livingBehind_X3_suppose : GoodIn wsX5_livingBehind (wsV RX5 186 RX3 yX3_suppose wsX3_suppose) := goodIn_app (goodIn_of _ (by decide +kernel)) ggX5_livingBehind_X3_suppose
set_option maxRecDepth 20000 in
theorem ggX5_livingBehind_X3_playRound : GoodIn wsX5_livingBehind wsX3_playRound := goodIn_r _ [23, 15, 24, 25, 26, 27, 28, 29, 6, 30, 14, 31, 13, 17, 32, 33, 34, 35, 36, 37, 38, 39, 40, 41, 42, 43, 44, 45, 46, 47, 19, 48, 49, 50, 51, 52, 53, 54, 55, 56, 57, 58, 59, 60, 61, 62, 63, 64, 65, 66, 18, 67, 68, 69, 70, 71, 72, 73, 74, 75, 76, 77, 78, 79, 80, 81, 82, 83, 84, 85, 86, 87, 88, 16, 89, 90, 91, 92, 93, 94, 95, 96, 97, 98, 99, 100, 101, 102, 103, 104, 8, 123, 124, 125, 126, 127, 128, 129, 130, 131, 132, 133, 134, 135, 136, 137, 138, 139, 140] (by decide +kernel) (by decide +kernel)
set_option maxRecDepth 20000 in
theorem gX5_livingBehind_X3_playRound : GoodIn wsX5_livingBehind (wsV RX5 144 RX3 yX3_playRound wsX3_playRound) := goodIn_app (goodIn_of _ (by decide +kernel)) ggX5_livingBehind_X3_playRound
set_option maxRecDepth 20000 in
theorem ggX5_livingBehind_X3_living : GoodIn wsX5_livingBehind wsX3_living := goodIn_r _ [108, 109, 110, 111, 6, 112, 15, 13, 48, 49, 50, 51, 52, 53, 54, 123, 124, 125, 126, 127, 128, 129, 130, 131] (by decide +kernel) (by decide +kernel)
set_option maxRecDepth 20000 in
theorem gX5_livingBehind_X3_living : GoodIn wsX5_livingBehind (wsV RX5 141 RX3 yX3_living wsX3_living) := goodIn_app (goodIn_of _ (by decide +kernel)) ggX5_livingBehind_X3_living
theorem dX5_livingBehind_0 : decode cX5_livingBehind 0 = .ok (.aload_n 0, 1) := by decide +kernel
theorem dX5_livingBehind_1 : decode cX5_livingBehind 1 = .ok (.getfield 35, 3) := by decide +kernel
theorem dX5_livingBehind_4 : decode cX5_livingBehind 4 = .ok (.aload_n 0, 1) := by decide +kernel
theorem dX5_livingBehind_5 : decode cX5_livingBehind 5 = .ok (.getfield 31, 3) := by decide +kernel
theorem dX5_livingBehind_8 : decode cX5_livingBehind 8 = .ok (.iload_n 1, 1) := by decide +kernel
theorem dX5_livingBehind_9 : decode cX5_livingBehind 9 = .ok (.invokevirtual 186, 3) := by decide +kernel
theorem dX5_livingBehind_12 : decode cX5_livingBehind 12 = .ok (.iconst 0, 1) := by decide +kernel
theorem dX5_livingBehind_13 : decode cX5_livingBehind 13 = .ok (.istore_n 3, 1) := by decide +kernel
theorem dX5_livingBehind_14 : decode cX5_livingBehind 14 = .ok (.iload_n 3, 1) := by decide +kernel
theorem dX5_livingBehind_15 : decode cX5_livingBehind 15 = .ok (.iload_n 2, 1) := by decide +kernel
theorem dX5_livingBehind_16 : decode cX5_livingBehind 16 = .ok (.if_icmp .ge 19, 3) := by decide +kernel
theorem dX5_livingBehind_19 : decode cX5_livingBehind 19 = .ok (.aload_n 0, 1) := by decide +kernel
theorem dX5_livingBehind_20 : decode cX5_livingBehind 20 = .ok (.getfield 35, 3) := by decide +kernel
theorem dX5_livingBehind_23 : decode cX5_livingBehind 23 = .ok (.bipush 15, 2) := by decide +kernel
theorem dX5_livingBehind_25 : decode cX5_livingBehind 25 = .ok (.invokevirtual 144, 3) := by decide +kernel
theorem dX5_livingBehind_28 : decode cX5_livingBehind 28 = .ok (.pop, 1) := by decide +kernel
theorem dX5_livingBehind_29 : decode cX5_livingBehind 29 = .ok (.iinc 3 1, 3) := by decide +kernel
theorem dX5_livingBehind_32 : decode cX5_livingBehind 32 = .ok (.goto (-18), 3) := by decide +kernel
theorem dX5_livingBehind_35 : decode cX5_livingBehind 35 = .ok (.aload_n 0, 1) := by decide +kernel
theorem dX5_livingBehind_36 : decode cX5_livingBehind 36 = .ok (.getfield 35, 3) := by decide +kernel
theorem dX5_livingBehind_39 : decode cX5_livingBehind 39 = .ok (.invokevirtual 141, 3) := by decide +kernel
theorem dX5_livingBehind_42 : decode cX5_livingBehind 42 = .ok (.ireturn, 1) := by decide +kernel
set_option maxRecDepth 20000 in
theorem ggX5_gainInAllOrders_X3_livingOnes : GoodIn wsX5_gainInAllOrders wsX3_livingOnes := goodIn_r _ [7, 8, 9, 121, 122, 123, 124, 125, 126, 127, 128, 129] (by decide +kernel) (by decide +kernel)
set_option maxRecDepth 20000 in
theorem gX5_gainInAllOrders_X3_livingOnes : GoodIn wsX5_gainInAllOrders (wsV RX5 260 RX3 yX3_livingOnes wsX3_livingOnes) := goodIn_app (goodIn_of _ (by decide +kernel)) ggX5_gainInAllOrders_X3_livingOnes
set_option maxRecDepth 20000 in
theorem ggX5_gainInAllOrders_J6_bitCount_0f7a4 : GoodIn wsX5_gainInAllOrders wsJ6_bitCount_0f7a4 := goodIn_r _ [13, 14, 15, 16] (by decide +kernel) (by decide +kernel)
set_option maxRecDepth 20000 in
theorem gX5_gainInAllOrders_J6_bitCount_0f7a4 : GoodIn wsX5_gainInAllOrders (va_wsS RX5 233 yJ6_bitCount_0f7a4 wsJ6_bitCount_0f7a4) := goodIn_app (goodIn_of _ (by decide +kernel)) ggX5_gainInAllOrders_J6_bitCount_0f7a4
set_option maxRecDepth 20000 in
theorem ggX5_gainInAllOrders_X5_visitedBy : GoodIn wsX5_gainInAllOrders wsX5_visitedBy := goodIn_r _ [21, 22, 1, 23, 24, 25, 6, 26, 9, 27, 8, 28, 29, 30, 31, 32, 33, 34, 35, 36, 37, 20, 38, 39, 40, 41, 42, 43, 44, 45, 46, 47, 48, 49, 50, 51, 52, 53, 54, 55, 56, 57, 58, 59, 60, 11, 12, 13, 14, 15, 16, 61, 62, 63, 64, 65, 66, 67, 68, 69, 70, 71, 72, 73, 74, 75, 76, 77, 78, 79, 80, 81, 82, 83, 84, 85, 86, 87, 88, 89, 90, 91, 92, 93, 94, 95, 96, 97, 98, 99, 100, 101, 102, 103, 104, 105, 106, 107, 108, 109, 110, 10, 111, 112, 113, 114, 115, 116, 117, 118, 119, 120, 121, 122, 123, 124, 125, 126, 127, 128, 129, 130, 131, 132, 133, 134, 135, 136, 137, 138] (by decide +kernel) (by decide +kernel)
set_option maxRecDepth 20000 in
theorem gX5_gainInAllOrders_X5_visitedBy : GoodIn wsX5_gainInAllOrders (wsV RX5 263 RX5 yX5_visitedBy wsX5_visitedBy) := goodIn_app (goodIn_of _ (by decide +kernel)) ggX5_gainInAllOrders_X5_visitedBy
theorem dX5_gainInAllOrders_0 : decode cX5_gainInAllOrders 0 = .ok (.aload_n 0, 1) := by decide +kernel
theorem dX5_gainInAllOrders_1 : decode cX5_gainInAllOrders 1 = .ok (.getfield 31, 3) := by decide +kernel
theorem dX5_gainInAllOrders_4 : decode cX5_gainInAllOrders 4 = .ok (.invokevirtual 260, 3) := by decide +kernel
theorem dX5_gainInAllOrders_7 : decode cX5_gainInAllOrders 7 = .ok (.iconst 1, 1) := by decide +kernel
theorem dX5_gainInAllOrders_8 : decode cX5_gainInAllOrders 8 = .ok (.iload_n 1, 1) := by decide +kernel
theorem dX5_gainInAllOrders_9 : decode cX5_gainInAllOrders 9 = .ok (.ishl, 1) := by decide +kernel
theorem dX5_gainInAllOrders_10 : decode cX5_gainInAllOrders 10 = .ok (.iconst (-1), 1) := by decide +kernel
theorem dX5_gainInAllOrders_11 : decode cX5_gainInAllOrders 11 = .ok (.ixor, 1) := by decide +kernel
theorem dX5_gainInAllOrders_12 : decode cX5_gainInAllOrders 12 = .ok (.iand, 1) := by decide +kernel
theorem dX5_gainInAllOrders_13 : decode cX5_gainInAllOrders 13 = .ok (.istore_n 2, 1) := by decide +kernel
theorem dX5_gainInAllOrders_14 : decode cX5_gainInAllOrders 14 = .ok (.iload_n 2, 1) := by decide +kernel
theorem dX5_gainInAllOrders_15 : decode cX5_gainInAllOrders 15 = .ok (.invokestatic 233, 3) := by decide +kernel
theorem dX5_gainInAllOrders_18 : decode cX5_gainInAllOrders 18 = .ok (.istore_n 3, 1) := by decide +kernel
theorem dX5_gainInAllOrders_19 : decode cX5_gainInAllOrders 19 = .ok (.iconst 0, 1) := by decide +kernel
theorem dX5_gainInAllOrders_20 : decode cX5_gainInAllOrders 20 = .ok (.istore 4, 2) := by decide +kernel
theorem dX5_gainInAllOrders_22 : decode cX5_gainInAllOrders 22 = .ok (.iconst 0, 1) := by decide +kernel
theorem dX5_gainInAllOrders_23 : decode cX5_gainInAllOrders 23 = .ok (.istore 5, 2) := by decide +kernel
theorem dX5_gainInAllOrders_25 : decode cX5_gainInAllOrders 25 = .ok (.iload 5, 2) := by decide +kernel
theorem dX5_gainInAllOrders_27 : decode cX5_gainInAllOrders 27 = .ok (.bipush 15, 2) := by decide +kernel
theorem dX5_gainInAllOrders_29 : decode cX5_gainInAllOrders 29 = .ok (.if_icmp .gt 67, 3) := by decide +kernel
theorem dX5_gainInAllOrders_32 : decode cX5_gainInAllOrders 32 = .ok (.iload 5, 2) := by decide +kernel
theorem dX5_gainInAllOrders_34 : decode cX5_gainInAllOrders 34 = .ok (.iload_n 2, 1) := by decide +kernel
theorem dX5_gainInAllOrders_35 : decode cX5_gainInAllOrders 35 = .ok (.iconst (-1), 1) := by decide +kernel
theorem dX5_gainInAllOrders_36 : decode cX5_gainInAllOrders 36 = .ok (.ixor, 1) := by decide +kernel
theorem dX5_gainInAllOrders_37 : decode cX5_gainInAllOrders 37 = .ok (.iand, 1) := by decide +kernel
theorem dX5_gainInAllOrders_38 : decode cX5_gainInAllOrders 38 = .ok (.ifCond .ne 52, 3) := by decide +kernel
theorem dX5_gainInAllOrders_41 : decode cX5_gainInAllOrders 41 = .ok (.iload 5, 2) := by decide +kernel
theorem dX5_gainInAllOrders_43 : decode cX5_gainInAllOrders 43 = .ok (.invokestatic 233, 3) := by decide +kernel
theorem dX5_gainInAllOrders_46 : decode cX5_gainInAllOrders 46 = .ok (.istore 6, 2) := by decide +kernel
theorem dX5_gainInAllOrders_48 : decode cX5_gainInAllOrders 48 = .ok (.getstatic 219, 3) := by decide +kernel
theorem dX5_gainInAllOrders_51 : decode cX5_gainInAllOrders 51 = .ok (.iload 6, 2) := by decide +kernel
theorem dX5_gainInAllOrders_53 : decode cX5_gainInAllOrders 53 = .ok (.iaload, 1) := by decide +kernel
theorem dX5_gainInAllOrders_54 : decode cX5_gainInAllOrders 54 = .ok (.getstatic 219, 3) := by decide +kernel
theorem dX5_gainInAllOrders_57 : decode cX5_gainInAllOrders 57 = .ok (.iload_n 3, 1) := by decide +kernel
theorem dX5_gainInAllOrders_58 : decode cX5_gainInAllOrders 58 = .ok (.iload 6, 2) := by decide +kernel
theorem dX5_gainInAllOrders_60 : decode cX5_gainInAllOrders 60 = .ok (.isub, 1) := by decide +kernel
theorem dX5_gainInAllOrders_61 : decode cX5_gainInAllOrders 61 = .ok (.iaload, 1) := by decide +kernel
theorem dX5_gainInAllOrders_62 : decode cX5_gainInAllOrders 62 = .ok (.imul, 1) := by decide +kernel
theorem dX5_gainInAllOrders_63 : decode cX5_gainInAllOrders 63 = .ok (.istore 7, 2) := by decide +kernel
theorem dX5_gainInAllOrders_65 : decode cX5_gainInAllOrders 65 = .ok (.iload 4, 2) := by decide +kernel
theorem dX5_gainInAllOrders_67 : decode cX5_gainInAllOrders 67 = .ok (.iload 7, 2) := by decide +kernel
theorem dX5_gainInAllOrders_69 : decode cX5_gainInAllOrders 69 = .ok (.aload_n 0, 1) := by decide +kernel
theorem dX5_gainInAllOrders_70 : decode cX5_gainInAllOrders 70 = .ok (.iload 5, 2) := by decide +kernel
theorem dX5_gainInAllOrders_72 : decode cX5_gainInAllOrders 72 = .ok (.iconst 1, 1) := by decide +kernel
theorem dX5_gainInAllOrders_73 : decode cX5_gainInAllOrders 73 = .ok (.iload_n 1, 1) := by decide +kernel
theorem dX5_gainInAllOrders_74 : decode cX5_gainInAllOrders 74 = .ok (.ishl, 1) := by decide +kernel
theorem dX5_gainInAllOrders_75 : decode cX5_gainInAllOrders 75 = .ok (.ior, 1) := by decide +kernel
theorem dX5_gainInAllOrders_76 : decode cX5_gainInAllOrders 76 = .ok (.invokevirtual 263, 3) := by decide +kernel
theorem dX5_gainInAllOrders_79 : decode cX5_gainInAllOrders 79 = .ok (.aload_n 0, 1) := by decide +kernel
theorem dX5_gainInAllOrders_80 : decode cX5_gainInAllOrders 80 = .ok (.iload 5, 2) := by decide +kernel
theorem dX5_gainInAllOrders_82 : decode cX5_gainInAllOrders 82 = .ok (.invokevirtual 263, 3) := by decide +kernel
theorem dX5_gainInAllOrders_85 : decode cX5_gainInAllOrders 85 = .ok (.isub, 1) := by decide +kernel
theorem dX5_gainInAllOrders_86 : decode cX5_gainInAllOrders 86 = .ok (.imul, 1) := by decide +kernel
theorem dX5_gainInAllOrders_87 : decode cX5_gainInAllOrders 87 = .ok (.iadd, 1) := by decide +kernel
theorem dX5_gainInAllOrders_88 : decode cX5_gainInAllOrders 88 = .ok (.istore 4, 2) := by decide +kernel
theorem dX5_gainInAllOrders_90 : decode cX5_gainInAllOrders 90 = .ok (.iinc 5 1, 3) := by decide +kernel
theorem dX5_gainInAllOrders_93 : decode cX5_gainInAllOrders 93 = .ok (.goto (-68), 3) := by decide +kernel
theorem dX5_gainInAllOrders_96 : decode cX5_gainInAllOrders 96 = .ok (.iload 4, 2) := by decide +kernel
theorem dX5_gainInAllOrders_98 : decode cX5_gainInAllOrders 98 = .ok (.ireturn, 1) := by decide +kernel
set_option maxRecDepth 20000 in
theorem ggX5_visitedBy_X3_become : GoodIn wsX5_visitedBy wsX3_become := goodIn_r _ [7, 8, 9, 10, 11, 12, 13, 14, 15, 112, 113, 114, 115, 116, 117, 118, 119, 120] (by decide +kernel) (by decide +kernel)
set_option maxRecDepth 20000 in
theorem gX5_visitedBy_X3_become : GoodIn wsX5_visitedBy (wsV RX5 197 RX3 yX3_become wsX3_become) := goodIn_app (goodIn_of _ (by decide +kernel)) ggX5_visitedBy_X3_become
set_option maxRecDepth 20000 in
theorem ggX5_visitedBy_X3_playRound : GoodIn wsX5_visitedBy wsX3_playRound := goodIn_r _ [19, 10, 20, 21, 22, 23, 24, 25, 6, 26, 9, 27, 8, 13, 28, 29, 30, 31, 32, 33, 34, 35, 36, 37, 38, 39, 40, 41, 42, 43, 15, 44, 45, 46, 47, 48, 49, 50, 51, 52, 53, 54, 55, 56, 57, 58, 59, 60, 61, 62, 14, 63, 64, 65, 66, 67, 68, 69, 70, 71, 72, 73, 74, 75, 76, 77, 78, 79, 80, 81, 82, 83, 84, 12, 85, 86, 87, 88, 89, 90, 91, 92, 93, 94, 95, 96, 97, 98, 99, 100, 11, 112, 113, 114, 115, 116, 117, 118, 119, 120, 121, 122, 123, 124, 125, 126, 127, 128, 129] (by decide +kernel) (by decide +kernel)
set_option maxRecDepth 20000 in
theorem gX5_visitedBy_X3_playRound : GoodIn wsX5_visitedBy (wsV RX5 144 RX3 yX3_playRound wsX3_playRound) := goodIn_app (goodIn_of _ (by decide +kernel)) ggX5_visitedBy_X3_playRound
set_option maxRecDepth 20000 in
theorem ggX5_visitedBy_J6_bitCount_0f7a4 : GoodIn wsX5_visitedBy wsJ6_bitCount_0f7a4 := goodIn_r _ [47, 48, 49, 50] (by decide +kernel) (by decide +kernel)
set_option maxRecDepth 20000 in
theorem gX5_visitedBy_J6_bitCount_0f7a4 : GoodIn wsX5_visitedBy (va_wsS RX5 233 yJ6_bitCount_0f7a4 wsJ6_bitCount_0f7a4) := goodIn_app (goodIn_of _ (by decide +kernel)) ggX5_visitedBy_J6_bitCount_0f7a4
theorem dX5_visitedBy_0 : decode cX5_visitedBy 0 = .ok (.aload_n 0, 1) := by decide +kernel
theorem dX5_visitedBy_1 : decode cX5_visitedBy 1 = .ok (.getfield 35, 3) := by decide +kernel
theorem dX5_visitedBy_4 : decode cX5_visitedBy 4 = .ok (.aload_n 0, 1) := by decide +kernel
theorem dX5_visitedBy_5 : decode cX5_visitedBy 5 = .ok (.getfield 31, 3) := by decide +kernel
theorem dX5_visitedBy_8 : decode cX5_visitedBy 8 = .ok (.invokevirtual 197, 3) := by decide +kernel
theorem dX5_visitedBy_11 : decode cX5_visitedBy 11 = .ok (.iconst 0, 1) := by decide +kernel
theorem dX5_visitedBy_12 : decode cX5_visitedBy 12 = .ok (.istore_n 2, 1) := by decide +kernel
theorem dX5_visitedBy_13 : decode cX5_visitedBy 13 = .ok (.iload_n 2, 1) := by decide +kernel
theorem dX5_visitedBy_14 : decode cX5_visitedBy 14 = .ok (.bipush 6, 2) := by decide +kernel
theorem dX5_visitedBy_16 : decode cX5_visitedBy 16 = .ok (.if_icmp .ge 18, 3) := by decide +kernel
theorem dX5_visitedBy_19 : decode cX5_visitedBy 19 = .ok (.aload_n 0, 1) := by decide +kernel
theorem dX5_visitedBy_20 : decode cX5_visitedBy 20 = .ok (.getfield 35, 3) := by decide +kernel
theorem dX5_visitedBy_23 : decode cX5_visitedBy 23 = .ok (.iload_n 1, 1) := by decide +kernel
theorem dX5_visitedBy_24 : decode cX5_visitedBy 24 = .ok (.invokevirtual 144, 3) := by decide +kernel
theorem dX5_visitedBy_27 : decode cX5_visitedBy 27 = .ok (.pop, 1) := by decide +kernel
theorem dX5_visitedBy_28 : decode cX5_visitedBy 28 = .ok (.iinc 2 1, 3) := by decide +kernel
theorem dX5_visitedBy_31 : decode cX5_visitedBy 31 = .ok (.goto (-18), 3) := by decide +kernel
theorem dX5_visitedBy_34 : decode cX5_visitedBy 34 = .ok (.aload_n 0, 1) := by decide +kernel
theorem dX5_visitedBy_35 : decode cX5_visitedBy 35 = .ok (.getfield 35, 3) := by decide +kernel
theorem dX5_visitedBy_38 : decode cX5_visitedBy 38 = .ok (.getfield 171, 3) := by decide +kernel
theorem dX5_visitedBy_41 : decode cX5_visitedBy 41 = .ok (.invokestatic 233, 3) := by decide +kernel
theorem dX5_visitedBy_44 : decode cX5_visitedBy 44 = .ok (.ireturn, 1) := by decide +kernel
set_option maxRecDepth 20000 in
theorem ggX5_fraction_X5_commonDivisor : GoodIn wsX5_fraction wsX5_commonDivisor := goodIn_r _ [4] (by decide +kernel) (by decide +kernel)
set_option maxRecDepth 20000 in
theorem gX5_fraction_X5_commonDivisor : GoodIn wsX5_fraction (va_wsS RX5 266 yX5_commonDivisor wsX5_commonDivisor) := goodIn_app (goodIn_of _ (by decide +kernel)) ggX5_fraction_X5_commonDivisor
theorem dX5_fraction_0 : decode cX5_fraction 0 = .ok (.iload_n 0, 1) := by decide +kernel
theorem dX5_fraction_1 : decode cX5_fraction 1 = .ok (.iload_n 1, 1) := by decide +kernel
theorem dX5_fraction_2 : decode cX5_fraction 2 = .ok (.invokestatic 266, 3) := by decide +kernel
theorem dX5_fraction_5 : decode cX5_fraction 5 = .ok (.istore_n 3, 1) := by decide +kernel
theorem dX5_fraction_6 : decode cX5_fraction 6 = .ok (.iload_n 2, 1) := by decide +kernel
theorem dX5_fraction_7 : decode cX5_fraction 7 = .ok (.ifCond .eq 9, 3) := by decide +kernel
theorem dX5_fraction_10 : decode cX5_fraction 10 = .ok (.iload_n 0, 1) := by decide +kernel
theorem dX5_fraction_11 : decode cX5_fraction 11 = .ok (.iload_n 3, 1) := by decide +kernel
theorem dX5_fraction_12 : decode cX5_fraction 12 = .ok (.idiv, 1) := by decide +kernel
theorem dX5_fraction_13 : decode cX5_fraction 13 = .ok (.goto 6, 3) := by decide +kernel
theorem dX5_fraction_16 : decode cX5_fraction 16 = .ok (.iload_n 1, 1) := by decide +kernel
theorem dX5_fraction_17 : decode cX5_fraction 17 = .ok (.iload_n 3, 1) := by decide +kernel
theorem dX5_fraction_18 : decode cX5_fraction 18 = .ok (.idiv, 1) := by decide +kernel
theorem dX5_fraction_19 : decode cX5_fraction 19 = .ok (.ireturn, 1) := by decide +kernel
theorem dX5_commonDivisor_0 : decode cX5_commonDivisor 0 = .ok (.iload_n 1, 1) := by decide +kernel
theorem dX5_commonDivisor_1 : decode cX5_commonDivisor 1 = .ok (.istore_n 2, 1) := by decide +kernel
theorem dX5_commonDivisor_2 : decode cX5_commonDivisor 2 = .ok (.iload_n 2, 1) := by decide +kernel
theorem dX5_commonDivisor_3 : decode cX5_commonDivisor 3 = .ok (.iconst 1, 1) := by decide +kernel
theorem dX5_commonDivisor_4 : decode cX5_commonDivisor 4 = .ok (.if_icmp .le 23, 3) := by decide +kernel
theorem dX5_commonDivisor_7 : decode cX5_commonDivisor 7 = .ok (.iload_n 0, 1) := by decide +kernel
theorem dX5_commonDivisor_8 : decode cX5_commonDivisor 8 = .ok (.iload_n 2, 1) := by decide +kernel
theorem dX5_commonDivisor_9 : decode cX5_commonDivisor 9 = .ok (.irem, 1) := by decide +kernel
theorem dX5_commonDivisor_10 : decode cX5_commonDivisor 10 = .ok (.ifCond .ne 11, 3) := by decide +kernel
theorem dX5_commonDivisor_13 : decode cX5_commonDivisor 13 = .ok (.iload_n 1, 1) := by decide +kernel
theorem dX5_commonDivisor_14 : decode cX5_commonDivisor 14 = .ok (.iload_n 2, 1) := by decide +kernel
theorem dX5_commonDivisor_15 : decode cX5_commonDivisor 15 = .ok (.irem, 1) := by decide +kernel
theorem dX5_commonDivisor_16 : decode cX5_commonDivisor 16 = .ok (.ifCond .ne 5, 3) := by decide +kernel
theorem dX5_commonDivisor_19 : decode cX5_commonDivisor 19 = .ok (.iload_n 2, 1) := by decide +kernel
theorem dX5_commonDivisor_20 : decode cX5_commonDivisor 20 = .ok (.ireturn, 1) := by decide +kernel
theorem dX5_commonDivisor_21 : decode cX5_commonDivisor 21 = .ok (.iinc 2 (-1), 3) := by decide +kernel
theorem dX5_commonDivisor_24 : decode cX5_commonDivisor 24 = .ok (.goto (-22), 3) := by decide +kernel
theorem dX5_commonDivisor_27 : decode cX5_commonDivisor 27 = .ok (.iconst 1, 1) := by decide +kernel
theorem dX5_commonDivisor_28 : decode cX5_commonDivisor 28 = .ok (.ireturn, 1) := by decide +kernel
theorem dX5_holds_0 : decode cX5_holds 0 = .ok (.iload_n 0, 1) := by decide +kernel
theorem dX5_holds_1 : decode cX5_holds 1 = .ok (.iload_n 1, 1) := by decide +kernel
theorem dX5_holds_2 : decode cX5_holds 2 = .ok (.ishr, 1) := by decide +kernel
theorem dX5_holds_3 : decode cX5_holds 3 = .ok (.iconst 1, 1) := by decide +kernel
theorem dX5_holds_4 : decode cX5_holds 4 = .ok (.iand, 1) := by decide +kernel
theorem dX5_holds_5 : decode cX5_holds 5 = .ok (.ifCond .eq 7, 3) := by decide +kernel
theorem dX5_holds_8 : decode cX5_holds 8 = .ok (.iconst 1, 1) := by decide +kernel
theorem dX5_holds_9 : decode cX5_holds 9 = .ok (.goto 4, 3) := by decide +kernel
theorem dX5_holds_12 : decode cX5_holds 12 = .ok (.iconst 0, 1) := by decide +kernel
theorem dX5_holds_13 : decode cX5_holds 13 = .ok (.ireturn, 1) := by decide +kernel
theorem dX5_least_0 : decode cX5_least 0 = .ok (.iconst 0, 1) := by decide +kernel
theorem dX5_least_1 : decode cX5_least 1 = .ok (.istore_n 1, 1) := by decide +kernel
theorem dX5_least_2 : decode cX5_least 2 = .ok (.iload_n 1, 1) := by decide +kernel
theorem dX5_least_3 : decode cX5_least 3 = .ok (.bipush 10, 2) := by decide +kernel
theorem dX5_least_5 : decode cX5_least 5 = .ok (.if_icmp .ge 17, 3) := by decide +kernel
theorem dX5_least_8 : decode cX5_least 8 = .ok (.iload_n 0, 1) := by decide +kernel
theorem dX5_least_9 : decode cX5_least 9 = .ok (.iload_n 1, 1) := by decide +kernel
theorem dX5_least_10 : decode cX5_least 10 = .ok (.ishr, 1) := by decide +kernel
theorem dX5_least_11 : decode cX5_least 11 = .ok (.iconst 1, 1) := by decide +kernel
theorem dX5_least_12 : decode cX5_least 12 = .ok (.iand, 1) := by decide +kernel
theorem dX5_least_13 : decode cX5_least 13 = .ok (.ifCond .ne 9, 3) := by decide +kernel
theorem dX5_least_16 : decode cX5_least 16 = .ok (.iinc 1 1, 3) := by decide +kernel
theorem dX5_least_19 : decode cX5_least 19 = .ok (.goto (-17), 3) := by decide +kernel
theorem dX5_least_22 : decode cX5_least 22 = .ok (.iload_n 1, 1) := by decide +kernel
theorem dX5_least_23 : decode cX5_least 23 = .ok (.ireturn, 1) := by decide +kernel
set_option maxRecDepth 20000 in
theorem ggX6_init_X6_layFirst : GoodIn wsX6_init wsX6_layFirst := goodIn_r _ [25, 26, 27, 28, 29, 30, 31, 32, 33, 34, 35, 36, 37, 38, 39, 40, 41, 42, 43, 44, 45, 46, 47, 48, 49, 50, 51, 52, 53, 54] (by decide +kernel) (by decide +kernel)
set_option maxRecDepth 20000 in
theorem gX6_init_X6_layFirst : GoodIn wsX6_init (wsV RX6 57 RX6 yX6_layFirst wsX6_layFirst) := goodIn_app (goodIn_of _ (by decide +kernel)) ggX6_init_X6_layFirst
theorem dX6_init_0 : decode cX6_init 0 = .ok (.aload_n 0, 1) := by decide +kernel
theorem dX6_init_1 : decode cX6_init 1 = .ok (.invokespecial 1, 3) := by decide +kernel
theorem dX6_init_4 : decode cX6_init 4 = .ok (.aload_n 0, 1) := by decide +kernel
theorem dX6_init_5 : decode cX6_init 5 = .ok (.bipush 40, 2) := by decide +kernel
theorem dX6_init_7 : decode cX6_init 7 = .ok (.newarray .int, 2) := by decide +kernel
theorem dX6_init_9 : decode cX6_init 9 = .ok (.putfield 7, 3) := by decide +kernel
theorem dX6_init_12 : decode cX6_init 12 = .ok (.aload_n 0, 1) := by decide +kernel
theorem dX6_init_13 : decode cX6_init 13 = .ok (.iconst 2, 1) := by decide +kernel
theorem dX6_init_14 : decode cX6_init 14 = .ok (.putfield 13, 3) := by decide +kernel
theorem dX6_init_17 : decode cX6_init 17 = .ok (.aload_n 0, 1) := by decide +kernel
theorem dX6_init_18 : decode cX6_init 18 = .ok (.bipush 10, 2) := by decide +kernel
theorem dX6_init_20 : decode cX6_init 20 = .ok (.newarray .int, 2) := by decide +kernel
theorem dX6_init_22 : decode cX6_init 22 = .ok (.putfield 17, 3) := by decide +kernel
theorem dX6_init_25 : decode cX6_init 25 = .ok (.aload_n 0, 1) := by decide +kernel
theorem dX6_init_26 : decode cX6_init 26 = .ok (.bipush 10, 2) := by decide +kernel
theorem dX6_init_28 : decode cX6_init 28 = .ok (.newarray .int, 2) := by decide +kernel
theorem dX6_init_30 : decode cX6_init 30 = .ok (.putfield 20, 3) := by decide +kernel
theorem dX6_init_33 : decode cX6_init 33 = .ok (.aload_n 0, 1) := by decide +kernel
theorem dX6_init_34 : decode cX6_init 34 = .ok (.bipush 10, 2) := by decide +kernel
theorem dX6_init_36 : decode cX6_init 36 = .ok (.newarray .int, 2) := by decide +kernel
theorem dX6_init_38 : decode cX6_init 38 = .ok (.putfield 23, 3) := by decide +kernel
theorem dX6_init_41 : decode cX6_init 41 = .ok (.aload_n 0, 1) := by decide +kernel
theorem dX6_init_42 : decode cX6_init 42 = .ok (.bipush 10, 2) := by decide +kernel
theorem dX6_init_44 : decode cX6_init 44 = .ok (.newarray .int, 2) := by decide +kernel
theorem dX6_init_46 : decode cX6_init 46 = .ok (.putfield 26, 3) := by decide +kernel
theorem dX6_init_49 : decode cX6_init 49 = .ok (.aload_n 0, 1) := by decide +kernel
theorem dX6_init_50 : decode cX6_init 50 = .ok (.bipush 21, 2) := by decide +kernel
theorem dX6_init_52 : decode cX6_init 52 = .ok (.newarray .int, 2) := by decide +kernel
theorem dX6_init_54 : decode cX6_init 54 = .ok (.putfield 29, 3) := by decide +kernel
theorem dX6_init_57 : decode cX6_init 57 = .ok (.aload_n 0, 1) := by decide +kernel
theorem dX6_init_58 : decode cX6_init 58 = .ok (.bipush 21, 2) := by decide +kernel
theorem dX6_init_60 : decode cX6_init 60 = .ok (.newarray .int, 2) := by decide +kernel
theorem dX6_init_62 : decode cX6_init 62 = .ok (.putfield 32, 3) := by decide +kernel
theorem dX6_init_65 : decode cX6_init 65 = .ok (.aload_n 0, 1) := by decide +kernel
theorem dX6_init_66 : decode cX6_init 66 = .ok (.sipush 294, 3) := by decide +kernel
theorem dX6_init_69 : decode cX6_init 69 = .ok (.newarray .int, 2) := by decide +kernel
theorem dX6_init_71 : decode cX6_init 71 = .ok (.putfield 35, 3) := by decide +kernel
theorem dX6_init_74 : decode cX6_init 74 = .ok (.aload_n 0, 1) := by decide +kernel
theorem dX6_init_75 : decode cX6_init 75 = .ok (.bipush 42, 2) := by decide +kernel
theorem dX6_init_77 : decode cX6_init 77 = .ok (.newarray .int, 2) := by decide +kernel
theorem dX6_init_79 : decode cX6_init 79 = .ok (.putfield 38, 3) := by decide +kernel
theorem dX6_init_82 : decode cX6_init 82 = .ok (.aload_n 0, 1) := by decide +kernel
theorem dX6_init_83 : decode cX6_init 83 = .ok (.iconst 2, 1) := by decide +kernel
theorem dX6_init_84 : decode cX6_init 84 = .ok (.newarray .boolean, 2) := by decide +kernel
theorem dX6_init_86 : decode cX6_init 86 = .ok (.putfield 41, 3) := by decide +kernel
theorem dX6_init_89 : decode cX6_init 89 = .ok (.aload_n 0, 1) := by decide +kernel
theorem dX6_init_90 : decode cX6_init 90 = .ok (.bipush 6, 2) := by decide +kernel
theorem dX6_init_92 : decode cX6_init 92 = .ok (.newarray .int, 2) := by decide +kernel
theorem dX6_init_94 : decode cX6_init 94 = .ok (.putfield 45, 3) := by decide +kernel
theorem dX6_init_97 : decode cX6_init 97 = .ok (.aload_n 0, 1) := by decide +kernel
theorem dX6_init_98 : decode cX6_init 98 = .ok (.bipush 6, 2) := by decide +kernel
theorem dX6_init_100 : decode cX6_init 100 = .ok (.newarray .int, 2) := by decide +kernel
theorem dX6_init_102 : decode cX6_init 102 = .ok (.putfield 48, 3) := by decide +kernel
theorem dX6_init_105 : decode cX6_init 105 = .ok (.aload_n 0, 1) := by decide +kernel
theorem dX6_init_106 : decode cX6_init 106 = .ok (.bipush 8, 2) := by decide +kernel
theorem dX6_init_108 : decode cX6_init 108 = .ok (.newarray .int, 2) := by decide +kernel
theorem dX6_init_110 : decode cX6_init 110 = .ok (.putfield 51, 3) := by decide +kernel
theorem dX6_init_113 : decode cX6_init 113 = .ok (.aload_n 0, 1) := by decide +kernel
theorem dX6_init_114 : decode cX6_init 114 = .ok (.bipush 15, 2) := by decide +kernel
theorem dX6_init_116 : decode cX6_init 116 = .ok (.putfield 54, 3) := by decide +kernel
theorem dX6_init_119 : decode cX6_init 119 = .ok (.aload_n 0, 1) := by decide +kernel
theorem dX6_init_120 : decode cX6_init 120 = .ok (.aload_n 0, 1) := by decide +kernel
theorem dX6_init_121 : decode cX6_init 121 = .ok (.getfield 29, 3) := by decide +kernel
theorem dX6_init_124 : decode cX6_init 124 = .ok (.iconst 1, 1) := by decide +kernel
theorem dX6_init_125 : decode cX6_init 125 = .ok (.iconst 1, 1) := by decide +kernel
theorem dX6_init_126 : decode cX6_init 126 = .ok (.invokevirtual 57, 3) := by decide +kernel
theorem dX6_init_129 : decode cX6_init 129 = .ok (.return_, 1) := by decide +kernel
theorem dX6_in_0 : decode cX6_in 0 = .ok (.lload_n 0, 1) := by decide +kernel
theorem dX6_in_1 : decode cX6_in 1 = .ok (.lload_n 2, 1) := by decide +kernel
theorem dX6_in_2 : decode cX6_in 2 = .ok (.lcmp, 1) := by decide +kernel
theorem dX6_in_3 : decode cX6_in 3 = .ok (.ifCond .lt 14, 3) := by decide +kernel
theorem dX6_in_6 : decode cX6_in 6 = .ok (.lload_n 0, 1) := by decide +kernel
theorem dX6_in_7 : decode cX6_in 7 = .ok (.lload 4, 2) := by decide +kernel
theorem dX6_in_9 : decode cX6_in 9 = .ok (.lcmp, 1) := by decide +kernel
theorem dX6_in_10 : decode cX6_in 10 = .ok (.ifCond .gt 7, 3) := by decide +kernel
theorem dX6_in_13 : decode cX6_in 13 = .ok (.iconst 1, 1) := by decide +kernel
theorem dX6_in_14 : decode cX6_in 14 = .ok (.goto 4, 3) := by decide +kernel
theorem dX6_in_17 : decode cX6_in 17 = .ok (.iconst 0, 1) := by decide +kernel
theorem dX6_in_18 : decode cX6_in 18 = .ok (.ireturn, 1) := by decide +kernel
theorem dX6_has_0 : decode cX6_has 0 = .ok (.iload_n 0, 1) := by decide +kernel
theorem dX6_has_1 : decode cX6_has 1 = .ok (.iload_n 1, 1) := by decide +kernel
theorem dX6_has_2 : decode cX6_has 2 = .ok (.ishr, 1) := by decide +kernel
theorem dX6_has_3 : decode cX6_has 3 = .ok (.iconst 1, 1) := by decide +kernel
theorem dX6_has_4 : decode cX6_has 4 = .ok (.iand, 1) := by decide +kernel
theorem dX6_has_5 : decode cX6_has 5 = .ok (.iconst 1, 1) := by decide +kernel
theorem dX6_has_6 : decode cX6_has 6 = .ok (.if_icmp .ne 7, 3) := by decide +kernel
theorem dX6_has_9 : decode cX6_has 9 = .ok (.iconst 1, 1) := by decide +kernel
theorem dX6_has_10 : decode cX6_has 10 = .ok (.goto 4, 3) := by decide +kernel
theorem dX6_has_13 : decode cX6_has 13 = .ok (.iconst 0, 1) := by decide +kernel
theorem dX6_has_14 : decode cX6_has 14 = .ok (.ireturn, 1) := by decide +kernel
theorem dX6_ones_0 : decode cX6_ones 0 = .ok (.iconst 0, 1) := by decide +kernel
theorem dX6_ones_1 : decode cX6_ones 1 = .ok (.istore_n 1, 1) := by decide +kernel
theorem dX6_ones_2 : decode cX6_ones 2 = .ok (.iconst 0, 1) := by decide +kernel
theorem dX6_ones_3 : decode cX6_ones 3 = .ok (.istore_n 2, 1) := by decide +kernel
theorem dX6_ones_4 : decode cX6_ones 4 = .ok (.iload_n 2, 1) := by decide +kernel
theorem dX6_ones_5 : decode cX6_ones 5 = .ok (.bipush 12, 2) := by decide +kernel
theorem dX6_ones_7 : decode cX6_ones 7 = .ok (.if_icmp .ge 17, 3) := by decide +kernel
theorem dX6_ones_10 : decode cX6_ones 10 = .ok (.iload_n 1, 1) := by decide +kernel
theorem dX6_ones_11 : decode cX6_ones 11 = .ok (.iload_n 0, 1) := by decide +kernel
theorem dX6_ones_12 : decode cX6_ones 12 = .ok (.iload_n 2, 1) := by decide +kernel
theorem dX6_ones_13 : decode cX6_ones 13 = .ok (.ishr, 1) := by decide +kernel
theorem dX6_ones_14 : decode cX6_ones 14 = .ok (.iconst 1, 1) := by decide +kernel
theorem dX6_ones_15 : decode cX6_ones 15 = .ok (.iand, 1) := by decide +kernel
theorem dX6_ones_16 : decode cX6_ones 16 = .ok (.iadd, 1) := by decide +kernel
theorem dX6_ones_17 : decode cX6_ones 17 = .ok (.istore_n 1, 1) := by decide +kernel
theorem dX6_ones_18 : decode cX6_ones 18 = .ok (.iinc 2 1, 3) := by decide +kernel
theorem dX6_ones_21 : decode cX6_ones 21 = .ok (.goto (-17), 3) := by decide +kernel
theorem dX6_ones_24 : decode cX6_ones 24 = .ok (.iload_n 1, 1) := by decide +kernel
theorem dX6_ones_25 : decode cX6_ones 25 = .ok (.ireturn, 1) := by decide +kernel
theorem dX6_layFirst_0 : decode cX6_layFirst 0 = .ok (.iconst 0, 1) := by decide +kernel
theorem dX6_layFirst_1 : decode cX6_layFirst 1 = .ok (.istore 4, 2) := by decide +kernel
theorem dX6_layFirst_3 : decode cX6_layFirst 3 = .ok (.iload 4, 2) := by decide +kernel
theorem dX6_layFirst_5 : decode cX6_layFirst 5 = .ok (.bipush 21, 2) := by decide +kernel
theorem dX6_layFirst_7 : decode cX6_layFirst 7 = .ok (.if_icmp .ge 14, 3) := by decide +kernel
theorem dX6_layFirst_10 : decode cX6_layFirst 10 = .ok (.aload_n 1, 1) := by decide +kernel
theorem dX6_layFirst_11 : decode cX6_layFirst 11 = .ok (.iload 4, 2) := by decide +kernel
theorem dX6_layFirst_13 : decode cX6_layFirst 13 = .ok (.iconst 0, 1) := by decide +kernel
theorem dX6_layFirst_14 : decode cX6_layFirst 14 = .ok (.iastore, 1) := by decide +kernel
theorem dX6_layFirst_15 : decode cX6_layFirst 15 = .ok (.iinc 4 1, 3) := by decide +kernel
theorem dX6_layFirst_18 : decode cX6_layFirst 18 = .ok (.goto (-15), 3) := by decide +kernel
theorem dX6_layFirst_21 : decode cX6_layFirst 21 = .ok (.aload_n 1, 1) := by decide +kernel
theorem dX6_layFirst_22 : decode cX6_layFirst 22 = .ok (.iconst 0, 1) := by decide +kernel
theorem dX6_layFirst_23 : decode cX6_layFirst 23 = .ok (.iload_n 2, 1) := by decide +kernel
theorem dX6_layFirst_24 : decode cX6_layFirst 24 = .ok (.iastore, 1) := by decide +kernel
theorem dX6_layFirst_25 : decode cX6_layFirst 25 = .ok (.aload_n 1, 1) := by decide +kernel
theorem dX6_layFirst_26 : decode cX6_layFirst 26 = .ok (.iconst 1, 1) := by decide +kernel
theorem dX6_layFirst_27 : decode cX6_layFirst 27 = .ok (.iload_n 3, 1) := by decide +kernel
theorem dX6_layFirst_28 : decode cX6_layFirst 28 = .ok (.iastore, 1) := by decide +kernel
theorem dX6_layFirst_29 : decode cX6_layFirst 29 = .ok (.iconst 0, 1) := by decide +kernel
theorem dX6_layFirst_30 : decode cX6_layFirst 30 = .ok (.istore 4, 2) := by decide +kernel
theorem dX6_layFirst_32 : decode cX6_layFirst 32 = .ok (.iload 4, 2) := by decide +kernel
theorem dX6_layFirst_34 : decode cX6_layFirst 34 = .ok (.iconst 4, 1) := by decide +kernel
theorem dX6_layFirst_35 : decode cX6_layFirst 35 = .ok (.if_icmp .ge 19, 3) := by decide +kernel
theorem dX6_layFirst_38 : decode cX6_layFirst 38 = .ok (.aload_n 1, 1) := by decide +kernel
theorem dX6_layFirst_39 : decode cX6_layFirst 39 = .ok (.iconst 3, 1) := by decide +kernel
theorem dX6_layFirst_40 : decode cX6_layFirst 40 = .ok (.iload 4, 2) := by decide +kernel
theorem dX6_layFirst_42 : decode cX6_layFirst 42 = .ok (.iadd, 1) := by decide +kernel
theorem dX6_layFirst_43 : decode cX6_layFirst 43 = .ok (.aload_n 0, 1) := by decide +kernel
theorem dX6_layFirst_44 : decode cX6_layFirst 44 = .ok (.getfield 64, 3) := by decide +kernel
theorem dX6_layFirst_47 : decode cX6_layFirst 47 = .ok (.iastore, 1) := by decide +kernel
theorem dX6_layFirst_48 : decode cX6_layFirst 48 = .ok (.iinc 4 1, 3) := by decide +kernel
theorem dX6_layFirst_51 : decode cX6_layFirst 51 = .ok (.goto (-19), 3) := by decide +kernel
theorem dX6_layFirst_54 : decode cX6_layFirst 54 = .ok (.return_, 1) := by decide +kernel
theorem dX6_lay_0 : decode cX6_lay 0 = .ok (.iconst 0, 1) := by decide +kernel
theorem dX6_lay_1 : decode cX6_lay 1 = .ok (.istore_n 2, 1) := by decide +kernel
theorem dX6_lay_2 : decode cX6_lay 2 = .ok (.iload_n 2, 1) := by decide +kernel
theorem dX6_lay_3 : decode cX6_lay 3 = .ok (.bipush 21, 2) := by decide +kernel
theorem dX6_lay_5 : decode cX6_lay 5 = .ok (.if_icmp .ge 15, 3) := by decide +kernel
theorem dX6_lay_8 : decode cX6_lay 8 = .ok (.aload_n 1, 1) := by decide +kernel
theorem dX6_lay_9 : decode cX6_lay 9 = .ok (.iload_n 2, 1) := by decide +kernel
theorem dX6_lay_10 : decode cX6_lay 10 = .ok (.aload_n 0, 1) := by decide +kernel
theorem dX6_lay_11 : decode cX6_lay 11 = .ok (.iload_n 2, 1) := by decide +kernel
theorem dX6_lay_12 : decode cX6_lay 12 = .ok (.iaload, 1) := by decide +kernel
theorem dX6_lay_13 : decode cX6_lay 13 = .ok (.iastore, 1) := by decide +kernel
theorem dX6_lay_14 : decode cX6_lay 14 = .ok (.iinc 2 1, 3) := by decide +kernel
theorem dX6_lay_17 : decode cX6_lay 17 = .ok (.goto (-15), 3) := by decide +kernel
theorem dX6_lay_20 : decode cX6_lay 20 = .ok (.return_, 1) := by decide +kernel
set_option maxRecDepth 20000 in
theorem ggX6_noPlace_X6_in : GoodIn wsX6_noPlace wsX6_in := goodIn_r _ [5] (by decide +kernel) (by decide +kernel)
set_option maxRecDepth 20000 in
theorem gX6_noPlace_X6_in : GoodIn wsX6_noPlace (va_wsS RX6 67 yX6_in wsX6_in) := goodIn_app (goodIn_of _ (by decide +kernel)) ggX6_noPlace_X6_in
theorem dX6_noPlace_0 : decode cX6_noPlace 0 = .ok (.iload_n 1, 1) := by decide +kernel
theorem dX6_noPlace_1 : decode cX6_noPlace 1 = .ok (.i2l, 1) := by decide +kernel
theorem dX6_noPlace_2 : decode cX6_noPlace 2 = .ok (.lconst 0, 1) := by decide +kernel
theorem dX6_noPlace_3 : decode cX6_noPlace 3 = .ok (.aload_n 0, 1) := by decide +kernel
theorem dX6_noPlace_4 : decode cX6_noPlace 4 = .ok (.getfield 13, 3) := by decide +kernel
theorem dX6_noPlace_7 : decode cX6_noPlace 7 = .ok (.iconst 1, 1) := by decide +kernel
theorem dX6_noPlace_8 : decode cX6_noPlace 8 = .ok (.isub, 1) := by decide +kernel
theorem dX6_noPlace_9 : decode cX6_noPlace 9 = .ok (.i2l, 1) := by decide +kernel
theorem dX6_noPlace_10 : decode cX6_noPlace 10 = .ok (.invokestatic 67, 3) := by decide +kernel
theorem dX6_noPlace_13 : decode cX6_noPlace 13 = .ok (.ifCond .ne 7, 3) := by decide +kernel
theorem dX6_noPlace_16 : decode cX6_noPlace 16 = .ok (.iconst 1, 1) := by decide +kernel
theorem dX6_noPlace_17 : decode cX6_noPlace 17 = .ok (.goto 4, 3) := by decide +kernel
theorem dX6_noPlace_20 : decode cX6_noPlace 20 = .ok (.iconst 0, 1) := by decide +kernel
theorem dX6_noPlace_21 : decode cX6_noPlace 21 = .ok (.ireturn, 1) := by decide +kernel
set_option maxRecDepth 20000 in
theorem ggX6_noEdge_X6_in : GoodIn wsX6_noEdge wsX6_in := goodIn_r _ [5] (by decide +kernel) (by decide +kernel)
set_option maxRecDepth 20000 in
theorem gX6_noEdge_X6_in : GoodIn wsX6_noEdge (va_wsS RX6 67 yX6_in wsX6_in) := goodIn_app (goodIn_of _ (by decide +kernel)) ggX6_noEdge_X6_in
theorem dX6_noEdge_0 : decode cX6_noEdge 0 = .ok (.iload_n 1, 1) := by decide +kernel
theorem dX6_noEdge_1 : decode cX6_noEdge 1 = .ok (.i2l, 1) := by decide +kernel
theorem dX6_noEdge_2 : decode cX6_noEdge 2 = .ok (.lconst 0, 1) := by decide +kernel
theorem dX6_noEdge_3 : decode cX6_noEdge 3 = .ok (.aload_n 0, 1) := by decide +kernel
theorem dX6_noEdge_4 : decode cX6_noEdge 4 = .ok (.getfield 71, 3) := by decide +kernel
theorem dX6_noEdge_7 : decode cX6_noEdge 7 = .ok (.iconst 1, 1) := by decide +kernel
theorem dX6_noEdge_8 : decode cX6_noEdge 8 = .ok (.isub, 1) := by decide +kernel
theorem dX6_noEdge_9 : decode cX6_noEdge 9 = .ok (.i2l, 1) := by decide +kernel
theorem dX6_noEdge_10 : decode cX6_noEdge 10 = .ok (.invokestatic 67, 3) := by decide +kernel
theorem dX6_noEdge_13 : decode cX6_noEdge 13 = .ok (.ifCond .ne 7, 3) := by decide +kernel
theorem dX6_noEdge_16 : decode cX6_noEdge 16 = .ok (.iconst 1, 1) := by decide +kernel
theorem dX6_noEdge_17 : decode cX6_noEdge 17 = .ok (.goto 4, 3) := by decide +kernel
theorem dX6_noEdge_20 : decode cX6_noEdge 20 = .ok (.iconst 0, 1) := by decide +kernel
theorem dX6_noEdge_21 : decode cX6_noEdge 21 = .ok (.ireturn, 1) := by decide +kernel
theorem dX6_lives_0 : decode cX6_lives 0 = .ok (.aload_n 0, 1) := by decide +kernel
theorem dX6_lives_1 : decode cX6_lives 1 = .ok (.iconst 3, 1) := by decide +kernel
theorem dX6_lives_2 : decode cX6_lives 2 = .ok (.iload_n 1, 1) := by decide +kernel
theorem dX6_lives_3 : decode cX6_lives 3 = .ok (.iadd, 1) := by decide +kernel
theorem dX6_lives_4 : decode cX6_lives 4 = .ok (.iaload, 1) := by decide +kernel
theorem dX6_lives_5 : decode cX6_lives 5 = .ok (.bipush 9, 2) := by decide +kernel
theorem dX6_lives_7 : decode cX6_lives 7 = .ok (.if_icmp .eq 7, 3) := by decide +kernel
theorem dX6_lives_10 : decode cX6_lives 10 = .ok (.iconst 1, 1) := by decide +kernel
theorem dX6_lives_11 : decode cX6_lives 11 = .ok (.goto 4, 3) := by decide +kernel
theorem dX6_lives_14 : decode cX6_lives 14 = .ok (.iconst 0, 1) := by decide +kernel
theorem dX6_lives_15 : decode cX6_lives 15 = .ok (.ireturn, 1) := by decide +kernel
set_option maxRecDepth 20000 in
theorem ggX6_living_X6_lives : GoodIn wsX6_living wsX6_lives := goodIn_r _ [4] (by decide +kernel) (by decide +kernel)
set_option maxRecDepth 20000 in
theorem gX6_living_X6_lives : GoodIn wsX6_living (va_wsS RX6 74 yX6_lives wsX6_lives) := goodIn_app (goodIn_of _ (by decide +kernel)) ggX6_living_X6_lives
theorem dX6_living_0 : decode cX6_living 0 = .ok (.iconst 0, 1) := by decide +kernel
theorem dX6_living_1 : decode cX6_living 1 = .ok (.istore_n 1, 1) := by decide +kernel
theorem dX6_living_2 : decode cX6_living 2 = .ok (.iconst 0, 1) := by decide +kernel
theorem dX6_living_3 : decode cX6_living 3 = .ok (.istore_n 2, 1) := by decide +kernel
theorem dX6_living_4 : decode cX6_living 4 = .ok (.iload_n 2, 1) := by decide +kernel
theorem dX6_living_5 : decode cX6_living 5 = .ok (.aload_n 0, 1) := by decide +kernel
theorem dX6_living_6 : decode cX6_living 6 = .ok (.iconst 1, 1) := by decide +kernel
theorem dX6_living_7 : decode cX6_living 7 = .ok (.iaload, 1) := by decide +kernel
theorem dX6_living_8 : decode cX6_living 8 = .ok (.if_icmp .ge 25, 3) := by decide +kernel
theorem dX6_living_11 : decode cX6_living 11 = .ok (.iload_n 1, 1) := by decide +kernel
theorem dX6_living_12 : decode cX6_living 12 = .ok (.aload_n 0, 1) := by decide +kernel
theorem dX6_living_13 : decode cX6_living 13 = .ok (.iload_n 2, 1) := by decide +kernel
theorem dX6_living_14 : decode cX6_living 14 = .ok (.invokestatic 74, 3) := by decide +kernel
theorem dX6_living_17 : decode cX6_living 17 = .ok (.ifCond .eq 7, 3) := by decide +kernel
theorem dX6_living_20 : decode cX6_living 20 = .ok (.iconst 1, 1) := by decide +kernel
theorem dX6_living_21 : decode cX6_living 21 = .ok (.goto 4, 3) := by decide +kernel
theorem dX6_living_24 : decode cX6_living 24 = .ok (.iconst 0, 1) := by decide +kernel
theorem dX6_living_25 : decode cX6_living 25 = .ok (.iadd, 1) := by decide +kernel
theorem dX6_living_26 : decode cX6_living 26 = .ok (.istore_n 1, 1) := by decide +kernel
theorem dX6_living_27 : decode cX6_living 27 = .ok (.iinc 2 1, 3) := by decide +kernel
theorem dX6_living_30 : decode cX6_living 30 = .ok (.goto (-26), 3) := by decide +kernel
theorem dX6_living_33 : decode cX6_living 33 = .ok (.iload_n 1, 1) := by decide +kernel
theorem dX6_living_34 : decode cX6_living 34 = .ok (.ireturn, 1) := by decide +kernel
theorem dX6_visited_0 : decode cX6_visited 0 = .ok (.iconst 1, 1) := by decide +kernel
theorem dX6_visited_1 : decode cX6_visited 1 = .ok (.aload_n 0, 1) := by decide +kernel
theorem dX6_visited_2 : decode cX6_visited 2 = .ok (.getfield 64, 3) := by decide +kernel
theorem dX6_visited_5 : decode cX6_visited 5 = .ok (.ishl, 1) := by decide +kernel
theorem dX6_visited_6 : decode cX6_visited 6 = .ok (.istore_n 2, 1) := by decide +kernel
theorem dX6_visited_7 : decode cX6_visited 7 = .ok (.iconst 0, 1) := by decide +kernel
theorem dX6_visited_8 : decode cX6_visited 8 = .ok (.istore_n 3, 1) := by decide +kernel
theorem dX6_visited_9 : decode cX6_visited 9 = .ok (.iload_n 3, 1) := by decide +kernel
theorem dX6_visited_10 : decode cX6_visited 10 = .ok (.aload_n 0, 1) := by decide +kernel
theorem dX6_visited_11 : decode cX6_visited 11 = .ok (.getfield 71, 3) := by decide +kernel
theorem dX6_visited_14 : decode cX6_visited 14 = .ok (.if_icmp .ge 43, 3) := by decide +kernel
theorem dX6_visited_17 : decode cX6_visited 17 = .ok (.iload_n 2, 1) := by decide +kernel
theorem dX6_visited_18 : decode cX6_visited 18 = .ok (.aload_n 1, 1) := by decide +kernel
theorem dX6_visited_19 : decode cX6_visited 19 = .ok (.bipush 11, 2) := by decide +kernel
theorem dX6_visited_21 : decode cX6_visited 21 = .ok (.iload_n 3, 1) := by decide +kernel
theorem dX6_visited_22 : decode cX6_visited 22 = .ok (.iadd, 1) := by decide +kernel
theorem dX6_visited_23 : decode cX6_visited 23 = .ok (.iaload, 1) := by decide +kernel
theorem dX6_visited_24 : decode cX6_visited 24 = .ok (.iconst 2, 1) := by decide +kernel
theorem dX6_visited_25 : decode cX6_visited 25 = .ok (.if_icmp .ne 23, 3) := by decide +kernel
theorem dX6_visited_28 : decode cX6_visited 28 = .ok (.iconst 1, 1) := by decide +kernel
theorem dX6_visited_29 : decode cX6_visited 29 = .ok (.aload_n 0, 1) := by decide +kernel
theorem dX6_visited_30 : decode cX6_visited 30 = .ok (.getfield 17, 3) := by decide +kernel
theorem dX6_visited_33 : decode cX6_visited 33 = .ok (.iload_n 3, 1) := by decide +kernel
theorem dX6_visited_34 : decode cX6_visited 34 = .ok (.iaload, 1) := by decide +kernel
theorem dX6_visited_35 : decode cX6_visited 35 = .ok (.ishl, 1) := by decide +kernel
theorem dX6_visited_36 : decode cX6_visited 36 = .ok (.iconst 1, 1) := by decide +kernel
theorem dX6_visited_37 : decode cX6_visited 37 = .ok (.aload_n 0, 1) := by decide +kernel
theorem dX6_visited_38 : decode cX6_visited 38 = .ok (.getfield 20, 3) := by decide +kernel
theorem dX6_visited_41 : decode cX6_visited 41 = .ok (.iload_n 3, 1) := by decide +kernel
theorem dX6_visited_42 : decode cX6_visited 42 = .ok (.iaload, 1) := by decide +kernel
theorem dX6_visited_43 : decode cX6_visited 43 = .ok (.ishl, 1) := by decide +kernel
theorem dX6_visited_44 : decode cX6_visited 44 = .ok (.ior, 1) := by decide +kernel
theorem dX6_visited_45 : decode cX6_visited 45 = .ok (.goto 4, 3) := by decide +kernel
theorem dX6_visited_48 : decode cX6_visited 48 = .ok (.iconst 0, 1) := by decide +kernel
theorem dX6_visited_49 : decode cX6_visited 49 = .ok (.ior, 1) := by decide +kernel
theorem dX6_visited_50 : decode cX6_visited 50 = .ok (.istore_n 2, 1) := by decide +kernel
theorem dX6_visited_51 : decode cX6_visited 51 = .ok (.iinc 3 1, 3) := by decide +kernel
theorem dX6_visited_54 : decode cX6_visited 54 = .ok (.goto (-45), 3) := by decide +kernel
theorem dX6_visited_57 : decode cX6_visited 57 = .ok (.iload_n 2, 1) := by decide +kernel
theorem dX6_visited_58 : decode cX6_visited 58 = .ok (.ireturn, 1) := by decide +kernel
set_option maxRecDepth 20000 in
theorem ggX6_mayBe_X6_visited : GoodIn wsX6_mayBe wsX6_visited := goodIn_r _ [6, 7, 8, 9, 10, 11, 12, 13, 14, 15, 16, 17, 18, 19, 20, 21, 22, 23, 24, 25, 26, 27, 28, 29, 30, 31, 32, 33, 34, 35, 36, 37, 38] (by decide +kernel) (by decide +kernel)
set_option maxRecDepth 20000 in
theorem gX6_mayBe_X6_visited : GoodIn wsX6_mayBe (wsV RX6 78 RX6 yX6_visited wsX6_visited) := goodIn_app (goodIn_of _ (by decide +kernel)) ggX6_mayBe_X6_visited
theorem dX6_mayBe_0 : decode cX6_mayBe 0 = .ok (.iconst 1, 1) := by decide +kernel
theorem dX6_mayBe_1 : decode cX6_mayBe 1 = .ok (.aload_n 0, 1) := by decide +kernel
theorem dX6_mayBe_2 : decode cX6_mayBe 2 = .ok (.getfield 13, 3) := by decide +kernel
theorem dX6_mayBe_5 : decode cX6_mayBe 5 = .ok (.ishl, 1) := by decide +kernel
theorem dX6_mayBe_6 : decode cX6_mayBe 6 = .ok (.iconst 1, 1) := by decide +kernel
theorem dX6_mayBe_7 : decode cX6_mayBe 7 = .ok (.isub, 1) := by decide +kernel
theorem dX6_mayBe_8 : decode cX6_mayBe 8 = .ok (.aload_n 0, 1) := by decide +kernel
theorem dX6_mayBe_9 : decode cX6_mayBe 9 = .ok (.aload_n 1, 1) := by decide +kernel
theorem dX6_mayBe_10 : decode cX6_mayBe 10 = .ok (.invokevirtual 78, 3) := by decide +kernel
theorem dX6_mayBe_13 : decode cX6_mayBe 13 = .ok (.iconst (-1), 1) := by decide +kernel
theorem dX6_mayBe_14 : decode cX6_mayBe 14 = .ok (.ixor, 1) := by decide +kernel
theorem dX6_mayBe_15 : decode cX6_mayBe 15 = .ok (.iand, 1) := by decide +kernel
theorem dX6_mayBe_16 : decode cX6_mayBe 16 = .ok (.ireturn, 1) := by decide +kernel
set_option maxRecDepth 20000 in
theorem ggX6_isKnown_X6_mayBe : GoodIn wsX6_isKnown wsX6_mayBe := goodIn_r _ [5, 6, 7, 8, 9, 4, 10, 11, 12, 13, 14, 18, 19, 20, 21, 22, 23, 24, 25, 26, 27, 28, 29, 30, 31, 32, 33, 34, 35, 36, 37, 38, 39, 40, 41, 42, 43, 44, 45] (by decide +kernel) (by decide +kernel)
set_option maxRecDepth 20000 in
theorem gX6_isKnown_X6_mayBe : GoodIn wsX6_isKnown (wsV RX6 82 RX6 yX6_mayBe wsX6_mayBe) := goodIn_app (goodIn_of _ (by decide +kernel)) ggX6_isKnown_X6_mayBe
set_option maxRecDepth 20000 in
theorem ggX6_isKnown_X6_ones : GoodIn wsX6_isKnown wsX6_ones := goodIn_r _ [17] (by decide +kernel) (by decide +kernel)
set_option maxRecDepth 20000 in
theorem gX6_isKnown_X6_ones : GoodIn wsX6_isKnown (va_wsS RX6 85 yX6_ones wsX6_ones) := goodIn_app (goodIn_of _ (by decide +kernel)) ggX6_isKnown_X6_ones
theorem dX6_isKnown_0 : decode cX6_isKnown 0 = .ok (.aload_n 0, 1) := by decide +kernel
theorem dX6_isKnown_1 : decode cX6_isKnown 1 = .ok (.aload_n 1, 1) := by decide +kernel
theorem dX6_isKnown_2 : decode cX6_isKnown 2 = .ok (.invokevirtual 82, 3) := by decide +kernel
theorem dX6_isKnown_5 : decode cX6_isKnown 5 = .ok (.invokestatic 85, 3) := by decide +kernel
theorem dX6_isKnown_8 : decode cX6_isKnown 8 = .ok (.iconst 1, 1) := by decide +kernel
theorem dX6_isKnown_9 : decode cX6_isKnown 9 = .ok (.if_icmp .ne 7, 3) := by decide +kernel
theorem dX6_isKnown_12 : decode cX6_isKnown 12 = .ok (.iconst 1, 1) := by decide +kernel
theorem dX6_isKnown_13 : decode cX6_isKnown 13 = .ok (.goto 4, 3) := by decide +kernel
theorem dX6_isKnown_16 : decode cX6_isKnown 16 = .ok (.iconst 0, 1) := by decide +kernel
theorem dX6_isKnown_17 : decode cX6_isKnown 17 = .ok (.ireturn, 1) := by decide +kernel
theorem dX6_ends_0 : decode cX6_ends 0 = .ok (.aload_n 0, 1) := by decide +kernel
theorem dX6_ends_1 : decode cX6_ends 1 = .ok (.getfield 17, 3) := by decide +kernel
theorem dX6_ends_4 : decode cX6_ends 4 = .ok (.iload_n 1, 1) := by decide +kernel
theorem dX6_ends_5 : decode cX6_ends 5 = .ok (.iaload, 1) := by decide +kernel
theorem dX6_ends_6 : decode cX6_ends 6 = .ok (.iload_n 2, 1) := by decide +kernel
theorem dX6_ends_7 : decode cX6_ends 7 = .ok (.if_icmp .eq 13, 3) := by decide +kernel
theorem dX6_ends_10 : decode cX6_ends 10 = .ok (.aload_n 0, 1) := by decide +kernel
theorem dX6_ends_11 : decode cX6_ends 11 = .ok (.getfield 20, 3) := by decide +kernel
theorem dX6_ends_14 : decode cX6_ends 14 = .ok (.iload_n 1, 1) := by decide +kernel
theorem dX6_ends_15 : decode cX6_ends 15 = .ok (.iaload, 1) := by decide +kernel
theorem dX6_ends_16 : decode cX6_ends 16 = .ok (.iload_n 2, 1) := by decide +kernel
theorem dX6_ends_17 : decode cX6_ends 17 = .ok (.if_icmp .ne 7, 3) := by decide +kernel
theorem dX6_ends_20 : decode cX6_ends 20 = .ok (.iconst 1, 1) := by decide +kernel
theorem dX6_ends_21 : decode cX6_ends 21 = .ok (.goto 4, 3) := by decide +kernel
theorem dX6_ends_24 : decode cX6_ends 24 = .ok (.iconst 0, 1) := by decide +kernel
theorem dX6_ends_25 : decode cX6_ends 25 = .ok (.ireturn, 1) := by decide +kernel
theorem dX6_beyond_0 : decode cX6_beyond 0 = .ok (.aload_n 0, 1) := by decide +kernel
theorem dX6_beyond_1 : decode cX6_beyond 1 = .ok (.getfield 17, 3) := by decide +kernel
theorem dX6_beyond_4 : decode cX6_beyond 4 = .ok (.iload_n 1, 1) := by decide +kernel
theorem dX6_beyond_5 : decode cX6_beyond 5 = .ok (.iaload, 1) := by decide +kernel
theorem dX6_beyond_6 : decode cX6_beyond 6 = .ok (.iload_n 2, 1) := by decide +kernel
theorem dX6_beyond_7 : decode cX6_beyond 7 = .ok (.if_icmp .ne 12, 3) := by decide +kernel
theorem dX6_beyond_10 : decode cX6_beyond 10 = .ok (.aload_n 0, 1) := by decide +kernel
theorem dX6_beyond_11 : decode cX6_beyond 11 = .ok (.getfield 20, 3) := by decide +kernel
theorem dX6_beyond_14 : decode cX6_beyond 14 = .ok (.iload_n 1, 1) := by decide +kernel
theorem dX6_beyond_15 : decode cX6_beyond 15 = .ok (.iaload, 1) := by decide +kernel
theorem dX6_beyond_16 : decode cX6_beyond 16 = .ok (.goto 9, 3) := by decide +kernel
theorem dX6_beyond_19 : decode cX6_beyond 19 = .ok (.aload_n 0, 1) := by decide +kernel
theorem dX6_beyond_20 : decode cX6_beyond 20 = .ok (.getfield 17, 3) := by decide +kernel
theorem dX6_beyond_23 : decode cX6_beyond 23 = .ok (.iload_n 1, 1) := by decide +kernel
theorem dX6_beyond_24 : decode cX6_beyond 24 = .ok (.iaload, 1) := by decide +kernel
theorem dX6_beyond_25 : decode cX6_beyond 25 = .ok (.ireturn, 1) := by decide +kernel
set_option maxRecDepth 20000 in
theorem ggX6_canStep_X6_lives : GoodIn wsX6_canStep wsX6_lives := goodIn_r _ [7] (by decide +kernel) (by decide +kernel)
set_option maxRecDepth 20000 in
theorem gX6_canStep_X6_lives : GoodIn wsX6_canStep (va_wsS RX6 74 yX6_lives wsX6_lives) := goodIn_app (goodIn_of _ (by decide +kernel)) ggX6_canStep_X6_lives
set_option maxRecDepth 20000 in
theorem ggX6_canStep_X6_ends : GoodIn wsX6_canStep wsX6_ends := goodIn_r _ [11, 2, 3, 28, 29, 30, 31, 32, 33, 34, 35, 36, 37, 38, 39, 40, 41, 42, 43, 44, 45, 46, 47, 48, 49, 50, 51, 52, 53, 54, 55] (by decide +kernel) (by decide +kernel)
set_option maxRecDepth 20000 in
theorem gX6_canStep_X6_ends : GoodIn wsX6_canStep (wsV RX6 89 RX6 yX6_ends wsX6_ends) := goodIn_app (goodIn_of _ (by decide +kernel)) ggX6_canStep_X6_ends
set_option maxRecDepth 20000 in
theorem ggX6_canStep_X6_mayBe : GoodIn wsX6_canStep wsX6_mayBe := goodIn_r _ [15, 16, 17, 18, 19, 6, 20, 21, 1, 2, 3, 28, 29, 30, 31, 32, 33, 34, 35, 36, 37, 38, 39, 40, 41, 42, 43, 44, 45, 46, 47, 48, 49, 50, 51, 52, 53, 54, 55] (by decide +kernel) (by decide +kernel)
set_option maxRecDepth 20000 in
theorem gX6_canStep_X6_mayBe : GoodIn wsX6_canStep (wsV RX6 82 RX6 yX6_mayBe wsX6_mayBe) := goodIn_app (goodIn_of _ (by decide +kernel)) ggX6_canStep_X6_mayBe
set_option maxRecDepth 20000 in
theorem ggX6_canStep_X6_ones : GoodIn wsX6_canStep wsX6_ones := goodIn_r _ [24] (by decide +kernel) (by decide +kernel)
set_option maxRecDepth 20000 in
theorem gX6_canStep_X6_ones : GoodIn wsX6_canStep (va_wsS RX6 85 yX6_ones wsX6_ones) := goodIn_app (goodIn_of _ (by decide +kernel)) ggX6_canStep_X6_ones
set_option maxRecDepth 20000 in
theorem ggX6_canStep_X6_has : GoodIn wsX6_canStep wsX6_has := goodIn_r _ [27] (by decide +kernel) (by decide +kernel)
set_option maxRecDepth 20000 in
theorem gX6_canStep_X6_has : GoodIn wsX6_canStep (va_wsS RX6 93 yX6_has wsX6_has) := goodIn_app (goodIn_of _ (by decide +kernel)) ggX6_canStep_X6_has
theorem dX6_canStep_0 : decode cX6_canStep 0 = .ok (.iload_n 2, 1) := by decide +kernel
theorem dX6_canStep_1 : decode cX6_canStep 1 = .ok (.aload_n 1, 1) := by decide +kernel
theorem dX6_canStep_2 : decode cX6_canStep 2 = .ok (.iconst 1, 1) := by decide +kernel
theorem dX6_canStep_3 : decode cX6_canStep 3 = .ok (.iaload, 1) := by decide +kernel
theorem dX6_canStep_4 : decode cX6_canStep 4 = .ok (.if_icmp .ge 32, 3) := by decide +kernel
theorem dX6_canStep_7 : decode cX6_canStep 7 = .ok (.iload_n 3, 1) := by decide +kernel
theorem dX6_canStep_8 : decode cX6_canStep 8 = .ok (.aload_n 0, 1) := by decide +kernel
theorem dX6_canStep_9 : decode cX6_canStep 9 = .ok (.getfield 71, 3) := by decide +kernel
theorem dX6_canStep_12 : decode cX6_canStep 12 = .ok (.if_icmp .ge 24, 3) := by decide +kernel
theorem dX6_canStep_15 : decode cX6_canStep 15 = .ok (.aload_n 1, 1) := by decide +kernel
theorem dX6_canStep_16 : decode cX6_canStep 16 = .ok (.iload_n 2, 1) := by decide +kernel
theorem dX6_canStep_17 : decode cX6_canStep 17 = .ok (.invokestatic 74, 3) := by decide +kernel
theorem dX6_canStep_20 : decode cX6_canStep 20 = .ok (.ifCond .eq 16, 3) := by decide +kernel
theorem dX6_canStep_23 : decode cX6_canStep 23 = .ok (.aload_n 0, 1) := by decide +kernel
theorem dX6_canStep_24 : decode cX6_canStep 24 = .ok (.iload_n 3, 1) := by decide +kernel
theorem dX6_canStep_25 : decode cX6_canStep 25 = .ok (.aload_n 1, 1) := by decide +kernel
theorem dX6_canStep_26 : decode cX6_canStep 26 = .ok (.iconst 3, 1) := by decide +kernel
theorem dX6_canStep_27 : decode cX6_canStep 27 = .ok (.iload_n 2, 1) := by decide +kernel
theorem dX6_canStep_28 : decode cX6_canStep 28 = .ok (.iadd, 1) := by decide +kernel
theorem dX6_canStep_29 : decode cX6_canStep 29 = .ok (.iaload, 1) := by decide +kernel
theorem dX6_canStep_30 : decode cX6_canStep 30 = .ok (.invokevirtual 89, 3) := by decide +kernel
theorem dX6_canStep_33 : decode cX6_canStep 33 = .ok (.ifCond .ne 5, 3) := by decide +kernel
theorem dX6_canStep_36 : decode cX6_canStep 36 = .ok (.iconst 0, 1) := by decide +kernel
theorem dX6_canStep_37 : decode cX6_canStep 37 = .ok (.ireturn, 1) := by decide +kernel
theorem dX6_canStep_38 : decode cX6_canStep 38 = .ok (.aload_n 1, 1) := by decide +kernel
theorem dX6_canStep_39 : decode cX6_canStep 39 = .ok (.bipush 7, 2) := by decide +kernel
theorem dX6_canStep_41 : decode cX6_canStep 41 = .ok (.iload_n 2, 1) := by decide +kernel
theorem dX6_canStep_42 : decode cX6_canStep 42 = .ok (.iadd, 1) := by decide +kernel
theorem dX6_canStep_43 : decode cX6_canStep 43 = .ok (.iaload, 1) := by decide +kernel
theorem dX6_canStep_44 : decode cX6_canStep 44 = .ok (.ifCond .le 21, 3) := by decide +kernel
theorem dX6_canStep_47 : decode cX6_canStep 47 = .ok (.aload_n 1, 1) := by decide +kernel
theorem dX6_canStep_48 : decode cX6_canStep 48 = .ok (.bipush 7, 2) := by decide +kernel
theorem dX6_canStep_50 : decode cX6_canStep 50 = .ok (.iload_n 2, 1) := by decide +kernel
theorem dX6_canStep_51 : decode cX6_canStep 51 = .ok (.iadd, 1) := by decide +kernel
theorem dX6_canStep_52 : decode cX6_canStep 52 = .ok (.iaload, 1) := by decide +kernel
theorem dX6_canStep_53 : decode cX6_canStep 53 = .ok (.iload_n 3, 1) := by decide +kernel
theorem dX6_canStep_54 : decode cX6_canStep 54 = .ok (.iconst 1, 1) := by decide +kernel
theorem dX6_canStep_55 : decode cX6_canStep 55 = .ok (.iadd, 1) := by decide +kernel
theorem dX6_canStep_56 : decode cX6_canStep 56 = .ok (.if_icmp .ne 7, 3) := by decide +kernel
theorem dX6_canStep_59 : decode cX6_canStep 59 = .ok (.iconst 1, 1) := by decide +kernel
theorem dX6_canStep_60 : decode cX6_canStep 60 = .ok (.goto 4, 3) := by decide +kernel
theorem dX6_canStep_63 : decode cX6_canStep 63 = .ok (.iconst 0, 1) := by decide +kernel
theorem dX6_canStep_64 : decode cX6_canStep 64 = .ok (.ireturn, 1) := by decide +kernel
theorem dX6_canStep_65 : decode cX6_canStep 65 = .ok (.aload_n 0, 1) := by decide +kernel
theorem dX6_canStep_66 : decode cX6_canStep 66 = .ok (.aload_n 1, 1) := by decide +kernel
theorem dX6_canStep_67 : decode cX6_canStep 67 = .ok (.invokevirtual 82, 3) := by decide +kernel
theorem dX6_canStep_70 : decode cX6_canStep 70 = .ok (.istore 4, 2) := by decide +kernel
theorem dX6_canStep_72 : decode cX6_canStep 72 = .ok (.iload 4, 2) := by decide +kernel
theorem dX6_canStep_74 : decode cX6_canStep 74 = .ok (.invokestatic 85, 3) := by decide +kernel
theorem dX6_canStep_77 : decode cX6_canStep 77 = .ok (.iconst 1, 1) := by decide +kernel
theorem dX6_canStep_78 : decode cX6_canStep 78 = .ok (.if_icmp .ne 35, 3) := by decide +kernel
theorem dX6_canStep_81 : decode cX6_canStep 81 = .ok (.iload 4, 2) := by decide +kernel
theorem dX6_canStep_83 : decode cX6_canStep 83 = .ok (.aload_n 0, 1) := by decide +kernel
theorem dX6_canStep_84 : decode cX6_canStep 84 = .ok (.getfield 17, 3) := by decide +kernel
theorem dX6_canStep_87 : decode cX6_canStep 87 = .ok (.iload_n 3, 1) := by decide +kernel
theorem dX6_canStep_88 : decode cX6_canStep 88 = .ok (.iaload, 1) := by decide +kernel
theorem dX6_canStep_89 : decode cX6_canStep 89 = .ok (.invokestatic 93, 3) := by decide +kernel
theorem dX6_canStep_92 : decode cX6_canStep 92 = .ok (.ifCond .ne 17, 3) := by decide +kernel
theorem dX6_canStep_95 : decode cX6_canStep 95 = .ok (.iload 4, 2) := by decide +kernel
theorem dX6_canStep_97 : decode cX6_canStep 97 = .ok (.aload_n 0, 1) := by decide +kernel
theorem dX6_canStep_98 : decode cX6_canStep 98 = .ok (.getfield 20, 3) := by decide +kernel
theorem dX6_canStep_101 : decode cX6_canStep 101 = .ok (.iload_n 3, 1) := by decide +kernel
theorem dX6_canStep_102 : decode cX6_canStep 102 = .ok (.iaload, 1) := by decide +kernel
theorem dX6_canStep_103 : decode cX6_canStep 103 = .ok (.invokestatic 93, 3) := by decide +kernel
theorem dX6_canStep_106 : decode cX6_canStep 106 = .ok (.ifCond .eq 7, 3) := by decide +kernel
theorem dX6_canStep_109 : decode cX6_canStep 109 = .ok (.iconst 1, 1) := by decide +kernel
theorem dX6_canStep_110 : decode cX6_canStep 110 = .ok (.goto 4, 3) := by decide +kernel
theorem dX6_canStep_113 : decode cX6_canStep 113 = .ok (.iconst 0, 1) := by decide +kernel
theorem dX6_canStep_114 : decode cX6_canStep 114 = .ok (.istore 5, 2) := by decide +kernel
theorem dX6_canStep_116 : decode cX6_canStep 116 = .ok (.aload_n 1, 1) := by decide +kernel
theorem dX6_canStep_117 : decode cX6_canStep 117 = .ok (.bipush 11, 2) := by decide +kernel
theorem dX6_canStep_119 : decode cX6_canStep 119 = .ok (.iload_n 3, 1) := by decide +kernel
theorem dX6_canStep_120 : decode cX6_canStep 120 = .ok (.iadd, 1) := by decide +kernel
theorem dX6_canStep_121 : decode cX6_canStep 121 = .ok (.iaload, 1) := by decide +kernel
theorem dX6_canStep_122 : decode cX6_canStep 122 = .ok (.iconst 2, 1) := by decide +kernel
theorem dX6_canStep_123 : decode cX6_canStep 123 = .ok (.if_icmp .eq 17, 3) := by decide +kernel
theorem dX6_canStep_126 : decode cX6_canStep 126 = .ok (.aload_n 1, 1) := by decide +kernel
theorem dX6_canStep_127 : decode cX6_canStep 127 = .ok (.bipush 11, 2) := by decide +kernel
theorem dX6_canStep_129 : decode cX6_canStep 129 = .ok (.iload_n 3, 1) := by decide +kernel
theorem dX6_canStep_130 : decode cX6_canStep 130 = .ok (.iadd, 1) := by decide +kernel
theorem dX6_canStep_131 : decode cX6_canStep 131 = .ok (.iaload, 1) := by decide +kernel
theorem dX6_canStep_132 : decode cX6_canStep 132 = .ok (.ifCond .ne 12, 3) := by decide +kernel
theorem dX6_canStep_135 : decode cX6_canStep 135 = .ok (.iload 5, 2) := by decide +kernel
theorem dX6_canStep_137 : decode cX6_canStep 137 = .ok (.ifCond .ne 7, 3) := by decide +kernel
theorem dX6_canStep_140 : decode cX6_canStep 140 = .ok (.iconst 1, 1) := by decide +kernel
theorem dX6_canStep_141 : decode cX6_canStep 141 = .ok (.goto 4, 3) := by decide +kernel
theorem dX6_canStep_144 : decode cX6_canStep 144 = .ok (.iconst 0, 1) := by decide +kernel
theorem dX6_canStep_145 : decode cX6_canStep 145 = .ok (.ireturn, 1) := by decide +kernel
set_option maxRecDepth 20000 in
theorem ggX6_stepOn_X6_beyond : GoodIn wsX6_stepOn wsX6_beyond := goodIn_r _ [5, 6, 7, 8, 9, 10, 11, 12, 13, 14, 15, 16, 17, 18, 19, 20, 21, 22, 23, 24, 25, 26, 27, 28, 29, 30, 31, 32, 33, 34, 35] (by decide +kernel) (by decide +kernel)
set_option maxRecDepth 20000 in
theorem gX6_stepOn_X6_beyond : GoodIn wsX6_stepOn (wsV RX6 96 RX6 yX6_beyond wsX6_beyond) := goodIn_app (goodIn_of _ (by decide +kernel)) ggX6_stepOn_X6_beyond
theorem dX6_stepOn_0 : decode cX6_stepOn 0 = .ok (.aload_n 0, 1) := by decide +kernel
theorem dX6_stepOn_1 : decode cX6_stepOn 1 = .ok (.iload_n 3, 1) := by decide +kernel
theorem dX6_stepOn_2 : decode cX6_stepOn 2 = .ok (.aload_n 1, 1) := by decide +kernel
theorem dX6_stepOn_3 : decode cX6_stepOn 3 = .ok (.iconst 3, 1) := by decide +kernel
theorem dX6_stepOn_4 : decode cX6_stepOn 4 = .ok (.iload_n 2, 1) := by decide +kernel
theorem dX6_stepOn_5 : decode cX6_stepOn 5 = .ok (.iadd, 1) := by decide +kernel
theorem dX6_stepOn_6 : decode cX6_stepOn 6 = .ok (.iaload, 1) := by decide +kernel
theorem dX6_stepOn_7 : decode cX6_stepOn 7 = .ok (.invokevirtual 96, 3) := by decide +kernel
theorem dX6_stepOn_10 : decode cX6_stepOn 10 = .ok (.istore 4, 2) := by decide +kernel
theorem dX6_stepOn_12 : decode cX6_stepOn 12 = .ok (.aload_n 1, 1) := by decide +kernel
theorem dX6_stepOn_13 : decode cX6_stepOn 13 = .ok (.bipush 7, 2) := by decide +kernel
theorem dX6_stepOn_15 : decode cX6_stepOn 15 = .ok (.iload_n 2, 1) := by decide +kernel
theorem dX6_stepOn_16 : decode cX6_stepOn 16 = .ok (.iadd, 1) := by decide +kernel
theorem dX6_stepOn_17 : decode cX6_stepOn 17 = .ok (.iaload, 1) := by decide +kernel
theorem dX6_stepOn_18 : decode cX6_stepOn 18 = .ok (.ifCond .le 27, 3) := by decide +kernel
theorem dX6_stepOn_21 : decode cX6_stepOn 21 = .ok (.aload_n 1, 1) := by decide +kernel
theorem dX6_stepOn_22 : decode cX6_stepOn 22 = .ok (.bipush 7, 2) := by decide +kernel
theorem dX6_stepOn_24 : decode cX6_stepOn 24 = .ok (.iload_n 2, 1) := by decide +kernel
theorem dX6_stepOn_25 : decode cX6_stepOn 25 = .ok (.iadd, 1) := by decide +kernel
theorem dX6_stepOn_26 : decode cX6_stepOn 26 = .ok (.iconst 0, 1) := by decide +kernel
theorem dX6_stepOn_27 : decode cX6_stepOn 27 = .ok (.iastore, 1) := by decide +kernel
theorem dX6_stepOn_28 : decode cX6_stepOn 28 = .ok (.aload_n 1, 1) := by decide +kernel
theorem dX6_stepOn_29 : decode cX6_stepOn 29 = .ok (.bipush 11, 2) := by decide +kernel
theorem dX6_stepOn_31 : decode cX6_stepOn 31 = .ok (.iload_n 3, 1) := by decide +kernel
theorem dX6_stepOn_32 : decode cX6_stepOn 32 = .ok (.iadd, 1) := by decide +kernel
theorem dX6_stepOn_33 : decode cX6_stepOn 33 = .ok (.iconst 2, 1) := by decide +kernel
theorem dX6_stepOn_34 : decode cX6_stepOn 34 = .ok (.iastore, 1) := by decide +kernel
theorem dX6_stepOn_35 : decode cX6_stepOn 35 = .ok (.aload_n 1, 1) := by decide +kernel
theorem dX6_stepOn_36 : decode cX6_stepOn 36 = .ok (.iconst 3, 1) := by decide +kernel
theorem dX6_stepOn_37 : decode cX6_stepOn 37 = .ok (.iload_n 2, 1) := by decide +kernel
theorem dX6_stepOn_38 : decode cX6_stepOn 38 = .ok (.iadd, 1) := by decide +kernel
theorem dX6_stepOn_39 : decode cX6_stepOn 39 = .ok (.iload 4, 2) := by decide +kernel
theorem dX6_stepOn_41 : decode cX6_stepOn 41 = .ok (.iastore, 1) := by decide +kernel
theorem dX6_stepOn_42 : decode cX6_stepOn 42 = .ok (.goto 71, 3) := by decide +kernel
theorem dX6_stepOn_45 : decode cX6_stepOn 45 = .ok (.aload_n 1, 1) := by decide +kernel
theorem dX6_stepOn_46 : decode cX6_stepOn 46 = .ok (.bipush 11, 2) := by decide +kernel
theorem dX6_stepOn_48 : decode cX6_stepOn 48 = .ok (.iload_n 3, 1) := by decide +kernel
theorem dX6_stepOn_49 : decode cX6_stepOn 49 = .ok (.iadd, 1) := by decide +kernel
theorem dX6_stepOn_50 : decode cX6_stepOn 50 = .ok (.iaload, 1) := by decide +kernel
theorem dX6_stepOn_51 : decode cX6_stepOn 51 = .ok (.iconst 2, 1) := by decide +kernel
theorem dX6_stepOn_52 : decode cX6_stepOn 52 = .ok (.if_icmp .ne 13, 3) := by decide +kernel
theorem dX6_stepOn_55 : decode cX6_stepOn 55 = .ok (.aload_n 1, 1) := by decide +kernel
theorem dX6_stepOn_56 : decode cX6_stepOn 56 = .ok (.iconst 3, 1) := by decide +kernel
theorem dX6_stepOn_57 : decode cX6_stepOn 57 = .ok (.iload_n 2, 1) := by decide +kernel
theorem dX6_stepOn_58 : decode cX6_stepOn 58 = .ok (.iadd, 1) := by decide +kernel
theorem dX6_stepOn_59 : decode cX6_stepOn 59 = .ok (.iload 4, 2) := by decide +kernel
theorem dX6_stepOn_61 : decode cX6_stepOn 61 = .ok (.iastore, 1) := by decide +kernel
theorem dX6_stepOn_62 : decode cX6_stepOn 62 = .ok (.goto 51, 3) := by decide +kernel
theorem dX6_stepOn_65 : decode cX6_stepOn 65 = .ok (.aload_n 1, 1) := by decide +kernel
theorem dX6_stepOn_66 : decode cX6_stepOn 66 = .ok (.bipush 11, 2) := by decide +kernel
theorem dX6_stepOn_68 : decode cX6_stepOn 68 = .ok (.iload_n 3, 1) := by decide +kernel
theorem dX6_stepOn_69 : decode cX6_stepOn 69 = .ok (.iadd, 1) := by decide +kernel
theorem dX6_stepOn_70 : decode cX6_stepOn 70 = .ok (.iconst 1, 1) := by decide +kernel
theorem dX6_stepOn_71 : decode cX6_stepOn 71 = .ok (.iastore, 1) := by decide +kernel
theorem dX6_stepOn_72 : decode cX6_stepOn 72 = .ok (.aload_n 1, 1) := by decide +kernel
theorem dX6_stepOn_73 : decode cX6_stepOn 73 = .ok (.iconst 3, 1) := by decide +kernel
theorem dX6_stepOn_74 : decode cX6_stepOn 74 = .ok (.iload_n 2, 1) := by decide +kernel
theorem dX6_stepOn_75 : decode cX6_stepOn 75 = .ok (.iadd, 1) := by decide +kernel
theorem dX6_stepOn_76 : decode cX6_stepOn 76 = .ok (.iload 4, 2) := by decide +kernel
theorem dX6_stepOn_78 : decode cX6_stepOn 78 = .ok (.aload_n 1, 1) := by decide +kernel
theorem dX6_stepOn_79 : decode cX6_stepOn 79 = .ok (.iconst 0, 1) := by decide +kernel
theorem dX6_stepOn_80 : decode cX6_stepOn 80 = .ok (.iaload, 1) := by decide +kernel
theorem dX6_stepOn_81 : decode cX6_stepOn 81 = .ok (.if_icmp .ne 8, 3) := by decide +kernel
theorem dX6_stepOn_84 : decode cX6_stepOn 84 = .ok (.bipush 9, 2) := by decide +kernel
theorem dX6_stepOn_86 : decode cX6_stepOn 86 = .ok (.goto 5, 3) := by decide +kernel
theorem dX6_stepOn_89 : decode cX6_stepOn 89 = .ok (.iload 4, 2) := by decide +kernel
theorem dX6_stepOn_91 : decode cX6_stepOn 91 = .ok (.iastore, 1) := by decide +kernel
theorem dX6_stepOn_92 : decode cX6_stepOn 92 = .ok (.aload_n 1, 1) := by decide +kernel
theorem dX6_stepOn_93 : decode cX6_stepOn 93 = .ok (.bipush 7, 2) := by decide +kernel
theorem dX6_stepOn_95 : decode cX6_stepOn 95 = .ok (.iload_n 2, 1) := by decide +kernel
theorem dX6_stepOn_96 : decode cX6_stepOn 96 = .ok (.iadd, 1) := by decide +kernel
theorem dX6_stepOn_97 : decode cX6_stepOn 97 = .ok (.iload 4, 2) := by decide +kernel
theorem dX6_stepOn_99 : decode cX6_stepOn 99 = .ok (.aload_n 1, 1) := by decide +kernel
theorem dX6_stepOn_100 : decode cX6_stepOn 100 = .ok (.iconst 0, 1) := by decide +kernel
theorem dX6_stepOn_101 : decode cX6_stepOn 101 = .ok (.iaload, 1) := by decide +kernel
theorem dX6_stepOn_102 : decode cX6_stepOn 102 = .ok (.if_icmp .ne 7, 3) := by decide +kernel
theorem dX6_stepOn_105 : decode cX6_stepOn 105 = .ok (.iconst 0, 1) := by decide +kernel
theorem dX6_stepOn_106 : decode cX6_stepOn 106 = .ok (.goto 6, 3) := by decide +kernel
theorem dX6_stepOn_109 : decode cX6_stepOn 109 = .ok (.iload_n 3, 1) := by decide +kernel
theorem dX6_stepOn_110 : decode cX6_stepOn 110 = .ok (.iconst 1, 1) := by decide +kernel
theorem dX6_stepOn_111 : decode cX6_stepOn 111 = .ok (.iadd, 1) := by decide +kernel
theorem dX6_stepOn_112 : decode cX6_stepOn 112 = .ok (.iastore, 1) := by decide +kernel
theorem dX6_stepOn_113 : decode cX6_stepOn 113 = .ok (.aload_n 1, 1) := by decide +kernel
theorem dX6_stepOn_114 : decode cX6_stepOn 114 = .ok (.iconst 2, 1) := by decide +kernel
theorem dX6_stepOn_115 : decode cX6_stepOn 115 = .ok (.dup2, 1) := by decide +kernel
theorem dX6_stepOn_116 : decode cX6_stepOn 116 = .ok (.iaload, 1) := by decide +kernel
theorem dX6_stepOn_117 : decode cX6_stepOn 117 = .ok (.iconst 1, 1) := by decide +kernel
theorem dX6_stepOn_118 : decode cX6_stepOn 118 = .ok (.iadd, 1) := by decide +kernel
theorem dX6_stepOn_119 : decode cX6_stepOn 119 = .ok (.iastore, 1) := by decide +kernel
theorem dX6_stepOn_120 : decode cX6_stepOn 120 = .ok (.return_, 1) := by decide +kernel
set_option maxRecDepth 20000 in
theorem ggX6_unseenAt_X6_ends : GoodIn wsX6_unseenAt wsX6_ends := goodIn_r _ [6, 7, 8, 9, 10, 11, 12, 13, 14, 15, 16, 17, 18, 19, 20, 21, 22, 23, 24, 25, 26, 27, 28, 29, 30, 31, 32, 33, 34, 35, 36] (by decide +kernel) (by decide +kernel)
set_option maxRecDepth 20000 in
theorem gX6_unseenAt_X6_ends : GoodIn wsX6_unseenAt (wsV RX6 89 RX6 yX6_ends wsX6_ends) := goodIn_app (goodIn_of _ (by decide +kernel)) ggX6_unseenAt_X6_ends
theorem dX6_unseenAt_0 : decode cX6_unseenAt 0 = .ok (.iconst 0, 1) := by decide +kernel
theorem dX6_unseenAt_1 : decode cX6_unseenAt 1 = .ok (.istore_n 3, 1) := by decide +kernel
theorem dX6_unseenAt_2 : decode cX6_unseenAt 2 = .ok (.iload_n 3, 1) := by decide +kernel
theorem dX6_unseenAt_3 : decode cX6_unseenAt 3 = .ok (.aload_n 0, 1) := by decide +kernel
theorem dX6_unseenAt_4 : decode cX6_unseenAt 4 = .ok (.getfield 71, 3) := by decide +kernel
theorem dX6_unseenAt_7 : decode cX6_unseenAt 7 = .ok (.if_icmp .ge 29, 3) := by decide +kernel
theorem dX6_unseenAt_10 : decode cX6_unseenAt 10 = .ok (.aload_n 1, 1) := by decide +kernel
theorem dX6_unseenAt_11 : decode cX6_unseenAt 11 = .ok (.bipush 11, 2) := by decide +kernel
theorem dX6_unseenAt_13 : decode cX6_unseenAt 13 = .ok (.iload_n 3, 1) := by decide +kernel
theorem dX6_unseenAt_14 : decode cX6_unseenAt 14 = .ok (.iadd, 1) := by decide +kernel
theorem dX6_unseenAt_15 : decode cX6_unseenAt 15 = .ok (.iaload, 1) := by decide +kernel
theorem dX6_unseenAt_16 : decode cX6_unseenAt 16 = .ok (.ifCond .ne 14, 3) := by decide +kernel
theorem dX6_unseenAt_19 : decode cX6_unseenAt 19 = .ok (.aload_n 0, 1) := by decide +kernel
theorem dX6_unseenAt_20 : decode cX6_unseenAt 20 = .ok (.iload_n 3, 1) := by decide +kernel
theorem dX6_unseenAt_21 : decode cX6_unseenAt 21 = .ok (.iload_n 2, 1) := by decide +kernel
theorem dX6_unseenAt_22 : decode cX6_unseenAt 22 = .ok (.invokevirtual 89, 3) := by decide +kernel
theorem dX6_unseenAt_25 : decode cX6_unseenAt 25 = .ok (.ifCond .eq 5, 3) := by decide +kernel
theorem dX6_unseenAt_28 : decode cX6_unseenAt 28 = .ok (.iload_n 3, 1) := by decide +kernel
theorem dX6_unseenAt_29 : decode cX6_unseenAt 29 = .ok (.ireturn, 1) := by decide +kernel
theorem dX6_unseenAt_30 : decode cX6_unseenAt 30 = .ok (.iinc 3 1, 3) := by decide +kernel
theorem dX6_unseenAt_33 : decode cX6_unseenAt 33 = .ok (.goto (-31), 3) := by decide +kernel
theorem dX6_unseenAt_36 : decode cX6_unseenAt 36 = .ok (.bipush (-9), 2) := by decide +kernel
theorem dX6_unseenAt_38 : decode cX6_unseenAt 38 = .ok (.ireturn, 1) := by decide +kernel
theorem dX6_layFar_0 : decode cX6_layFar 0 = .ok (.iconst 0, 1) := by decide +kernel
theorem dX6_layFar_1 : decode cX6_layFar 1 = .ok (.istore_n 3, 1) := by decide +kernel
theorem dX6_layFar_2 : decode cX6_layFar 2 = .ok (.iload_n 3, 1) := by decide +kernel
theorem dX6_layFar_3 : decode cX6_layFar 3 = .ok (.bipush 8, 2) := by decide +kernel
theorem dX6_layFar_5 : decode cX6_layFar 5 = .ok (.if_icmp .ge 26, 3) := by decide +kernel
theorem dX6_layFar_8 : decode cX6_layFar 8 = .ok (.aload_n 0, 1) := by decide +kernel
theorem dX6_layFar_9 : decode cX6_layFar 9 = .ok (.getfield 51, 3) := by decide +kernel
theorem dX6_layFar_12 : decode cX6_layFar 12 = .ok (.iload_n 3, 1) := by decide +kernel
theorem dX6_layFar_13 : decode cX6_layFar 13 = .ok (.iload_n 3, 1) := by decide +kernel
theorem dX6_layFar_14 : decode cX6_layFar 14 = .ok (.iload_n 2, 1) := by decide +kernel
theorem dX6_layFar_15 : decode cX6_layFar 15 = .ok (.if_icmp .ne 7, 3) := by decide +kernel
theorem dX6_layFar_18 : decode cX6_layFar 18 = .ok (.iconst 0, 1) := by decide +kernel
theorem dX6_layFar_19 : decode cX6_layFar 19 = .ok (.goto 5, 3) := by decide +kernel
theorem dX6_layFar_22 : decode cX6_layFar 22 = .ok (.bipush 99, 2) := by decide +kernel
theorem dX6_layFar_24 : decode cX6_layFar 24 = .ok (.iastore, 1) := by decide +kernel
theorem dX6_layFar_25 : decode cX6_layFar 25 = .ok (.iinc 3 1, 3) := by decide +kernel
theorem dX6_layFar_28 : decode cX6_layFar 28 = .ok (.goto (-26), 3) := by decide +kernel
theorem dX6_layFar_31 : decode cX6_layFar 31 = .ok (.iconst 0, 1) := by decide +kernel
theorem dX6_layFar_32 : decode cX6_layFar 32 = .ok (.istore_n 3, 1) := by decide +kernel
theorem dX6_layFar_33 : decode cX6_layFar 33 = .ok (.iload_n 3, 1) := by decide +kernel
theorem dX6_layFar_34 : decode cX6_layFar 34 = .ok (.aload_n 0, 1) := by decide +kernel
theorem dX6_layFar_35 : decode cX6_layFar 35 = .ok (.getfield 13, 3) := by decide +kernel
theorem dX6_layFar_38 : decode cX6_layFar 38 = .ok (.if_icmp .ge 178, 3) := by decide +kernel
theorem dX6_layFar_41 : decode cX6_layFar 41 = .ok (.iconst 0, 1) := by decide +kernel
theorem dX6_layFar_42 : decode cX6_layFar 42 = .ok (.istore 4, 2) := by decide +kernel
theorem dX6_layFar_44 : decode cX6_layFar 44 = .ok (.iload 4, 2) := by decide +kernel
theorem dX6_layFar_46 : decode cX6_layFar 46 = .ok (.aload_n 0, 1) := by decide +kernel
theorem dX6_layFar_47 : decode cX6_layFar 47 = .ok (.getfield 71, 3) := by decide +kernel
theorem dX6_layFar_50 : decode cX6_layFar 50 = .ok (.if_icmp .ge 160, 3) := by decide +kernel
theorem dX6_layFar_53 : decode cX6_layFar 53 = .ok (.aload_n 1, 1) := by decide +kernel
theorem dX6_layFar_54 : decode cX6_layFar 54 = .ok (.bipush 11, 2) := by decide +kernel
theorem dX6_layFar_56 : decode cX6_layFar 56 = .ok (.iload 4, 2) := by decide +kernel
theorem dX6_layFar_58 : decode cX6_layFar 58 = .ok (.iadd, 1) := by decide +kernel
theorem dX6_layFar_59 : decode cX6_layFar 59 = .ok (.iaload, 1) := by decide +kernel
theorem dX6_layFar_60 : decode cX6_layFar 60 = .ok (.iconst 2, 1) := by decide +kernel
theorem dX6_layFar_61 : decode cX6_layFar 61 = .ok (.if_icmp .ne 143, 3) := by decide +kernel
theorem dX6_layFar_64 : decode cX6_layFar 64 = .ok (.aload_n 0, 1) := by decide +kernel
theorem dX6_layFar_65 : decode cX6_layFar 65 = .ok (.getfield 51, 3) := by decide +kernel
theorem dX6_layFar_68 : decode cX6_layFar 68 = .ok (.aload_n 0, 1) := by decide +kernel
theorem dX6_layFar_69 : decode cX6_layFar 69 = .ok (.getfield 17, 3) := by decide +kernel
theorem dX6_layFar_72 : decode cX6_layFar 72 = .ok (.iload 4, 2) := by decide +kernel
theorem dX6_layFar_74 : decode cX6_layFar 74 = .ok (.iaload, 1) := by decide +kernel
theorem dX6_layFar_75 : decode cX6_layFar 75 = .ok (.aload_n 0, 1) := by decide +kernel
theorem dX6_layFar_76 : decode cX6_layFar 76 = .ok (.getfield 51, 3) := by decide +kernel
theorem dX6_layFar_79 : decode cX6_layFar 79 = .ok (.aload_n 0, 1) := by decide +kernel
theorem dX6_layFar_80 : decode cX6_layFar 80 = .ok (.getfield 20, 3) := by decide +kernel
theorem dX6_layFar_83 : decode cX6_layFar 83 = .ok (.iload 4, 2) := by decide +kernel
theorem dX6_layFar_85 : decode cX6_layFar 85 = .ok (.iaload, 1) := by decide +kernel
theorem dX6_layFar_86 : decode cX6_layFar 86 = .ok (.iaload, 1) := by decide +kernel
theorem dX6_layFar_87 : decode cX6_layFar 87 = .ok (.iconst 1, 1) := by decide +kernel
theorem dX6_layFar_88 : decode cX6_layFar 88 = .ok (.iadd, 1) := by decide +kernel
theorem dX6_layFar_89 : decode cX6_layFar 89 = .ok (.aload_n 0, 1) := by decide +kernel
theorem dX6_layFar_90 : decode cX6_layFar 90 = .ok (.getfield 51, 3) := by decide +kernel
theorem dX6_layFar_93 : decode cX6_layFar 93 = .ok (.aload_n 0, 1) := by decide +kernel
theorem dX6_layFar_94 : decode cX6_layFar 94 = .ok (.getfield 17, 3) := by decide +kernel
theorem dX6_layFar_97 : decode cX6_layFar 97 = .ok (.iload 4, 2) := by decide +kernel
theorem dX6_layFar_99 : decode cX6_layFar 99 = .ok (.iaload, 1) := by decide +kernel
theorem dX6_layFar_100 : decode cX6_layFar 100 = .ok (.iaload, 1) := by decide +kernel
theorem dX6_layFar_101 : decode cX6_layFar 101 = .ok (.if_icmp .ge 20, 3) := by decide +kernel
theorem dX6_layFar_104 : decode cX6_layFar 104 = .ok (.aload_n 0, 1) := by decide +kernel
theorem dX6_layFar_105 : decode cX6_layFar 105 = .ok (.getfield 51, 3) := by decide +kernel
theorem dX6_layFar_108 : decode cX6_layFar 108 = .ok (.aload_n 0, 1) := by decide +kernel
theorem dX6_layFar_109 : decode cX6_layFar 109 = .ok (.getfield 20, 3) := by decide +kernel
theorem dX6_layFar_112 : decode cX6_layFar 112 = .ok (.iload 4, 2) := by decide +kernel
theorem dX6_layFar_114 : decode cX6_layFar 114 = .ok (.iaload, 1) := by decide +kernel
theorem dX6_layFar_115 : decode cX6_layFar 115 = .ok (.iaload, 1) := by decide +kernel
theorem dX6_layFar_116 : decode cX6_layFar 116 = .ok (.iconst 1, 1) := by decide +kernel
theorem dX6_layFar_117 : decode cX6_layFar 117 = .ok (.iadd, 1) := by decide +kernel
theorem dX6_layFar_118 : decode cX6_layFar 118 = .ok (.goto 15, 3) := by decide +kernel
theorem dX6_layFar_121 : decode cX6_layFar 121 = .ok (.aload_n 0, 1) := by decide +kernel
theorem dX6_layFar_122 : decode cX6_layFar 122 = .ok (.getfield 51, 3) := by decide +kernel
theorem dX6_layFar_125 : decode cX6_layFar 125 = .ok (.aload_n 0, 1) := by decide +kernel
theorem dX6_layFar_126 : decode cX6_layFar 126 = .ok (.getfield 17, 3) := by decide +kernel
theorem dX6_layFar_129 : decode cX6_layFar 129 = .ok (.iload 4, 2) := by decide +kernel
theorem dX6_layFar_131 : decode cX6_layFar 131 = .ok (.iaload, 1) := by decide +kernel
theorem dX6_layFar_132 : decode cX6_layFar 132 = .ok (.iaload, 1) := by decide +kernel
theorem dX6_layFar_133 : decode cX6_layFar 133 = .ok (.iastore, 1) := by decide +kernel
theorem dX6_layFar_134 : decode cX6_layFar 134 = .ok (.aload_n 0, 1) := by decide +kernel
theorem dX6_layFar_135 : decode cX6_layFar 135 = .ok (.getfield 51, 3) := by decide +kernel
theorem dX6_layFar_138 : decode cX6_layFar 138 = .ok (.aload_n 0, 1) := by decide +kernel
theorem dX6_layFar_139 : decode cX6_layFar 139 = .ok (.getfield 20, 3) := by decide +kernel
theorem dX6_layFar_142 : decode cX6_layFar 142 = .ok (.iload 4, 2) := by decide +kernel
theorem dX6_layFar_144 : decode cX6_layFar 144 = .ok (.iaload, 1) := by decide +kernel
theorem dX6_layFar_145 : decode cX6_layFar 145 = .ok (.aload_n 0, 1) := by decide +kernel
theorem dX6_layFar_146 : decode cX6_layFar 146 = .ok (.getfield 51, 3) := by decide +kernel
theorem dX6_layFar_149 : decode cX6_layFar 149 = .ok (.aload_n 0, 1) := by decide +kernel
theorem dX6_layFar_150 : decode cX6_layFar 150 = .ok (.getfield 17, 3) := by decide +kernel
theorem dX6_layFar_153 : decode cX6_layFar 153 = .ok (.iload 4, 2) := by decide +kernel
theorem dX6_layFar_155 : decode cX6_layFar 155 = .ok (.iaload, 1) := by decide +kernel
theorem dX6_layFar_156 : decode cX6_layFar 156 = .ok (.iaload, 1) := by decide +kernel
theorem dX6_layFar_157 : decode cX6_layFar 157 = .ok (.iconst 1, 1) := by decide +kernel
theorem dX6_layFar_158 : decode cX6_layFar 158 = .ok (.iadd, 1) := by decide +kernel
theorem dX6_layFar_159 : decode cX6_layFar 159 = .ok (.aload_n 0, 1) := by decide +kernel
theorem dX6_layFar_160 : decode cX6_layFar 160 = .ok (.getfield 51, 3) := by decide +kernel
theorem dX6_layFar_163 : decode cX6_layFar 163 = .ok (.aload_n 0, 1) := by decide +kernel
theorem dX6_layFar_164 : decode cX6_layFar 164 = .ok (.getfield 20, 3) := by decide +kernel
theorem dX6_layFar_167 : decode cX6_layFar 167 = .ok (.iload 4, 2) := by decide +kernel
theorem dX6_layFar_169 : decode cX6_layFar 169 = .ok (.iaload, 1) := by decide +kernel
theorem dX6_layFar_170 : decode cX6_layFar 170 = .ok (.iaload, 1) := by decide +kernel
theorem dX6_layFar_171 : decode cX6_layFar 171 = .ok (.if_icmp .ge 20, 3) := by decide +kernel
theorem dX6_layFar_174 : decode cX6_layFar 174 = .ok (.aload_n 0, 1) := by decide +kernel
theorem dX6_layFar_175 : decode cX6_layFar 175 = .ok (.getfield 51, 3) := by decide +kernel
theorem dX6_layFar_178 : decode cX6_layFar 178 = .ok (.aload_n 0, 1) := by decide +kernel
theorem dX6_layFar_179 : decode cX6_layFar 179 = .ok (.getfield 17, 3) := by decide +kernel
theorem dX6_layFar_182 : decode cX6_layFar 182 = .ok (.iload 4, 2) := by decide +kernel
theorem dX6_layFar_184 : decode cX6_layFar 184 = .ok (.iaload, 1) := by decide +kernel
theorem dX6_layFar_185 : decode cX6_layFar 185 = .ok (.iaload, 1) := by decide +kernel
theorem dX6_layFar_186 : decode cX6_layFar 186 = .ok (.iconst 1, 1) := by decide +kernel
theorem dX6_layFar_187 : decode cX6_layFar 187 = .ok (.iadd, 1) := by decide +kernel
theorem dX6_layFar_188 : decode cX6_layFar 188 = .ok (.goto 15, 3) := by decide +kernel
theorem dX6_layFar_191 : decode cX6_layFar 191 = .ok (.aload_n 0, 1) := by decide +kernel
theorem dX6_layFar_192 : decode cX6_layFar 192 = .ok (.getfield 51, 3) := by decide +kernel
theorem dX6_layFar_195 : decode cX6_layFar 195 = .ok (.aload_n 0, 1) := by decide +kernel
theorem dX6_layFar_196 : decode cX6_layFar 196 = .ok (.getfield 20, 3) := by decide +kernel
theorem dX6_layFar_199 : decode cX6_layFar 199 = .ok (.iload 4, 2) := by decide +kernel
theorem dX6_layFar_201 : decode cX6_layFar 201 = .ok (.iaload, 1) := by decide +kernel
theorem dX6_layFar_202 : decode cX6_layFar 202 = .ok (.iaload, 1) := by decide +kernel
theorem dX6_layFar_203 : decode cX6_layFar 203 = .ok (.iastore, 1) := by decide +kernel
theorem dX6_layFar_204 : decode cX6_layFar 204 = .ok (.iinc 4 1, 3) := by decide +kernel
theorem dX6_layFar_207 : decode cX6_layFar 207 = .ok (.goto (-163), 3) := by decide +kernel
theorem dX6_layFar_210 : decode cX6_layFar 210 = .ok (.iinc 3 1, 3) := by decide +kernel
theorem dX6_layFar_213 : decode cX6_layFar 213 = .ok (.goto (-180), 3) := by decide +kernel
theorem dX6_layFar_216 : decode cX6_layFar 216 = .ok (.return_, 1) := by decide +kernel
set_option maxRecDepth 20000 in
theorem ggX6_towards_X6_layFar : GoodIn wsX6_towards wsX6_layFar := goodIn_r _ [8, 2, 1, 3, 9, 10, 23, 24, 25, 26, 27, 28, 29, 30, 31, 32, 33, 34, 35, 36, 37, 38, 39, 40, 41, 42, 43, 44, 45, 46, 47, 48, 49, 50] (by decide +kernel) (by decide +kernel)
set_option maxRecDepth 20000 in
theorem gX6_towards_X6_layFar : GoodIn wsX6_towards (wsV RX6 100 RX6 yX6_layFar wsX6_layFar) := goodIn_app (goodIn_of _ (by decide +kernel)) ggX6_towards_X6_layFar
set_option maxRecDepth 20000 in
theorem ggX6_towards_X6_unseenAt : GoodIn wsX6_towards wsX6_unseenAt := goodIn_r _ [14, 3, 15, 16, 17, 7, 18, 9, 10, 23, 24, 25, 26, 27, 28, 29, 30, 31, 32, 33, 34, 35, 36, 37, 38, 39, 40, 41, 42, 43, 44, 45, 46, 47, 48, 49, 50] (by decide +kernel) (by decide +kernel)
set_option maxRecDepth 20000 in
theorem gX6_towards_X6_unseenAt : GoodIn wsX6_towards (wsV RX6 104 RX6 yX6_unseenAt wsX6_unseenAt) := goodIn_app (goodIn_of _ (by decide +kernel)) ggX6_towards_X6_unseenAt
set_option maxRecDepth 20000 in
theorem ggX6_towards_X6_ends : GoodIn wsX6_towards wsX6_ends := goodIn_r _ [18, 9, 10, 23, 24, 25, 26, 27, 28, 29, 30, 31, 32, 33, 34, 35, 36, 37, 38, 39, 40, 41, 42, 43, 44, 45, 46, 47, 48, 49, 50] (by decide +kernel) (by decide +kernel)
set_option maxRecDepth 20000 in
theorem gX6_towards_X6_ends : GoodIn wsX6_towards (wsV RX6 89 RX6 yX6_ends wsX6_ends) := goodIn_app (goodIn_of _ (by decide +kernel)) ggX6_towards_X6_ends
set_option maxRecDepth 20000 in
theorem ggX6_towards_X6_beyond : GoodIn wsX6_towards wsX6_beyond := goodIn_r _ [22, 9, 10, 23, 24, 25, 26, 27, 28, 29, 30, 31, 32, 33, 34, 35, 36, 37, 38, 39, 40, 41, 42, 43, 44, 45, 46, 47, 48, 49, 50] (by decide +kernel) (by decide +kernel)
set_option maxRecDepth 20000 in
theorem gX6_towards_X6_beyond : GoodIn wsX6_towards (wsV RX6 96 RX6 yX6_beyond wsX6_beyond) := goodIn_app (goodIn_of _ (by decide +kernel)) ggX6_towards_X6_beyond
theorem dX6_towards_0 : decode cX6_towards 0 = .ok (.aload_n 0, 1) := by decide +kernel
theorem dX6_towards_1 : decode cX6_towards 1 = .ok (.aload_n 1, 1) := by decide +kernel
theorem dX6_towards_2 : decode cX6_towards 2 = .ok (.iload_n 2, 1) := by decide +kernel
theorem dX6_towards_3 : decode cX6_towards 3 = .ok (.invokevirtual 100, 3) := by decide +kernel
theorem dX6_towards_6 : decode cX6_towards 6 = .ok (.bipush (-9), 2) := by decide +kernel
theorem dX6_towards_8 : decode cX6_towards 8 = .ok (.istore_n 3, 1) := by decide +kernel
theorem dX6_towards_9 : decode cX6_towards 9 = .ok (.iconst 0, 1) := by decide +kernel
theorem dX6_towards_10 : decode cX6_towards 10 = .ok (.istore 4, 2) := by decide +kernel
theorem dX6_towards_12 : decode cX6_towards 12 = .ok (.iload 4, 2) := by decide +kernel
theorem dX6_towards_14 : decode cX6_towards 14 = .ok (.aload_n 0, 1) := by decide +kernel
theorem dX6_towards_15 : decode cX6_towards 15 = .ok (.getfield 13, 3) := by decide +kernel
theorem dX6_towards_18 : decode cX6_towards 18 = .ok (.if_icmp .ge 74, 3) := by decide +kernel
theorem dX6_towards_21 : decode cX6_towards 21 = .ok (.aload_n 0, 1) := by decide +kernel
theorem dX6_towards_22 : decode cX6_towards 22 = .ok (.getfield 51, 3) := by decide +kernel
theorem dX6_towards_25 : decode cX6_towards 25 = .ok (.iload 4, 2) := by decide +kernel
theorem dX6_towards_27 : decode cX6_towards 27 = .ok (.iaload, 1) := by decide +kernel
theorem dX6_towards_28 : decode cX6_towards 28 = .ok (.bipush 99, 2) := by decide +kernel
theorem dX6_towards_30 : decode cX6_towards 30 = .ok (.if_icmp .ge 19, 3) := by decide +kernel
theorem dX6_towards_33 : decode cX6_towards 33 = .ok (.aload_n 0, 1) := by decide +kernel
theorem dX6_towards_34 : decode cX6_towards 34 = .ok (.aload_n 1, 1) := by decide +kernel
theorem dX6_towards_35 : decode cX6_towards 35 = .ok (.iload 4, 2) := by decide +kernel
theorem dX6_towards_37 : decode cX6_towards 37 = .ok (.invokevirtual 104, 3) := by decide +kernel
theorem dX6_towards_40 : decode cX6_towards 40 = .ok (.bipush (-9), 2) := by decide +kernel
theorem dX6_towards_42 : decode cX6_towards 42 = .ok (.if_icmp .eq 7, 3) := by decide +kernel
theorem dX6_towards_45 : decode cX6_towards 45 = .ok (.iconst 1, 1) := by decide +kernel
theorem dX6_towards_46 : decode cX6_towards 46 = .ok (.goto 4, 3) := by decide +kernel
theorem dX6_towards_49 : decode cX6_towards 49 = .ok (.iconst 0, 1) := by decide +kernel
theorem dX6_towards_50 : decode cX6_towards 50 = .ok (.istore 5, 2) := by decide +kernel
theorem dX6_towards_52 : decode cX6_towards 52 = .ok (.iload 5, 2) := by decide +kernel
theorem dX6_towards_54 : decode cX6_towards 54 = .ok (.ifCond .eq 30, 3) := by decide +kernel
theorem dX6_towards_57 : decode cX6_towards 57 = .ok (.iload_n 3, 1) := by decide +kernel
theorem dX6_towards_58 : decode cX6_towards 58 = .ok (.bipush (-9), 2) := by decide +kernel
theorem dX6_towards_60 : decode cX6_towards 60 = .ok (.if_icmp .eq 19, 3) := by decide +kernel
theorem dX6_towards_63 : decode cX6_towards 63 = .ok (.aload_n 0, 1) := by decide +kernel
theorem dX6_towards_64 : decode cX6_towards 64 = .ok (.getfield 51, 3) := by decide +kernel
theorem dX6_towards_67 : decode cX6_towards 67 = .ok (.iload 4, 2) := by decide +kernel
theorem dX6_towards_69 : decode cX6_towards 69 = .ok (.iaload, 1) := by decide +kernel
theorem dX6_towards_70 : decode cX6_towards 70 = .ok (.aload_n 0, 1) := by decide +kernel
theorem dX6_towards_71 : decode cX6_towards 71 = .ok (.getfield 51, 3) := by decide +kernel
theorem dX6_towards_74 : decode cX6_towards 74 = .ok (.iload_n 3, 1) := by decide +kernel
theorem dX6_towards_75 : decode cX6_towards 75 = .ok (.iaload, 1) := by decide +kernel
theorem dX6_towards_76 : decode cX6_towards 76 = .ok (.if_icmp .ge 8, 3) := by decide +kernel
theorem dX6_towards_79 : decode cX6_towards 79 = .ok (.iload 4, 2) := by decide +kernel
theorem dX6_towards_81 : decode cX6_towards 81 = .ok (.goto 4, 3) := by decide +kernel
theorem dX6_towards_84 : decode cX6_towards 84 = .ok (.iload_n 3, 1) := by decide +kernel
theorem dX6_towards_85 : decode cX6_towards 85 = .ok (.istore_n 3, 1) := by decide +kernel
theorem dX6_towards_86 : decode cX6_towards 86 = .ok (.iinc 4 1, 3) := by decide +kernel
theorem dX6_towards_89 : decode cX6_towards 89 = .ok (.goto (-77), 3) := by decide +kernel
theorem dX6_towards_92 : decode cX6_towards 92 = .ok (.iload_n 3, 1) := by decide +kernel
theorem dX6_towards_93 : decode cX6_towards 93 = .ok (.bipush (-9), 2) := by decide +kernel
theorem dX6_towards_95 : decode cX6_towards 95 = .ok (.if_icmp .ne 6, 3) := by decide +kernel
theorem dX6_towards_98 : decode cX6_towards 98 = .ok (.bipush (-9), 2) := by decide +kernel
theorem dX6_towards_100 : decode cX6_towards 100 = .ok (.ireturn, 1) := by decide +kernel
theorem dX6_towards_101 : decode cX6_towards 101 = .ok (.aload_n 0, 1) := by decide +kernel
theorem dX6_towards_102 : decode cX6_towards 102 = .ok (.aload_n 1, 1) := by decide +kernel
theorem dX6_towards_103 : decode cX6_towards 103 = .ok (.iload_n 3, 1) := by decide +kernel
theorem dX6_towards_104 : decode cX6_towards 104 = .ok (.invokevirtual 100, 3) := by decide +kernel
theorem dX6_towards_107 : decode cX6_towards 107 = .ok (.iconst 0, 1) := by decide +kernel
theorem dX6_towards_108 : decode cX6_towards 108 = .ok (.istore 4, 2) := by decide +kernel
theorem dX6_towards_110 : decode cX6_towards 110 = .ok (.iload 4, 2) := by decide +kernel
theorem dX6_towards_112 : decode cX6_towards 112 = .ok (.aload_n 0, 1) := by decide +kernel
theorem dX6_towards_113 : decode cX6_towards 113 = .ok (.getfield 71, 3) := by decide +kernel
theorem dX6_towards_116 : decode cX6_towards 116 = .ok (.if_icmp .ge 54, 3) := by decide +kernel
theorem dX6_towards_119 : decode cX6_towards 119 = .ok (.aload_n 1, 1) := by decide +kernel
theorem dX6_towards_120 : decode cX6_towards 120 = .ok (.bipush 11, 2) := by decide +kernel
theorem dX6_towards_122 : decode cX6_towards 122 = .ok (.iload 4, 2) := by decide +kernel
theorem dX6_towards_124 : decode cX6_towards 124 = .ok (.iadd, 1) := by decide +kernel
theorem dX6_towards_125 : decode cX6_towards 125 = .ok (.iaload, 1) := by decide +kernel
theorem dX6_towards_126 : decode cX6_towards 126 = .ok (.iconst 2, 1) := by decide +kernel
theorem dX6_towards_127 : decode cX6_towards 127 = .ok (.if_icmp .ne 37, 3) := by decide +kernel
theorem dX6_towards_130 : decode cX6_towards 130 = .ok (.aload_n 0, 1) := by decide +kernel
theorem dX6_towards_131 : decode cX6_towards 131 = .ok (.iload 4, 2) := by decide +kernel
theorem dX6_towards_133 : decode cX6_towards 133 = .ok (.iload_n 2, 1) := by decide +kernel
theorem dX6_towards_134 : decode cX6_towards 134 = .ok (.invokevirtual 89, 3) := by decide +kernel
theorem dX6_towards_137 : decode cX6_towards 137 = .ok (.ifCond .eq 27, 3) := by decide +kernel
theorem dX6_towards_140 : decode cX6_towards 140 = .ok (.aload_n 0, 1) := by decide +kernel
theorem dX6_towards_141 : decode cX6_towards 141 = .ok (.getfield 51, 3) := by decide +kernel
theorem dX6_towards_144 : decode cX6_towards 144 = .ok (.aload_n 0, 1) := by decide +kernel
theorem dX6_towards_145 : decode cX6_towards 145 = .ok (.iload 4, 2) := by decide +kernel
theorem dX6_towards_147 : decode cX6_towards 147 = .ok (.iload_n 2, 1) := by decide +kernel
theorem dX6_towards_148 : decode cX6_towards 148 = .ok (.invokevirtual 96, 3) := by decide +kernel
theorem dX6_towards_151 : decode cX6_towards 151 = .ok (.iaload, 1) := by decide +kernel
theorem dX6_towards_152 : decode cX6_towards 152 = .ok (.aload_n 0, 1) := by decide +kernel
theorem dX6_towards_153 : decode cX6_towards 153 = .ok (.getfield 51, 3) := by decide +kernel
theorem dX6_towards_156 : decode cX6_towards 156 = .ok (.iload_n 2, 1) := by decide +kernel
theorem dX6_towards_157 : decode cX6_towards 157 = .ok (.iaload, 1) := by decide +kernel
theorem dX6_towards_158 : decode cX6_towards 158 = .ok (.if_icmp .ge 6, 3) := by decide +kernel
theorem dX6_towards_161 : decode cX6_towards 161 = .ok (.iload 4, 2) := by decide +kernel
theorem dX6_towards_163 : decode cX6_towards 163 = .ok (.ireturn, 1) := by decide +kernel
theorem dX6_towards_164 : decode cX6_towards 164 = .ok (.iinc 4 1, 3) := by decide +kernel
theorem dX6_towards_167 : decode cX6_towards 167 = .ok (.goto (-57), 3) := by decide +kernel
theorem dX6_towards_170 : decode cX6_towards 170 = .ok (.bipush (-9), 2) := by decide +kernel
theorem dX6_towards_172 : decode cX6_towards 172 = .ok (.ireturn, 1) := by decide +kernel
set_option maxRecDepth 20000 in
theorem ggX6_chosen_X6_lives : GoodIn wsX6_chosen wsX6_lives := goodIn_r _ [4] (by decide +kernel) (by decide +kernel)
set_option maxRecDepth 20000 in
theorem gX6_chosen_X6_lives : GoodIn wsX6_chosen (va_wsS RX6 74 yX6_lives wsX6_lives) := goodIn_app (goodIn_of _ (by decide +kernel)) ggX6_chosen_X6_lives
set_option maxRecDepth 20000 in
theorem ggX6_chosen_X6_isKnown : GoodIn wsX6_chosen wsX6_isKnown := goodIn_r _ [8, 9, 10, 11, 3, 12, 13, 14, 15, 16, 17, 18, 19, 20, 21, 22, 23, 24, 46, 47, 48, 49, 50, 51, 52, 53, 54, 55, 56, 57, 58, 59, 60, 61, 62, 63, 64, 65, 66, 67, 68, 69, 70, 71, 72, 73] (by decide +kernel) (by decide +kernel)
set_option maxRecDepth 20000 in
theorem gX6_chosen_X6_isKnown : GoodIn wsX6_chosen (wsV RX6 108 RX6 yX6_isKnown wsX6_isKnown) := goodIn_app (goodIn_of _ (by decide +kernel)) ggX6_chosen_X6_isKnown
set_option maxRecDepth 20000 in
theorem ggX6_chosen_X6_unseenAt : GoodIn wsX6_chosen wsX6_unseenAt := goodIn_r _ [28, 19, 29, 30, 31, 3, 32, 20, 21, 46, 47, 48, 49, 50, 51, 52, 53, 54, 55, 56, 57, 58, 59, 60, 61, 62, 63, 64, 65, 66, 67, 68, 69, 70, 71, 72, 73] (by decide +kernel) (by decide +kernel)
set_option maxRecDepth 20000 in
theorem gX6_chosen_X6_unseenAt : GoodIn wsX6_chosen (wsV RX6 104 RX6 yX6_unseenAt wsX6_unseenAt) := goodIn_app (goodIn_of _ (by decide +kernel)) ggX6_chosen_X6_unseenAt
set_option maxRecDepth 20000 in
theorem ggX6_chosen_X6_towards : GoodIn wsX6_chosen wsX6_towards := goodIn_r _ [36, 13, 37, 19, 38, 39, 40, 3, 41, 20, 21, 25, 26, 27, 28, 29, 30, 31, 32, 42, 43, 44, 45, 46, 47, 48, 49, 50, 51, 52, 53, 54, 55, 56, 57, 58, 59, 60, 61, 62, 63, 64, 65, 66, 67, 68, 69, 70, 71, 72, 73] (by decide +kernel) (by decide +kernel)
set_option maxRecDepth 20000 in
theorem gX6_chosen_X6_towards : GoodIn wsX6_chosen (wsV RX6 112 RX6 yX6_towards wsX6_towards) := goodIn_app (goodIn_of _ (by decide +kernel)) ggX6_chosen_X6_towards
theorem dX6_chosen_0 : decode cX6_chosen 0 = .ok (.aload_n 1, 1) := by decide +kernel
theorem dX6_chosen_1 : decode cX6_chosen 1 = .ok (.iload_n 2, 1) := by decide +kernel
theorem dX6_chosen_2 : decode cX6_chosen 2 = .ok (.invokestatic 74, 3) := by decide +kernel
theorem dX6_chosen_5 : decode cX6_chosen 5 = .ok (.ifCond .ne 6, 3) := by decide +kernel
theorem dX6_chosen_8 : decode cX6_chosen 8 = .ok (.bipush (-9), 2) := by decide +kernel
theorem dX6_chosen_10 : decode cX6_chosen 10 = .ok (.ireturn, 1) := by decide +kernel
theorem dX6_chosen_11 : decode cX6_chosen 11 = .ok (.aload_n 1, 1) := by decide +kernel
theorem dX6_chosen_12 : decode cX6_chosen 12 = .ok (.bipush 7, 2) := by decide +kernel
theorem dX6_chosen_14 : decode cX6_chosen 14 = .ok (.iload_n 2, 1) := by decide +kernel
theorem dX6_chosen_15 : decode cX6_chosen 15 = .ok (.iadd, 1) := by decide +kernel
theorem dX6_chosen_16 : decode cX6_chosen 16 = .ok (.iaload, 1) := by decide +kernel
theorem dX6_chosen_17 : decode cX6_chosen 17 = .ok (.ifCond .le 12, 3) := by decide +kernel
theorem dX6_chosen_20 : decode cX6_chosen 20 = .ok (.aload_n 1, 1) := by decide +kernel
theorem dX6_chosen_21 : decode cX6_chosen 21 = .ok (.bipush 7, 2) := by decide +kernel
theorem dX6_chosen_23 : decode cX6_chosen 23 = .ok (.iload_n 2, 1) := by decide +kernel
theorem dX6_chosen_24 : decode cX6_chosen 24 = .ok (.iadd, 1) := by decide +kernel
theorem dX6_chosen_25 : decode cX6_chosen 25 = .ok (.iaload, 1) := by decide +kernel
theorem dX6_chosen_26 : decode cX6_chosen 26 = .ok (.iconst 1, 1) := by decide +kernel
theorem dX6_chosen_27 : decode cX6_chosen 27 = .ok (.isub, 1) := by decide +kernel
theorem dX6_chosen_28 : decode cX6_chosen 28 = .ok (.ireturn, 1) := by decide +kernel
theorem dX6_chosen_29 : decode cX6_chosen 29 = .ok (.aload_n 0, 1) := by decide +kernel
theorem dX6_chosen_30 : decode cX6_chosen 30 = .ok (.aload_n 1, 1) := by decide +kernel
theorem dX6_chosen_31 : decode cX6_chosen 31 = .ok (.invokevirtual 108, 3) := by decide +kernel
theorem dX6_chosen_34 : decode cX6_chosen 34 = .ok (.ifCond .eq 6, 3) := by decide +kernel
theorem dX6_chosen_37 : decode cX6_chosen 37 = .ok (.bipush (-9), 2) := by decide +kernel
theorem dX6_chosen_39 : decode cX6_chosen 39 = .ok (.ireturn, 1) := by decide +kernel
theorem dX6_chosen_40 : decode cX6_chosen 40 = .ok (.aload_n 0, 1) := by decide +kernel
theorem dX6_chosen_41 : decode cX6_chosen 41 = .ok (.aload_n 1, 1) := by decide +kernel
theorem dX6_chosen_42 : decode cX6_chosen 42 = .ok (.aload_n 1, 1) := by decide +kernel
theorem dX6_chosen_43 : decode cX6_chosen 43 = .ok (.iconst 3, 1) := by decide +kernel
theorem dX6_chosen_44 : decode cX6_chosen 44 = .ok (.iload_n 2, 1) := by decide +kernel
theorem dX6_chosen_45 : decode cX6_chosen 45 = .ok (.iadd, 1) := by decide +kernel
theorem dX6_chosen_46 : decode cX6_chosen 46 = .ok (.iaload, 1) := by decide +kernel
theorem dX6_chosen_47 : decode cX6_chosen 47 = .ok (.invokevirtual 104, 3) := by decide +kernel
theorem dX6_chosen_50 : decode cX6_chosen 50 = .ok (.istore_n 3, 1) := by decide +kernel
theorem dX6_chosen_51 : decode cX6_chosen 51 = .ok (.iload_n 3, 1) := by decide +kernel
theorem dX6_chosen_52 : decode cX6_chosen 52 = .ok (.bipush (-9), 2) := by decide +kernel
theorem dX6_chosen_54 : decode cX6_chosen 54 = .ok (.if_icmp .eq 7, 3) := by decide +kernel
theorem dX6_chosen_57 : decode cX6_chosen 57 = .ok (.iload_n 3, 1) := by decide +kernel
theorem dX6_chosen_58 : decode cX6_chosen 58 = .ok (.goto 13, 3) := by decide +kernel
theorem dX6_chosen_61 : decode cX6_chosen 61 = .ok (.aload_n 0, 1) := by decide +kernel
theorem dX6_chosen_62 : decode cX6_chosen 62 = .ok (.aload_n 1, 1) := by decide +kernel
theorem dX6_chosen_63 : decode cX6_chosen 63 = .ok (.aload_n 1, 1) := by decide +kernel
theorem dX6_chosen_64 : decode cX6_chosen 64 = .ok (.iconst 3, 1) := by decide +kernel
theorem dX6_chosen_65 : decode cX6_chosen 65 = .ok (.iload_n 2, 1) := by decide +kernel
theorem dX6_chosen_66 : decode cX6_chosen 66 = .ok (.iadd, 1) := by decide +kernel
theorem dX6_chosen_67 : decode cX6_chosen 67 = .ok (.iaload, 1) := by decide +kernel
theorem dX6_chosen_68 : decode cX6_chosen 68 = .ok (.invokevirtual 112, 3) := by decide +kernel
theorem dX6_chosen_71 : decode cX6_chosen 71 = .ok (.ireturn, 1) := by decide +kernel
set_option maxRecDepth 20000 in
theorem ggX6_roundOn_X6_has : GoodIn wsX6_roundOn wsX6_has := goodIn_r _ [5] (by decide +kernel) (by decide +kernel)
set_option maxRecDepth 20000 in
theorem gX6_roundOn_X6_has : GoodIn wsX6_roundOn (va_wsS RX6 93 yX6_has wsX6_has) := goodIn_app (goodIn_of _ (by decide +kernel)) ggX6_roundOn_X6_has
set_option maxRecDepth 20000 in
theorem ggX6_roundOn_X6_chosen : GoodIn wsX6_roundOn wsX6_chosen := goodIn_r _ [9, 10, 11, 4, 12, 13, 14, 15, 16, 17, 18, 19, 20, 21, 22, 23, 24, 25, 26, 27, 28, 29, 30, 31, 32, 33, 34, 35, 36, 37, 38, 39, 40, 41, 42, 43, 44, 45, 46, 47, 48, 49, 50, 51, 52, 53, 58, 59, 60, 61, 62, 63, 64, 65, 66, 67, 68, 69, 70, 71, 72, 73, 74, 75, 76, 77, 78, 79, 80, 81, 82, 83, 84, 85] (by decide +kernel) (by decide +kernel)
set_option maxRecDepth 20000 in
theorem gX6_roundOn_X6_chosen : GoodIn wsX6_roundOn (wsV RX6 115 RX6 yX6_chosen wsX6_chosen) := goodIn_app (goodIn_of _ (by decide +kernel)) ggX6_roundOn_X6_chosen
set_option maxRecDepth 20000 in
theorem ggX6_roundOn_X6_stepOn : GoodIn wsX6_roundOn wsX6_stepOn := goodIn_r _ [57, 50, 51, 52, 4, 53, 28, 29, 58, 59, 60, 61, 62, 63, 64, 65, 66, 67, 68, 69, 70, 71, 72, 73, 74, 75, 76, 77, 78, 79, 80, 81, 82, 83, 84, 85] (by decide +kernel) (by decide +kernel)
set_option maxRecDepth 20000 in
theorem gX6_roundOn_X6_stepOn : GoodIn wsX6_roundOn (wsV RX6 118 RX6 yX6_stepOn wsX6_stepOn) := goodIn_app (goodIn_of _ (by decide +kernel)) ggX6_roundOn_X6_stepOn
theorem dX6_roundOn_0 : decode cX6_roundOn 0 = .ok (.iconst 0, 1) := by decide +kernel
theorem dX6_roundOn_1 : decode cX6_roundOn 1 = .ok (.istore_n 2, 1) := by decide +kernel
theorem dX6_roundOn_2 : decode cX6_roundOn 2 = .ok (.iconst 0, 1) := by decide +kernel
theorem dX6_roundOn_3 : decode cX6_roundOn 3 = .ok (.istore_n 3, 1) := by decide +kernel
theorem dX6_roundOn_4 : decode cX6_roundOn 4 = .ok (.iload_n 3, 1) := by decide +kernel
theorem dX6_roundOn_5 : decode cX6_roundOn 5 = .ok (.aload_n 1, 1) := by decide +kernel
theorem dX6_roundOn_6 : decode cX6_roundOn 6 = .ok (.iconst 1, 1) := by decide +kernel
theorem dX6_roundOn_7 : decode cX6_roundOn 7 = .ok (.iaload, 1) := by decide +kernel
theorem dX6_roundOn_8 : decode cX6_roundOn 8 = .ok (.if_icmp .ge 51, 3) := by decide +kernel
theorem dX6_roundOn_11 : decode cX6_roundOn 11 = .ok (.aload_n 0, 1) := by decide +kernel
theorem dX6_roundOn_12 : decode cX6_roundOn 12 = .ok (.getfield 54, 3) := by decide +kernel
theorem dX6_roundOn_15 : decode cX6_roundOn 15 = .ok (.iload_n 3, 1) := by decide +kernel
theorem dX6_roundOn_16 : decode cX6_roundOn 16 = .ok (.invokestatic 93, 3) := by decide +kernel
theorem dX6_roundOn_19 : decode cX6_roundOn 19 = .ok (.ifCond .eq 12, 3) := by decide +kernel
theorem dX6_roundOn_22 : decode cX6_roundOn 22 = .ok (.aload_n 0, 1) := by decide +kernel
theorem dX6_roundOn_23 : decode cX6_roundOn 23 = .ok (.aload_n 1, 1) := by decide +kernel
theorem dX6_roundOn_24 : decode cX6_roundOn 24 = .ok (.iload_n 3, 1) := by decide +kernel
theorem dX6_roundOn_25 : decode cX6_roundOn 25 = .ok (.invokevirtual 115, 3) := by decide +kernel
theorem dX6_roundOn_28 : decode cX6_roundOn 28 = .ok (.goto 5, 3) := by decide +kernel
theorem dX6_roundOn_31 : decode cX6_roundOn 31 = .ok (.bipush (-9), 2) := by decide +kernel
theorem dX6_roundOn_33 : decode cX6_roundOn 33 = .ok (.istore 4, 2) := by decide +kernel
theorem dX6_roundOn_35 : decode cX6_roundOn 35 = .ok (.iload 4, 2) := by decide +kernel
theorem dX6_roundOn_37 : decode cX6_roundOn 37 = .ok (.bipush (-9), 2) := by decide +kernel
theorem dX6_roundOn_39 : decode cX6_roundOn 39 = .ok (.if_icmp .eq 14, 3) := by decide +kernel
theorem dX6_roundOn_42 : decode cX6_roundOn 42 = .ok (.aload_n 0, 1) := by decide +kernel
theorem dX6_roundOn_43 : decode cX6_roundOn 43 = .ok (.aload_n 1, 1) := by decide +kernel
theorem dX6_roundOn_44 : decode cX6_roundOn 44 = .ok (.iload_n 3, 1) := by decide +kernel
theorem dX6_roundOn_45 : decode cX6_roundOn 45 = .ok (.iload 4, 2) := by decide +kernel
theorem dX6_roundOn_47 : decode cX6_roundOn 47 = .ok (.invokevirtual 118, 3) := by decide +kernel
theorem dX6_roundOn_50 : decode cX6_roundOn 50 = .ok (.iinc 2 1, 3) := by decide +kernel
theorem dX6_roundOn_53 : decode cX6_roundOn 53 = .ok (.iinc 3 1, 3) := by decide +kernel
theorem dX6_roundOn_56 : decode cX6_roundOn 56 = .ok (.goto (-52), 3) := by decide +kernel
theorem dX6_roundOn_59 : decode cX6_roundOn 59 = .ok (.iload_n 2, 1) := by decide +kernel
theorem dX6_roundOn_60 : decode cX6_roundOn 60 = .ok (.ireturn, 1) := by decide +kernel
set_option maxRecDepth 20000 in
theorem ggX6_isFree_X6_mayBe : GoodIn wsX6_isFree wsX6_mayBe := goodIn_r _ [5, 6, 7, 8, 9, 4, 10, 11, 12, 13, 14, 18, 19, 20, 21, 22, 23, 24, 25, 26, 27, 28, 29, 30, 31, 32, 33, 34, 35, 36, 37, 38, 39, 40, 41, 42, 43, 44, 45] (by decide +kernel) (by decide +kernel)
set_option maxRecDepth 20000 in
theorem gX6_isFree_X6_mayBe : GoodIn wsX6_isFree (wsV RX6 82 RX6 yX6_mayBe wsX6_mayBe) := goodIn_app (goodIn_of _ (by decide +kernel)) ggX6_isFree_X6_mayBe
set_option maxRecDepth 20000 in
theorem ggX6_isFree_X6_has : GoodIn wsX6_isFree wsX6_has := goodIn_r _ [17] (by decide +kernel) (by decide +kernel)
set_option maxRecDepth 20000 in
theorem gX6_isFree_X6_has : GoodIn wsX6_isFree (va_wsS RX6 93 yX6_has wsX6_has) := goodIn_app (goodIn_of _ (by decide +kernel)) ggX6_isFree_X6_has
theorem dX6_isFree_0 : decode cX6_isFree 0 = .ok (.aload_n 0, 1) := by decide +kernel
theorem dX6_isFree_1 : decode cX6_isFree 1 = .ok (.aload_n 1, 1) := by decide +kernel
theorem dX6_isFree_2 : decode cX6_isFree 2 = .ok (.invokevirtual 82, 3) := by decide +kernel
theorem dX6_isFree_5 : decode cX6_isFree 5 = .ok (.iload_n 2, 1) := by decide +kernel
theorem dX6_isFree_6 : decode cX6_isFree 6 = .ok (.invokestatic 93, 3) := by decide +kernel
theorem dX6_isFree_9 : decode cX6_isFree 9 = .ok (.istore_n 3, 1) := by decide +kernel
theorem dX6_isFree_10 : decode cX6_isFree 10 = .ok (.iconst 0, 1) := by decide +kernel
theorem dX6_isFree_11 : decode cX6_isFree 11 = .ok (.istore 4, 2) := by decide +kernel
theorem dX6_isFree_13 : decode cX6_isFree 13 = .ok (.iload 4, 2) := by decide +kernel
theorem dX6_isFree_15 : decode cX6_isFree 15 = .ok (.aload_n 1, 1) := by decide +kernel
theorem dX6_isFree_16 : decode cX6_isFree 16 = .ok (.iconst 1, 1) := by decide +kernel
theorem dX6_isFree_17 : decode cX6_isFree 17 = .ok (.iaload, 1) := by decide +kernel
theorem dX6_isFree_18 : decode cX6_isFree 18 = .ok (.if_icmp .ge 29, 3) := by decide +kernel
theorem dX6_isFree_21 : decode cX6_isFree 21 = .ok (.iload_n 3, 1) := by decide +kernel
theorem dX6_isFree_22 : decode cX6_isFree 22 = .ok (.ifCond .eq 17, 3) := by decide +kernel
theorem dX6_isFree_25 : decode cX6_isFree 25 = .ok (.aload_n 1, 1) := by decide +kernel
theorem dX6_isFree_26 : decode cX6_isFree 26 = .ok (.iconst 3, 1) := by decide +kernel
theorem dX6_isFree_27 : decode cX6_isFree 27 = .ok (.iload 4, 2) := by decide +kernel
theorem dX6_isFree_29 : decode cX6_isFree 29 = .ok (.iadd, 1) := by decide +kernel
theorem dX6_isFree_30 : decode cX6_isFree 30 = .ok (.iaload, 1) := by decide +kernel
theorem dX6_isFree_31 : decode cX6_isFree 31 = .ok (.iload_n 2, 1) := by decide +kernel
theorem dX6_isFree_32 : decode cX6_isFree 32 = .ok (.if_icmp .eq 7, 3) := by decide +kernel
theorem dX6_isFree_35 : decode cX6_isFree 35 = .ok (.iconst 1, 1) := by decide +kernel
theorem dX6_isFree_36 : decode cX6_isFree 36 = .ok (.goto 4, 3) := by decide +kernel
theorem dX6_isFree_39 : decode cX6_isFree 39 = .ok (.iconst 0, 1) := by decide +kernel
theorem dX6_isFree_40 : decode cX6_isFree 40 = .ok (.istore_n 3, 1) := by decide +kernel
theorem dX6_isFree_41 : decode cX6_isFree 41 = .ok (.iinc 4 1, 3) := by decide +kernel
theorem dX6_isFree_44 : decode cX6_isFree 44 = .ok (.goto (-31), 3) := by decide +kernel
theorem dX6_isFree_47 : decode cX6_isFree 47 = .ok (.iload_n 3, 1) := by decide +kernel
theorem dX6_isFree_48 : decode cX6_isFree 48 = .ok (.ireturn, 1) := by decide +kernel
set_option maxRecDepth 20000 in
theorem ggX6_fated_X6_isFree : GoodIn wsX6_fated wsX6_isFree := goodIn_r _ [7, 8, 9, 10, 6, 11, 1, 12, 13, 14, 15, 16, 17, 18, 19, 20, 21, 22, 23, 24, 25, 26, 27, 28, 29, 30, 31, 32, 33, 34, 35, 36, 37, 38, 39, 40, 41, 42, 43, 44, 45, 46, 47, 48, 49, 50] (by decide +kernel) (by decide +kernel)
set_option maxRecDepth 20000 in
theorem gX6_fated_X6_isFree : GoodIn wsX6_fated (wsV RX6 121 RX6 yX6_isFree wsX6_isFree) := goodIn_app (goodIn_of _ (by decide +kernel)) ggX6_fated_X6_isFree
theorem dX6_fated_0 : decode cX6_fated 0 = .ok (.iconst 0, 1) := by decide +kernel
theorem dX6_fated_1 : decode cX6_fated 1 = .ok (.istore_n 1, 1) := by decide +kernel
theorem dX6_fated_2 : decode cX6_fated 2 = .ok (.iconst 0, 1) := by decide +kernel
theorem dX6_fated_3 : decode cX6_fated 3 = .ok (.istore_n 2, 1) := by decide +kernel
theorem dX6_fated_4 : decode cX6_fated 4 = .ok (.iload_n 2, 1) := by decide +kernel
theorem dX6_fated_5 : decode cX6_fated 5 = .ok (.aload_n 0, 1) := by decide +kernel
theorem dX6_fated_6 : decode cX6_fated 6 = .ok (.getfield 13, 3) := by decide +kernel
theorem dX6_fated_9 : decode cX6_fated 9 = .ok (.if_icmp .ge 31, 3) := by decide +kernel
theorem dX6_fated_12 : decode cX6_fated 12 = .ok (.iload_n 1, 1) := by decide +kernel
theorem dX6_fated_13 : decode cX6_fated 13 = .ok (.aload_n 0, 1) := by decide +kernel
theorem dX6_fated_14 : decode cX6_fated 14 = .ok (.aload_n 0, 1) := by decide +kernel
theorem dX6_fated_15 : decode cX6_fated 15 = .ok (.getfield 29, 3) := by decide +kernel
theorem dX6_fated_18 : decode cX6_fated 18 = .ok (.iload_n 2, 1) := by decide +kernel
theorem dX6_fated_19 : decode cX6_fated 19 = .ok (.invokevirtual 121, 3) := by decide +kernel
theorem dX6_fated_22 : decode cX6_fated 22 = .ok (.ifCond .eq 9, 3) := by decide +kernel
theorem dX6_fated_25 : decode cX6_fated 25 = .ok (.iconst 1, 1) := by decide +kernel
theorem dX6_fated_26 : decode cX6_fated 26 = .ok (.iload_n 2, 1) := by decide +kernel
theorem dX6_fated_27 : decode cX6_fated 27 = .ok (.ishl, 1) := by decide +kernel
theorem dX6_fated_28 : decode cX6_fated 28 = .ok (.goto 4, 3) := by decide +kernel
theorem dX6_fated_31 : decode cX6_fated 31 = .ok (.iconst 0, 1) := by decide +kernel
theorem dX6_fated_32 : decode cX6_fated 32 = .ok (.ior, 1) := by decide +kernel
theorem dX6_fated_33 : decode cX6_fated 33 = .ok (.istore_n 1, 1) := by decide +kernel
theorem dX6_fated_34 : decode cX6_fated 34 = .ok (.iinc 2 1, 3) := by decide +kernel
theorem dX6_fated_37 : decode cX6_fated 37 = .ok (.goto (-33), 3) := by decide +kernel
theorem dX6_fated_40 : decode cX6_fated 40 = .ok (.iload_n 1, 1) := by decide +kernel
theorem dX6_fated_41 : decode cX6_fated 41 = .ok (.ireturn, 1) := by decide +kernel
set_option maxRecDepth 20000 in
theorem ggX6_write_X6_in : GoodIn wsX6_write wsX6_in := goodIn_r _ [8] (by decide +kernel) (by decide +kernel)
set_option maxRecDepth 20000 in
theorem gX6_write_X6_in : GoodIn wsX6_write (va_wsS RX6 67 yX6_in wsX6_in) := goodIn_app (goodIn_of _ (by decide +kernel)) ggX6_write_X6_in
theorem dX6_write_0 : decode cX6_write 0 = .ok (.aload_n 0, 1) := by decide +kernel
theorem dX6_write_1 : decode cX6_write 1 = .ok (.iconst 0, 1) := by decide +kernel
theorem dX6_write_2 : decode cX6_write 2 = .ok (.putfield 61, 3) := by decide +kernel
theorem dX6_write_5 : decode cX6_write 5 = .ok (.iload_n 1, 1) := by decide +kernel
theorem dX6_write_6 : decode cX6_write 6 = .ok (.i2l, 1) := by decide +kernel
theorem dX6_write_7 : decode cX6_write 7 = .ok (.lconst 0, 1) := by decide +kernel
theorem dX6_write_8 : decode cX6_write 8 = .ok (.ldc2_w 124, 3) := by decide +kernel
theorem dX6_write_11 : decode cX6_write 11 = .ok (.invokestatic 67, 3) := by decide +kernel
theorem dX6_write_14 : decode cX6_write 14 = .ok (.ifCond .ne 6, 3) := by decide +kernel
theorem dX6_write_17 : decode cX6_write 17 = .ok (.bipush (-2), 2) := by decide +kernel
theorem dX6_write_19 : decode cX6_write 19 = .ok (.ireturn, 1) := by decide +kernel
theorem dX6_write_20 : decode cX6_write 20 = .ok (.aload_n 0, 1) := by decide +kernel
theorem dX6_write_21 : decode cX6_write 21 = .ok (.getfield 126, 3) := by decide +kernel
theorem dX6_write_24 : decode cX6_write 24 = .ok (.bipush 40, 2) := by decide +kernel
theorem dX6_write_26 : decode cX6_write 26 = .ok (.if_icmp .ne 6, 3) := by decide +kernel
theorem dX6_write_29 : decode cX6_write 29 = .ok (.bipush (-4), 2) := by decide +kernel
theorem dX6_write_31 : decode cX6_write 31 = .ok (.ireturn, 1) := by decide +kernel
theorem dX6_write_32 : decode cX6_write 32 = .ok (.aload_n 0, 1) := by decide +kernel
theorem dX6_write_33 : decode cX6_write 33 = .ok (.getfield 7, 3) := by decide +kernel
theorem dX6_write_36 : decode cX6_write 36 = .ok (.aload_n 0, 1) := by decide +kernel
theorem dX6_write_37 : decode cX6_write 37 = .ok (.getfield 126, 3) := by decide +kernel
theorem dX6_write_40 : decode cX6_write 40 = .ok (.iload_n 1, 1) := by decide +kernel
theorem dX6_write_41 : decode cX6_write 41 = .ok (.iastore, 1) := by decide +kernel
theorem dX6_write_42 : decode cX6_write 42 = .ok (.aload_n 0, 1) := by decide +kernel
theorem dX6_write_43 : decode cX6_write 43 = .ok (.dup, 1) := by decide +kernel
theorem dX6_write_44 : decode cX6_write 44 = .ok (.getfield 126, 3) := by decide +kernel
theorem dX6_write_47 : decode cX6_write 47 = .ok (.iconst 1, 1) := by decide +kernel
theorem dX6_write_48 : decode cX6_write 48 = .ok (.iadd, 1) := by decide +kernel
theorem dX6_write_49 : decode cX6_write 49 = .ok (.putfield 126, 3) := by decide +kernel
theorem dX6_write_52 : decode cX6_write 52 = .ok (.aload_n 0, 1) := by decide +kernel
theorem dX6_write_53 : decode cX6_write 53 = .ok (.getfield 126, 3) := by decide +kernel
theorem dX6_write_56 : decode cX6_write 56 = .ok (.ireturn, 1) := by decide +kernel
theorem dX6_wipe_0 : decode cX6_wipe 0 = .ok (.aload_n 0, 1) := by decide +kernel
theorem dX6_wipe_1 : decode cX6_wipe 1 = .ok (.iconst 0, 1) := by decide +kernel
theorem dX6_wipe_2 : decode cX6_wipe 2 = .ok (.putfield 61, 3) := by decide +kernel
theorem dX6_wipe_5 : decode cX6_wipe 5 = .ok (.aload_n 0, 1) := by decide +kernel
theorem dX6_wipe_6 : decode cX6_wipe 6 = .ok (.getfield 126, 3) := by decide +kernel
theorem dX6_wipe_9 : decode cX6_wipe 9 = .ok (.istore_n 1, 1) := by decide +kernel
theorem dX6_wipe_10 : decode cX6_wipe 10 = .ok (.aload_n 0, 1) := by decide +kernel
theorem dX6_wipe_11 : decode cX6_wipe 11 = .ok (.iconst 0, 1) := by decide +kernel
theorem dX6_wipe_12 : decode cX6_wipe 12 = .ok (.putfield 126, 3) := by decide +kernel
theorem dX6_wipe_15 : decode cX6_wipe 15 = .ok (.iload_n 1, 1) := by decide +kernel
theorem dX6_wipe_16 : decode cX6_wipe 16 = .ok (.ireturn, 1) := by decide +kernel
set_option maxRecDepth 20000 in
theorem ggX6_figure_X6_in : GoodIn wsX6_figure wsX6_in := goodIn_r _ [8] (by decide +kernel) (by decide +kernel)
set_option maxRecDepth 20000 in
theorem gX6_figure_X6_in : GoodIn wsX6_figure (va_wsS RX6 67 yX6_in wsX6_in) := goodIn_app (goodIn_of _ (by decide +kernel)) ggX6_figure_X6_in
set_option maxRecDepth 20000 in
theorem ggX6_figure_X6_has : GoodIn wsX6_figure wsX6_has := goodIn_r _ [11] (by decide +kernel) (by decide +kernel)
set_option maxRecDepth 20000 in
theorem gX6_figure_X6_has : GoodIn wsX6_figure (va_wsS RX6 93 yX6_has wsX6_has) := goodIn_app (goodIn_of _ (by decide +kernel)) ggX6_figure_X6_has
theorem dX6_figure_0 : decode cX6_figure 0 = .ok (.aload_n 0, 1) := by decide +kernel
theorem dX6_figure_1 : decode cX6_figure 1 = .ok (.getfield 129, 3) := by decide +kernel
theorem dX6_figure_4 : decode cX6_figure 4 = .ok (.aload_n 0, 1) := by decide +kernel
theorem dX6_figure_5 : decode cX6_figure 5 = .ok (.getfield 126, 3) := by decide +kernel
theorem dX6_figure_8 : decode cX6_figure 8 = .ok (.if_icmp .ge 18, 3) := by decide +kernel
theorem dX6_figure_11 : decode cX6_figure 11 = .ok (.aload_n 0, 1) := by decide +kernel
theorem dX6_figure_12 : decode cX6_figure 12 = .ok (.getfield 7, 3) := by decide +kernel
theorem dX6_figure_15 : decode cX6_figure 15 = .ok (.aload_n 0, 1) := by decide +kernel
theorem dX6_figure_16 : decode cX6_figure 16 = .ok (.getfield 129, 3) := by decide +kernel
theorem dX6_figure_19 : decode cX6_figure 19 = .ok (.iaload, 1) := by decide +kernel
theorem dX6_figure_20 : decode cX6_figure 20 = .ok (.bipush 48, 2) := by decide +kernel
theorem dX6_figure_22 : decode cX6_figure 22 = .ok (.isub, 1) := by decide +kernel
theorem dX6_figure_23 : decode cX6_figure 23 = .ok (.goto 5, 3) := by decide +kernel
theorem dX6_figure_26 : decode cX6_figure 26 = .ok (.bipush (-9), 2) := by decide +kernel
theorem dX6_figure_28 : decode cX6_figure 28 = .ok (.istore_n 2, 1) := by decide +kernel
theorem dX6_figure_29 : decode cX6_figure 29 = .ok (.iload_n 2, 1) := by decide +kernel
theorem dX6_figure_30 : decode cX6_figure 30 = .ok (.i2l, 1) := by decide +kernel
theorem dX6_figure_31 : decode cX6_figure 31 = .ok (.lconst 0, 1) := by decide +kernel
theorem dX6_figure_32 : decode cX6_figure 32 = .ok (.ldc2_w 132, 3) := by decide +kernel
theorem dX6_figure_35 : decode cX6_figure 35 = .ok (.invokestatic 67, 3) := by decide +kernel
theorem dX6_figure_38 : decode cX6_figure 38 = .ok (.ifCond .eq 11, 3) := by decide +kernel
theorem dX6_figure_41 : decode cX6_figure 41 = .ok (.iload_n 1, 1) := by decide +kernel
theorem dX6_figure_42 : decode cX6_figure 42 = .ok (.iload_n 2, 1) := by decide +kernel
theorem dX6_figure_43 : decode cX6_figure 43 = .ok (.invokestatic 93, 3) := by decide +kernel
theorem dX6_figure_46 : decode cX6_figure 46 = .ok (.ifCond .ne 6, 3) := by decide +kernel
theorem dX6_figure_49 : decode cX6_figure 49 = .ok (.bipush (-9), 2) := by decide +kernel
theorem dX6_figure_51 : decode cX6_figure 51 = .ok (.ireturn, 1) := by decide +kernel
theorem dX6_figure_52 : decode cX6_figure 52 = .ok (.aload_n 0, 1) := by decide +kernel
theorem dX6_figure_53 : decode cX6_figure 53 = .ok (.dup, 1) := by decide +kernel
theorem dX6_figure_54 : decode cX6_figure 54 = .ok (.getfield 129, 3) := by decide +kernel
theorem dX6_figure_57 : decode cX6_figure 57 = .ok (.iconst 1, 1) := by decide +kernel
theorem dX6_figure_58 : decode cX6_figure 58 = .ok (.iadd, 1) := by decide +kernel
theorem dX6_figure_59 : decode cX6_figure 59 = .ok (.putfield 129, 3) := by decide +kernel
theorem dX6_figure_62 : decode cX6_figure 62 = .ok (.iload_n 2, 1) := by decide +kernel
theorem dX6_figure_63 : decode cX6_figure 63 = .ok (.ireturn, 1) := by decide +kernel
theorem dX6_apart_0 : decode cX6_apart 0 = .ok (.iconst 1, 1) := by decide +kernel
theorem dX6_apart_1 : decode cX6_apart 1 = .ok (.aload_n 0, 1) := by decide +kernel
theorem dX6_apart_2 : decode cX6_apart 2 = .ok (.getfield 134, 3) := by decide +kernel
theorem dX6_apart_5 : decode cX6_apart 5 = .ok (.ishl, 1) := by decide +kernel
theorem dX6_apart_6 : decode cX6_apart 6 = .ok (.iconst 1, 1) := by decide +kernel
theorem dX6_apart_7 : decode cX6_apart 7 = .ok (.isub, 1) := by decide +kernel
theorem dX6_apart_8 : decode cX6_apart 8 = .ok (.iconst 1, 1) := by decide +kernel
theorem dX6_apart_9 : decode cX6_apart 9 = .ok (.iload_n 1, 1) := by decide +kernel
theorem dX6_apart_10 : decode cX6_apart 10 = .ok (.ishl, 1) := by decide +kernel
theorem dX6_apart_11 : decode cX6_apart 11 = .ok (.iconst (-1), 1) := by decide +kernel
theorem dX6_apart_12 : decode cX6_apart 12 = .ok (.ixor, 1) := by decide +kernel
theorem dX6_apart_13 : decode cX6_apart 13 = .ok (.iand, 1) := by decide +kernel
theorem dX6_apart_14 : decode cX6_apart 14 = .ok (.istore_n 2, 1) := by decide +kernel
theorem dX6_apart_15 : decode cX6_apart 15 = .ok (.iconst 0, 1) := by decide +kernel
theorem dX6_apart_16 : decode cX6_apart 16 = .ok (.istore_n 3, 1) := by decide +kernel
theorem dX6_apart_17 : decode cX6_apart 17 = .ok (.iload_n 3, 1) := by decide +kernel
theorem dX6_apart_18 : decode cX6_apart 18 = .ok (.aload_n 0, 1) := by decide +kernel
theorem dX6_apart_19 : decode cX6_apart 19 = .ok (.getfield 137, 3) := by decide +kernel
theorem dX6_apart_22 : decode cX6_apart 22 = .ok (.if_icmp .ge 59, 3) := by decide +kernel
theorem dX6_apart_25 : decode cX6_apart 25 = .ok (.iload_n 2, 1) := by decide +kernel
theorem dX6_apart_26 : decode cX6_apart 26 = .ok (.aload_n 0, 1) := by decide +kernel
theorem dX6_apart_27 : decode cX6_apart 27 = .ok (.getfield 23, 3) := by decide +kernel
theorem dX6_apart_30 : decode cX6_apart 30 = .ok (.iload_n 3, 1) := by decide +kernel
theorem dX6_apart_31 : decode cX6_apart 31 = .ok (.iaload, 1) := by decide +kernel
theorem dX6_apart_32 : decode cX6_apart 32 = .ok (.iload_n 1, 1) := by decide +kernel
theorem dX6_apart_33 : decode cX6_apart 33 = .ok (.if_icmp .ne 16, 3) := by decide +kernel
theorem dX6_apart_36 : decode cX6_apart 36 = .ok (.iconst 1, 1) := by decide +kernel
theorem dX6_apart_37 : decode cX6_apart 37 = .ok (.aload_n 0, 1) := by decide +kernel
theorem dX6_apart_38 : decode cX6_apart 38 = .ok (.getfield 26, 3) := by decide +kernel
theorem dX6_apart_41 : decode cX6_apart 41 = .ok (.iload_n 3, 1) := by decide +kernel
theorem dX6_apart_42 : decode cX6_apart 42 = .ok (.iaload, 1) := by decide +kernel
theorem dX6_apart_43 : decode cX6_apart 43 = .ok (.ishl, 1) := by decide +kernel
theorem dX6_apart_44 : decode cX6_apart 44 = .ok (.iconst (-1), 1) := by decide +kernel
theorem dX6_apart_45 : decode cX6_apart 45 = .ok (.ixor, 1) := by decide +kernel
theorem dX6_apart_46 : decode cX6_apart 46 = .ok (.goto 27, 3) := by decide +kernel
theorem dX6_apart_49 : decode cX6_apart 49 = .ok (.aload_n 0, 1) := by decide +kernel
theorem dX6_apart_50 : decode cX6_apart 50 = .ok (.getfield 26, 3) := by decide +kernel
theorem dX6_apart_53 : decode cX6_apart 53 = .ok (.iload_n 3, 1) := by decide +kernel
theorem dX6_apart_54 : decode cX6_apart 54 = .ok (.iaload, 1) := by decide +kernel
theorem dX6_apart_55 : decode cX6_apart 55 = .ok (.iload_n 1, 1) := by decide +kernel
theorem dX6_apart_56 : decode cX6_apart 56 = .ok (.if_icmp .ne 16, 3) := by decide +kernel
theorem dX6_apart_59 : decode cX6_apart 59 = .ok (.iconst 1, 1) := by decide +kernel
theorem dX6_apart_60 : decode cX6_apart 60 = .ok (.aload_n 0, 1) := by decide +kernel
theorem dX6_apart_61 : decode cX6_apart 61 = .ok (.getfield 23, 3) := by decide +kernel
theorem dX6_apart_64 : decode cX6_apart 64 = .ok (.iload_n 3, 1) := by decide +kernel
theorem dX6_apart_65 : decode cX6_apart 65 = .ok (.iaload, 1) := by decide +kernel
theorem dX6_apart_66 : decode cX6_apart 66 = .ok (.ishl, 1) := by decide +kernel
theorem dX6_apart_67 : decode cX6_apart 67 = .ok (.iconst (-1), 1) := by decide +kernel
theorem dX6_apart_68 : decode cX6_apart 68 = .ok (.ixor, 1) := by decide +kernel
theorem dX6_apart_69 : decode cX6_apart 69 = .ok (.goto 4, 3) := by decide +kernel
theorem dX6_apart_72 : decode cX6_apart 72 = .ok (.iconst (-1), 1) := by decide +kernel
theorem dX6_apart_73 : decode cX6_apart 73 = .ok (.iand, 1) := by decide +kernel
theorem dX6_apart_74 : decode cX6_apart 74 = .ok (.istore_n 2, 1) := by decide +kernel
theorem dX6_apart_75 : decode cX6_apart 75 = .ok (.iinc 3 1, 3) := by decide +kernel
theorem dX6_apart_78 : decode cX6_apart 78 = .ok (.goto (-61), 3) := by decide +kernel
theorem dX6_apart_81 : decode cX6_apart 81 = .ok (.iload_n 2, 1) := by decide +kernel
theorem dX6_apart_82 : decode cX6_apart 82 = .ok (.ireturn, 1) := by decide +kernel
set_option maxRecDepth 20000 in
theorem ggX6_readEdge_X6_apart : GoodIn wsX6_readEdge wsX6_apart := goodIn_r _ [11, 1, 4, 5, 6, 24, 25, 26, 27, 28, 29, 30, 31, 32, 33, 34, 35, 36, 37, 38, 39, 40, 41, 42, 43, 44, 45, 46, 47, 48, 49, 50, 51] (by decide +kernel) (by decide +kernel)
set_option maxRecDepth 20000 in
theorem gX6_readEdge_X6_apart : GoodIn wsX6_readEdge (wsV RX6 140 RX6 yX6_apart wsX6_apart) := goodIn_app (goodIn_of _ (by decide +kernel)) ggX6_readEdge_X6_apart
set_option maxRecDepth 20000 in
theorem ggX6_readEdge_X6_figure : GoodIn wsX6_readEdge wsX6_figure := goodIn_r _ [15, 3, 16, 2, 17, 18, 19, 10, 20, 21, 22, 23, 24, 25, 26, 27, 28, 29, 30, 31, 32, 33, 34, 35, 36, 37, 38, 39, 40, 41, 42, 43, 44, 45, 46, 47, 48, 49, 50, 51] (by decide +kernel) (by decide +kernel)
set_option maxRecDepth 20000 in
theorem gX6_readEdge_X6_figure : GoodIn wsX6_readEdge (wsV RX6 143 RX6 yX6_figure wsX6_figure) := goodIn_app (goodIn_of _ (by decide +kernel)) ggX6_readEdge_X6_figure
theorem dX6_readEdge_0 : decode cX6_readEdge 0 = .ok (.iconst 0, 1) := by decide +kernel
theorem dX6_readEdge_1 : decode cX6_readEdge 1 = .ok (.istore_n 1, 1) := by decide +kernel
theorem dX6_readEdge_2 : decode cX6_readEdge 2 = .ok (.iconst 0, 1) := by decide +kernel
theorem dX6_readEdge_3 : decode cX6_readEdge 3 = .ok (.istore_n 2, 1) := by decide +kernel
theorem dX6_readEdge_4 : decode cX6_readEdge 4 = .ok (.iload_n 2, 1) := by decide +kernel
theorem dX6_readEdge_5 : decode cX6_readEdge 5 = .ok (.aload_n 0, 1) := by decide +kernel
theorem dX6_readEdge_6 : decode cX6_readEdge 6 = .ok (.getfield 134, 3) := by decide +kernel
theorem dX6_readEdge_9 : decode cX6_readEdge 9 = .ok (.if_icmp .ge 27, 3) := by decide +kernel
theorem dX6_readEdge_12 : decode cX6_readEdge 12 = .ok (.iload_n 1, 1) := by decide +kernel
theorem dX6_readEdge_13 : decode cX6_readEdge 13 = .ok (.aload_n 0, 1) := by decide +kernel
theorem dX6_readEdge_14 : decode cX6_readEdge 14 = .ok (.iload_n 2, 1) := by decide +kernel
theorem dX6_readEdge_15 : decode cX6_readEdge 15 = .ok (.invokevirtual 140, 3) := by decide +kernel
theorem dX6_readEdge_18 : decode cX6_readEdge 18 = .ok (.ifCond .eq 9, 3) := by decide +kernel
theorem dX6_readEdge_21 : decode cX6_readEdge 21 = .ok (.iconst 1, 1) := by decide +kernel
theorem dX6_readEdge_22 : decode cX6_readEdge 22 = .ok (.iload_n 2, 1) := by decide +kernel
theorem dX6_readEdge_23 : decode cX6_readEdge 23 = .ok (.ishl, 1) := by decide +kernel
theorem dX6_readEdge_24 : decode cX6_readEdge 24 = .ok (.goto 4, 3) := by decide +kernel
theorem dX6_readEdge_27 : decode cX6_readEdge 27 = .ok (.iconst 0, 1) := by decide +kernel
theorem dX6_readEdge_28 : decode cX6_readEdge 28 = .ok (.ior, 1) := by decide +kernel
theorem dX6_readEdge_29 : decode cX6_readEdge 29 = .ok (.istore_n 1, 1) := by decide +kernel
theorem dX6_readEdge_30 : decode cX6_readEdge 30 = .ok (.iinc 2 1, 3) := by decide +kernel
theorem dX6_readEdge_33 : decode cX6_readEdge 33 = .ok (.goto (-29), 3) := by decide +kernel
theorem dX6_readEdge_36 : decode cX6_readEdge 36 = .ok (.aload_n 0, 1) := by decide +kernel
theorem dX6_readEdge_37 : decode cX6_readEdge 37 = .ok (.getfield 7, 3) := by decide +kernel
theorem dX6_readEdge_40 : decode cX6_readEdge 40 = .ok (.aload_n 0, 1) := by decide +kernel
theorem dX6_readEdge_41 : decode cX6_readEdge 41 = .ok (.getfield 129, 3) := by decide +kernel
theorem dX6_readEdge_44 : decode cX6_readEdge 44 = .ok (.iaload, 1) := by decide +kernel
theorem dX6_readEdge_45 : decode cX6_readEdge 45 = .ok (.bipush 101, 2) := by decide +kernel
theorem dX6_readEdge_47 : decode cX6_readEdge 47 = .ok (.if_icmp .ne 16, 3) := by decide +kernel
theorem dX6_readEdge_50 : decode cX6_readEdge 50 = .ok (.aload_n 0, 1) := by decide +kernel
theorem dX6_readEdge_51 : decode cX6_readEdge 51 = .ok (.getfield 137, 3) := by decide +kernel
theorem dX6_readEdge_54 : decode cX6_readEdge 54 = .ok (.bipush 10, 2) := by decide +kernel
theorem dX6_readEdge_56 : decode cX6_readEdge 56 = .ok (.if_icmp .eq 7, 3) := by decide +kernel
theorem dX6_readEdge_59 : decode cX6_readEdge 59 = .ok (.iload_n 1, 1) := by decide +kernel
theorem dX6_readEdge_60 : decode cX6_readEdge 60 = .ok (.ifCond .ne 5, 3) := by decide +kernel
theorem dX6_readEdge_63 : decode cX6_readEdge 63 = .ok (.iconst 0, 1) := by decide +kernel
theorem dX6_readEdge_64 : decode cX6_readEdge 64 = .ok (.ireturn, 1) := by decide +kernel
theorem dX6_readEdge_65 : decode cX6_readEdge 65 = .ok (.aload_n 0, 1) := by decide +kernel
theorem dX6_readEdge_66 : decode cX6_readEdge 66 = .ok (.dup, 1) := by decide +kernel
theorem dX6_readEdge_67 : decode cX6_readEdge 67 = .ok (.getfield 129, 3) := by decide +kernel
theorem dX6_readEdge_70 : decode cX6_readEdge 70 = .ok (.iconst 1, 1) := by decide +kernel
theorem dX6_readEdge_71 : decode cX6_readEdge 71 = .ok (.iadd, 1) := by decide +kernel
theorem dX6_readEdge_72 : decode cX6_readEdge 72 = .ok (.putfield 129, 3) := by decide +kernel
theorem dX6_readEdge_75 : decode cX6_readEdge 75 = .ok (.aload_n 0, 1) := by decide +kernel
theorem dX6_readEdge_76 : decode cX6_readEdge 76 = .ok (.iload_n 1, 1) := by decide +kernel
theorem dX6_readEdge_77 : decode cX6_readEdge 77 = .ok (.invokevirtual 143, 3) := by decide +kernel
theorem dX6_readEdge_80 : decode cX6_readEdge 80 = .ok (.istore_n 2, 1) := by decide +kernel
theorem dX6_readEdge_81 : decode cX6_readEdge 81 = .ok (.iload_n 2, 1) := by decide +kernel
theorem dX6_readEdge_82 : decode cX6_readEdge 82 = .ok (.bipush (-9), 2) := by decide +kernel
theorem dX6_readEdge_84 : decode cX6_readEdge 84 = .ok (.if_icmp .ne 8, 3) := by decide +kernel
theorem dX6_readEdge_87 : decode cX6_readEdge 87 = .ok (.bipush (-9), 2) := by decide +kernel
theorem dX6_readEdge_89 : decode cX6_readEdge 89 = .ok (.goto 12, 3) := by decide +kernel
theorem dX6_readEdge_92 : decode cX6_readEdge 92 = .ok (.aload_n 0, 1) := by decide +kernel
theorem dX6_readEdge_93 : decode cX6_readEdge 93 = .ok (.aload_n 0, 1) := by decide +kernel
theorem dX6_readEdge_94 : decode cX6_readEdge 94 = .ok (.iload_n 2, 1) := by decide +kernel
theorem dX6_readEdge_95 : decode cX6_readEdge 95 = .ok (.invokevirtual 140, 3) := by decide +kernel
theorem dX6_readEdge_98 : decode cX6_readEdge 98 = .ok (.invokevirtual 143, 3) := by decide +kernel
theorem dX6_readEdge_101 : decode cX6_readEdge 101 = .ok (.istore_n 3, 1) := by decide +kernel
theorem dX6_readEdge_102 : decode cX6_readEdge 102 = .ok (.iload_n 3, 1) := by decide +kernel
theorem dX6_readEdge_103 : decode cX6_readEdge 103 = .ok (.bipush (-9), 2) := by decide +kernel
theorem dX6_readEdge_105 : decode cX6_readEdge 105 = .ok (.if_icmp .ne 5, 3) := by decide +kernel
theorem dX6_readEdge_108 : decode cX6_readEdge 108 = .ok (.iconst 0, 1) := by decide +kernel
theorem dX6_readEdge_109 : decode cX6_readEdge 109 = .ok (.ireturn, 1) := by decide +kernel
theorem dX6_readEdge_110 : decode cX6_readEdge 110 = .ok (.aload_n 0, 1) := by decide +kernel
