theorem dX3_nearestUnseen_56 : decode cX3_nearestUnseen 56 = .ok (.iload 5, 2) := by decide +kernel
theorem dX3_nearestUnseen_58 : decode cX3_nearestUnseen 58 = .ok (.iload_n 2, 1) := by decide +kernel
theorem dX3_nearestUnseen_59 : decode cX3_nearestUnseen 59 = .ok (.iand, 1) := by decide +kernel
theorem dX3_nearestUnseen_60 : decode cX3_nearestUnseen 60 = .ok (.invokestatic 102, 3) := by decide +kernel
theorem dX3_nearestUnseen_63 : decode cX3_nearestUnseen 63 = .ok (.ireturn, 1) := by decide +kernel
theorem dX3_nearestUnseen_64 : decode cX3_nearestUnseen 64 = .ok (.iload 5, 2) := by decide +kernel
theorem dX3_nearestUnseen_66 : decode cX3_nearestUnseen 66 = .ok (.istore_n 3, 1) := by decide +kernel
theorem dX3_nearestUnseen_67 : decode cX3_nearestUnseen 67 = .ok (.iinc 4 1, 3) := by decide +kernel
theorem dX3_nearestUnseen_70 : decode cX3_nearestUnseen 70 = .ok (.goto (-51), 3) := by decide +kernel
theorem dX3_nearestUnseen_73 : decode cX3_nearestUnseen 73 = .ok (.bipush (-9), 2) := by decide +kernel
theorem dX3_nearestUnseen_75 : decode cX3_nearestUnseen 75 = .ok (.ireturn, 1) := by decide +kernel
set_option maxRecDepth 20000 in
theorem ggX3_edgeTowards_X1_edgesFrom : GoodIn wsX3_edgeTowards wsX1_edgesFrom := goodIn_r _ [7, 8, 31, 32, 33, 34, 35, 36, 37, 38, 39] (by decide +kernel) (by decide +kernel)
set_option maxRecDepth 20000 in
theorem gX3_edgeTowards_X1_edgesFrom : GoodIn wsX3_edgeTowards (wsV RX3 105 RX1 yX1_edgesFrom wsX1_edgesFrom) := goodIn_app (goodIn_of _ (by decide +kernel)) ggX3_edgeTowards_X1_edgesFrom
set_option maxRecDepth 20000 in
theorem ggX3_edgeTowards_X1_edgesAtAny : GoodIn wsX3_edgeTowards wsX1_edgesAtAny := goodIn_r _ [12, 8, 31, 32, 33, 34, 35, 36, 37, 38, 39] (by decide +kernel) (by decide +kernel)
set_option maxRecDepth 20000 in
theorem gX3_edgeTowards_X1_edgesAtAny : GoodIn wsX3_edgeTowards (wsV RX3 142 RX1 yX1_edgesAtAny wsX1_edgesAtAny) := goodIn_app (goodIn_of _ (by decide +kernel)) ggX3_edgeTowards_X1_edgesAtAny
set_option maxRecDepth 20000 in
theorem ggX3_edgeTowards_X5_least : GoodIn wsX3_edgeTowards wsX5_least := goodIn_r _ [15] (by decide +kernel) (by decide +kernel)
set_option maxRecDepth 20000 in
theorem gX3_edgeTowards_X5_least_n102 : GoodIn wsX3_edgeTowards (wsX5_least) := ggX3_edgeTowards_X5_least
set_option maxRecDepth 20000 in
theorem ggX3_edgeTowards_X1_widened : GoodIn wsX3_edgeTowards wsX1_widened := goodIn_r _ [19, 20, 21, 31, 32, 33, 34, 35, 36, 37, 38, 39] (by decide +kernel) (by decide +kernel)
set_option maxRecDepth 20000 in
theorem gX3_edgeTowards_X1_widened : GoodIn wsX3_edgeTowards (wsV RX3 139 RX1 yX1_widened wsX1_widened) := goodIn_app (goodIn_of _ (by decide +kernel)) ggX3_edgeTowards_X1_widened
theorem dX3_edgeTowards_0 : decode cX3_edgeTowards 0 = .ok (.iconst 1, 1) := by decide +kernel
theorem dX3_edgeTowards_1 : decode cX3_edgeTowards 1 = .ok (.iload_n 1, 1) := by decide +kernel
theorem dX3_edgeTowards_2 : decode cX3_edgeTowards 2 = .ok (.ishl, 1) := by decide +kernel
theorem dX3_edgeTowards_3 : decode cX3_edgeTowards 3 = .ok (.istore_n 3, 1) := by decide +kernel
theorem dX3_edgeTowards_4 : decode cX3_edgeTowards 4 = .ok (.iconst 1, 1) := by decide +kernel
theorem dX3_edgeTowards_5 : decode cX3_edgeTowards 5 = .ok (.istore 4, 2) := by decide +kernel
theorem dX3_edgeTowards_7 : decode cX3_edgeTowards 7 = .ok (.iload 4, 2) := by decide +kernel
theorem dX3_edgeTowards_9 : decode cX3_edgeTowards 9 = .ok (.bipush 8, 2) := by decide +kernel
theorem dX3_edgeTowards_11 : decode cX3_edgeTowards 11 = .ok (.if_icmp .ge 57, 3) := by decide +kernel
theorem dX3_edgeTowards_14 : decode cX3_edgeTowards 14 = .ok (.aload_n 0, 1) := by decide +kernel
theorem dX3_edgeTowards_15 : decode cX3_edgeTowards 15 = .ok (.getfield 37, 3) := by decide +kernel
theorem dX3_edgeTowards_18 : decode cX3_edgeTowards 18 = .ok (.iload_n 2, 1) := by decide +kernel
theorem dX3_edgeTowards_19 : decode cX3_edgeTowards 19 = .ok (.invokevirtual 105, 3) := by decide +kernel
theorem dX3_edgeTowards_22 : decode cX3_edgeTowards 22 = .ok (.aload_n 0, 1) := by decide +kernel
theorem dX3_edgeTowards_23 : decode cX3_edgeTowards 23 = .ok (.getfield 31, 3) := by decide +kernel
theorem dX3_edgeTowards_26 : decode cX3_edgeTowards 26 = .ok (.iand, 1) := by decide +kernel
theorem dX3_edgeTowards_27 : decode cX3_edgeTowards 27 = .ok (.aload_n 0, 1) := by decide +kernel
theorem dX3_edgeTowards_28 : decode cX3_edgeTowards 28 = .ok (.getfield 37, 3) := by decide +kernel
theorem dX3_edgeTowards_31 : decode cX3_edgeTowards 31 = .ok (.iload_n 3, 1) := by decide +kernel
theorem dX3_edgeTowards_32 : decode cX3_edgeTowards 32 = .ok (.invokevirtual 142, 3) := by decide +kernel
theorem dX3_edgeTowards_35 : decode cX3_edgeTowards 35 = .ok (.iand, 1) := by decide +kernel
theorem dX3_edgeTowards_36 : decode cX3_edgeTowards 36 = .ok (.istore 5, 2) := by decide +kernel
theorem dX3_edgeTowards_38 : decode cX3_edgeTowards 38 = .ok (.iload 5, 2) := by decide +kernel
theorem dX3_edgeTowards_40 : decode cX3_edgeTowards 40 = .ok (.ifCond .eq 9, 3) := by decide +kernel
theorem dX3_edgeTowards_43 : decode cX3_edgeTowards 43 = .ok (.iload 5, 2) := by decide +kernel
theorem dX3_edgeTowards_45 : decode cX3_edgeTowards 45 = .ok (.invokestatic 102, 3) := by decide +kernel
theorem dX3_edgeTowards_48 : decode cX3_edgeTowards 48 = .ok (.ireturn, 1) := by decide +kernel
theorem dX3_edgeTowards_49 : decode cX3_edgeTowards 49 = .ok (.aload_n 0, 1) := by decide +kernel
theorem dX3_edgeTowards_50 : decode cX3_edgeTowards 50 = .ok (.getfield 37, 3) := by decide +kernel
theorem dX3_edgeTowards_53 : decode cX3_edgeTowards 53 = .ok (.iload_n 3, 1) := by decide +kernel
theorem dX3_edgeTowards_54 : decode cX3_edgeTowards 54 = .ok (.aload_n 0, 1) := by decide +kernel
theorem dX3_edgeTowards_55 : decode cX3_edgeTowards 55 = .ok (.getfield 31, 3) := by decide +kernel
theorem dX3_edgeTowards_58 : decode cX3_edgeTowards 58 = .ok (.invokevirtual 139, 3) := by decide +kernel
theorem dX3_edgeTowards_61 : decode cX3_edgeTowards 61 = .ok (.istore_n 3, 1) := by decide +kernel
theorem dX3_edgeTowards_62 : decode cX3_edgeTowards 62 = .ok (.iinc 4 1, 3) := by decide +kernel
theorem dX3_edgeTowards_65 : decode cX3_edgeTowards 65 = .ok (.goto (-58), 3) := by decide +kernel
theorem dX3_edgeTowards_68 : decode cX3_edgeTowards 68 = .ok (.bipush (-9), 2) := by decide +kernel
theorem dX3_edgeTowards_70 : decode cX3_edgeTowards 70 = .ok (.ireturn, 1) := by decide +kernel
set_option maxRecDepth 20000 in
theorem ggX3_playRound_X5_holds : GoodIn wsX3_playRound wsX5_holds := goodIn_r _ [4] (by decide +kernel) (by decide +kernel)
set_option maxRecDepth 20000 in
theorem gX3_playRound_X5_holds_n85 : GoodIn wsX3_playRound (wsX5_holds) := ggX3_playRound_X5_holds
set_option maxRecDepth 20000 in
theorem ggX3_playRound_X3_cautiousEdge : GoodIn wsX3_playRound wsX3_cautiousEdge := goodIn_r _ [9, 10, 11, 12, 13, 14, 15, 16, 8, 17, 18, 19, 20, 21, 1, 22, 23, 24, 25, 26, 27, 28, 29, 30, 31, 32, 33, 34, 35, 36, 37, 38, 39, 40, 41, 42, 43, 44, 3, 45, 46, 47, 48, 49, 50, 51, 52, 53, 54, 55, 56, 57, 58, 59, 60, 61, 62, 63, 64, 65, 66, 67, 68, 91, 92, 93, 94, 95, 96, 97, 98, 99, 100, 101, 102, 103, 104, 105, 106, 107, 108] (by decide +kernel) (by decide +kernel)
set_option maxRecDepth 20000 in
theorem gX3_playRound_X3_cautiousEdge : GoodIn wsX3_playRound (wsV RX3 145 RX3 yX3_cautiousEdge wsX3_cautiousEdge) := goodIn_app (goodIn_of _ (by decide +kernel)) ggX3_playRound_X3_cautiousEdge
set_option maxRecDepth 20000 in
theorem ggX3_playRound_X3_go : GoodIn wsX3_playRound wsX3_go := goodIn_r _ [72, 11, 12, 73, 10, 50, 14, 15, 16, 8, 17, 18, 19, 20, 21, 1, 74, 75, 76, 41, 77, 56, 78, 79, 80, 81, 55, 44, 3, 45, 82, 83, 84, 85, 30, 2, 4, 86, 87, 88, 89, 13, 90, 91, 92, 93, 94, 95, 96, 97, 98, 99, 100, 101, 102, 103, 104, 105, 106, 107, 108] (by decide +kernel) (by decide +kernel)
set_option maxRecDepth 20000 in
theorem gX3_playRound_X3_go : GoodIn wsX3_playRound (wsV RX3 117 RX3 yX3_go wsX3_go) := goodIn_app (goodIn_of _ (by decide +kernel)) ggX3_playRound_X3_go
theorem dX3_playRound_0 : decode cX3_playRound 0 = .ok (.iconst 0, 1) := by decide +kernel
theorem dX3_playRound_1 : decode cX3_playRound 1 = .ok (.istore_n 2, 1) := by decide +kernel
theorem dX3_playRound_2 : decode cX3_playRound 2 = .ok (.iconst 0, 1) := by decide +kernel
theorem dX3_playRound_3 : decode cX3_playRound 3 = .ok (.istore_n 3, 1) := by decide +kernel
theorem dX3_playRound_4 : decode cX3_playRound 4 = .ok (.iload_n 3, 1) := by decide +kernel
theorem dX3_playRound_5 : decode cX3_playRound 5 = .ok (.aload_n 0, 1) := by decide +kernel
theorem dX3_playRound_6 : decode cX3_playRound 6 = .ok (.getfield 18, 3) := by decide +kernel
theorem dX3_playRound_9 : decode cX3_playRound 9 = .ok (.if_icmp .ge 41, 3) := by decide +kernel
theorem dX3_playRound_12 : decode cX3_playRound 12 = .ok (.iload_n 1, 1) := by decide +kernel
theorem dX3_playRound_13 : decode cX3_playRound 13 = .ok (.iload_n 3, 1) := by decide +kernel
theorem dX3_playRound_14 : decode cX3_playRound 14 = .ok (.invokestatic 85, 3) := by decide +kernel
theorem dX3_playRound_17 : decode cX3_playRound 17 = .ok (.ifCond .eq 27, 3) := by decide +kernel
theorem dX3_playRound_20 : decode cX3_playRound 20 = .ok (.aload_n 0, 1) := by decide +kernel
theorem dX3_playRound_21 : decode cX3_playRound 21 = .ok (.iload_n 3, 1) := by decide +kernel
theorem dX3_playRound_22 : decode cX3_playRound 22 = .ok (.invokevirtual 145, 3) := by decide +kernel
theorem dX3_playRound_25 : decode cX3_playRound 25 = .ok (.istore 4, 2) := by decide +kernel
theorem dX3_playRound_27 : decode cX3_playRound 27 = .ok (.iload 4, 2) := by decide +kernel
theorem dX3_playRound_29 : decode cX3_playRound 29 = .ok (.bipush (-9), 2) := by decide +kernel
theorem dX3_playRound_31 : decode cX3_playRound 31 = .ok (.if_icmp .eq 13, 3) := by decide +kernel
theorem dX3_playRound_34 : decode cX3_playRound 34 = .ok (.aload_n 0, 1) := by decide +kernel
theorem dX3_playRound_35 : decode cX3_playRound 35 = .ok (.iload_n 3, 1) := by decide +kernel
theorem dX3_playRound_36 : decode cX3_playRound 36 = .ok (.iload 4, 2) := by decide +kernel
theorem dX3_playRound_38 : decode cX3_playRound 38 = .ok (.invokevirtual 117, 3) := by decide +kernel
theorem dX3_playRound_41 : decode cX3_playRound 41 = .ok (.iinc 2 1, 3) := by decide +kernel
theorem dX3_playRound_44 : decode cX3_playRound 44 = .ok (.iinc 3 1, 3) := by decide +kernel
theorem dX3_playRound_47 : decode cX3_playRound 47 = .ok (.goto (-43), 3) := by decide +kernel
theorem dX3_playRound_50 : decode cX3_playRound 50 = .ok (.iload_n 2, 1) := by decide +kernel
theorem dX3_playRound_51 : decode cX3_playRound 51 = .ok (.ireturn, 1) := by decide +kernel
set_option maxRecDepth 20000 in
theorem ggX3_playTillKnown_X3_isKnown : GoodIn wsX3_playTillKnown wsX3_isKnown := goodIn_r _ [5, 6, 7, 8, 4, 9, 10, 11, 12, 13, 14, 15, 16, 17, 18, 95, 96, 97, 98, 99, 100, 101, 102, 103, 104, 105, 106, 107, 108, 109, 110, 111, 112] (by decide +kernel) (by decide +kernel)
set_option maxRecDepth 20000 in
theorem gX3_playTillKnown_X3_isKnown : GoodIn wsX3_playTillKnown (wsV RX3 95 RX3 yX3_isKnown wsX3_isKnown) := goodIn_app (goodIn_of _ (by decide +kernel)) ggX3_playTillKnown_X3_isKnown
set_option maxRecDepth 20000 in
theorem ggX3_playTillKnown_X3_playRound : GoodIn wsX3_playTillKnown wsX3_playRound := goodIn_r _ [22, 23, 24, 25, 26, 27, 28, 29, 4, 30, 31, 10, 32, 33, 34, 35, 36, 37, 38, 39, 40, 41, 1, 2, 3, 5, 6, 7, 8, 9, 11, 12, 13, 14, 15, 16, 17, 18, 42, 43, 44, 45, 46, 47, 48, 49, 50, 51, 52, 53, 54, 55, 56, 57, 58, 59, 60, 61, 62, 63, 64, 65, 66, 67, 68, 69, 70, 71, 72, 73, 74, 75, 76, 77, 78, 79, 80, 81, 82, 83, 84, 85, 86, 87, 88, 89, 90, 91, 92, 93, 94, 95, 96, 97, 98, 99, 100, 101, 102, 103, 104, 105, 106, 107, 108, 109, 110, 111, 112] (by decide +kernel) (by decide +kernel)
set_option maxRecDepth 20000 in
theorem gX3_playTillKnown_X3_playRound : GoodIn wsX3_playTillKnown (wsV RX3 148 RX3 yX3_playRound wsX3_playRound) := goodIn_app (goodIn_of _ (by decide +kernel)) ggX3_playTillKnown_X3_playRound
theorem dX3_playTillKnown_0 : decode cX3_playTillKnown 0 = .ok (.iconst 0, 1) := by decide +kernel
theorem dX3_playTillKnown_1 : decode cX3_playTillKnown 1 = .ok (.istore_n 1, 1) := by decide +kernel
theorem dX3_playTillKnown_2 : decode cX3_playTillKnown 2 = .ok (.iload_n 1, 1) := by decide +kernel
theorem dX3_playTillKnown_3 : decode cX3_playTillKnown 3 = .ok (.bipush 60, 2) := by decide +kernel
theorem dX3_playTillKnown_5 : decode cX3_playTillKnown 5 = .ok (.if_icmp .ge 30, 3) := by decide +kernel
theorem dX3_playTillKnown_8 : decode cX3_playTillKnown 8 = .ok (.aload_n 0, 1) := by decide +kernel
theorem dX3_playTillKnown_9 : decode cX3_playTillKnown 9 = .ok (.invokevirtual 95, 3) := by decide +kernel
theorem dX3_playTillKnown_12 : decode cX3_playTillKnown 12 = .ok (.ifCond .eq 5, 3) := by decide +kernel
theorem dX3_playTillKnown_15 : decode cX3_playTillKnown 15 = .ok (.iload_n 1, 1) := by decide +kernel
theorem dX3_playTillKnown_16 : decode cX3_playTillKnown 16 = .ok (.ireturn, 1) := by decide +kernel
theorem dX3_playTillKnown_17 : decode cX3_playTillKnown 17 = .ok (.aload_n 0, 1) := by decide +kernel
theorem dX3_playTillKnown_18 : decode cX3_playTillKnown 18 = .ok (.bipush 15, 2) := by decide +kernel
theorem dX3_playTillKnown_20 : decode cX3_playTillKnown 20 = .ok (.invokevirtual 148, 3) := by decide +kernel
theorem dX3_playTillKnown_23 : decode cX3_playTillKnown 23 = .ok (.ifCond .ne 6, 3) := by decide +kernel
theorem dX3_playTillKnown_26 : decode cX3_playTillKnown 26 = .ok (.bipush (-9), 2) := by decide +kernel
theorem dX3_playTillKnown_28 : decode cX3_playTillKnown 28 = .ok (.ireturn, 1) := by decide +kernel
theorem dX3_playTillKnown_29 : decode cX3_playTillKnown 29 = .ok (.iinc 1 1, 3) := by decide +kernel
theorem dX3_playTillKnown_32 : decode cX3_playTillKnown 32 = .ok (.goto (-30), 3) := by decide +kernel
theorem dX3_playTillKnown_35 : decode cX3_playTillKnown 35 = .ok (.aload_n 0, 1) := by decide +kernel
theorem dX3_playTillKnown_36 : decode cX3_playTillKnown 36 = .ok (.invokevirtual 95, 3) := by decide +kernel
theorem dX3_playTillKnown_39 : decode cX3_playTillKnown 39 = .ok (.ifCond .eq 8, 3) := by decide +kernel
theorem dX3_playTillKnown_42 : decode cX3_playTillKnown 42 = .ok (.bipush 60, 2) := by decide +kernel
theorem dX3_playTillKnown_44 : decode cX3_playTillKnown 44 = .ok (.goto 5, 3) := by decide +kernel
theorem dX3_playTillKnown_47 : decode cX3_playTillKnown 47 = .ok (.bipush (-9), 2) := by decide +kernel
theorem dX3_playTillKnown_49 : decode cX3_playTillKnown 49 = .ok (.ireturn, 1) := by decide +kernel
set_option maxRecDepth 20000 in
theorem ggX3_allows_X3_goIfPossible : GoodIn wsX3_allows wsX3_goIfPossible := goodIn_r _ [6, 7, 8, 9, 5, 10, 1, 11, 12, 13, 14, 15, 16, 17, 18, 19, 20, 21, 22, 23, 24, 25, 26, 27, 28, 29, 30, 31, 32, 33, 34, 35, 36, 37, 38, 39, 40, 41, 42, 43, 44, 45, 46, 47, 48, 49, 50, 51, 52, 53, 54, 55, 56, 57, 58, 59, 60, 61, 62, 63, 64, 65, 66, 67, 68, 69, 70, 71, 72, 73, 74, 75, 76, 77, 78, 79, 132, 133, 134, 135, 136, 137, 138, 139, 140, 141, 142, 143, 144, 145, 146, 147, 148, 149] (by decide +kernel) (by decide +kernel)
set_option maxRecDepth 20000 in
theorem gX3_allows_X3_goIfPossible : GoodIn wsX3_allows (wsV RX3 151 RX3 yX3_goIfPossible wsX3_goIfPossible) := goodIn_app (goodIn_of _ (by decide +kernel)) ggX3_allows_X3_goIfPossible
set_option maxRecDepth 20000 in
theorem ggX3_allows_X3_playIfAnyLives : GoodIn wsX3_allows wsX3_playIfAnyLives := goodIn_r _ [83, 84, 85, 86, 5, 87, 88, 89, 90, 91, 33, 23, 43, 44, 45, 46, 47, 48, 49, 92, 93, 94, 95, 58, 51, 59, 96, 97, 98, 99, 21, 1, 22, 25, 26, 27, 28, 29, 30, 31, 32, 34, 35, 36, 37, 38, 39, 40, 41, 42, 53, 54, 55, 14, 56, 57, 50, 52, 100, 101, 102, 103, 24, 104, 105, 106, 107, 16, 69, 108, 109, 110, 111, 112, 113, 114, 115, 116, 117, 118, 119, 60, 61, 62, 63, 64, 65, 66, 67, 68, 70, 12, 13, 15, 71, 72, 73, 74, 75, 76, 77, 78, 79, 132, 133, 134, 135, 136, 137, 138, 139, 140, 141, 142, 143, 144, 145, 146, 147, 148, 149] (by decide +kernel) (by decide +kernel)
set_option maxRecDepth 20000 in
theorem gX3_allows_X3_playIfAnyLives : GoodIn wsX3_allows (wsV RX3 154 RX3 yX3_playIfAnyLives wsX3_playIfAnyLives) := goodIn_app (goodIn_of _ (by decide +kernel)) ggX3_allows_X3_playIfAnyLives
set_option maxRecDepth 20000 in
theorem ggX3_allows_X3_living : GoodIn wsX3_allows wsX3_living := goodIn_r _ [87, 88, 89, 90, 5, 91, 33, 23, 43, 44, 45, 46, 47, 48, 49, 132, 133, 134, 135, 136, 137, 138, 139, 140] (by decide +kernel) (by decide +kernel)
set_option maxRecDepth 20000 in
theorem gX3_allows_X3_living : GoodIn wsX3_allows (wsV RX3 157 RX3 yX3_living wsX3_living) := goodIn_app (goodIn_of _ (by decide +kernel)) ggX3_allows_X3_living
set_option maxRecDepth 20000 in
theorem ggX3_allows_X3_mayBe : GoodIn wsX3_allows wsX3_mayBe := goodIn_r _ [41, 1, 42, 132, 133, 134, 135, 136, 137, 138, 139, 140, 141, 142, 143, 144, 145, 146, 147, 148, 149] (by decide +kernel) (by decide +kernel)
set_option maxRecDepth 20000 in
theorem gX3_allows_X3_mayBe : GoodIn wsX3_allows (wsV RX3 92 RX3 yX3_mayBe wsX3_mayBe) := goodIn_app (goodIn_of _ (by decide +kernel)) ggX3_allows_X3_mayBe
set_option maxRecDepth 20000 in
theorem ggX3_allows_X5_holds : GoodIn wsX3_allows wsX5_holds := goodIn_r _ [59] (by decide +kernel) (by decide +kernel)
set_option maxRecDepth 20000 in
theorem gX3_allows_X5_holds_n85 : GoodIn wsX3_allows (wsX5_holds) := ggX3_allows_X5_holds
set_option maxRecDepth 20000 in
theorem ggX3_allows_X3_lives : GoodIn wsX3_allows wsX3_lives := goodIn_r _ [28, 23, 29, 30, 31, 5, 32, 33, 132, 133, 134, 135, 136, 137, 138, 139, 140] (by decide +kernel) (by decide +kernel)
set_option maxRecDepth 20000 in
theorem gX3_allows_X3_lives : GoodIn wsX3_allows (wsV RX3 99 RX3 yX3_lives wsX3_lives) := goodIn_app (goodIn_of _ (by decide +kernel)) ggX3_allows_X3_lives
set_option maxRecDepth 20000 in
theorem ggX3_allows_X3_placeOf : GoodIn wsX3_allows wsX3_placeOf := goodIn_r _ [123, 23, 29, 30, 31, 5, 32, 33, 132, 133, 134, 135, 136, 137, 138, 139, 140] (by decide +kernel) (by decide +kernel)
set_option maxRecDepth 20000 in
theorem gX3_allows_X3_placeOf : GoodIn wsX3_allows (wsV RX3 160 RX3 yX3_placeOf wsX3_placeOf) := goodIn_app (goodIn_of _ (by decide +kernel)) ggX3_allows_X3_placeOf
set_option maxRecDepth 20000 in
theorem ggX3_allows_X1_isEdge : GoodIn wsX3_allows wsX1_isEdge := goodIn_r _ [15, 16, 141, 142, 143, 144, 145, 146, 147, 148, 149] (by decide +kernel) (by decide +kernel)
set_option maxRecDepth 20000 in
theorem gX3_allows_X1_isEdge : GoodIn wsX3_allows (wsV RX3 108 RX1 yX1_isEdge wsX1_isEdge) := goodIn_app (goodIn_of _ (by decide +kernel)) ggX3_allows_X1_isEdge
set_option maxRecDepth 20000 in
theorem ggX3_allows_X3_stateOf : GoodIn wsX3_allows wsX3_stateOf := goodIn_r _ [127, 22, 24, 58, 51, 59, 132, 133, 134, 135, 136, 137, 138, 139, 140] (by decide +kernel) (by decide +kernel)
set_option maxRecDepth 20000 in
theorem gX3_allows_X3_stateOf : GoodIn wsX3_allows (wsV RX3 163 RX3 yX3_stateOf wsX3_stateOf) := goodIn_app (goodIn_of _ (by decide +kernel)) ggX3_allows_X3_stateOf
set_option maxRecDepth 20000 in
theorem ggX3_allows_X3_isKnownAt : GoodIn wsX3_allows wsX3_isKnownAt := goodIn_r _ [131, 34, 35, 36, 5, 37, 38, 39, 40, 41, 1, 42, 43, 44, 45, 46, 47, 48, 49, 58, 51, 59, 132, 133, 134, 135, 136, 137, 138, 139, 140, 141, 142, 143, 144, 145, 146, 147, 148, 149] (by decide +kernel) (by decide +kernel)
set_option maxRecDepth 20000 in
theorem gX3_allows_X3_isKnownAt : GoodIn wsX3_allows (wsV RX3 166 RX3 yX3_isKnownAt wsX3_isKnownAt) := goodIn_app (goodIn_of _ (by decide +kernel)) ggX3_allows_X3_isKnownAt
theorem dX3_allows_0 : decode cX3_allows 0 = .ok (.iload_n 1, 1) := by decide +kernel
theorem dX3_allows_1 : decode cX3_allows 1 = .ok (.tableswitch 177 1 7 #[43, 50, 71, 89, 110, 133, 159], 43) := by decide +kernel
theorem dX3_allows_44 : decode cX3_allows 44 = .ok (.aload_n 0, 1) := by decide +kernel
theorem dX3_allows_45 : decode cX3_allows 45 = .ok (.iload_n 2, 1) := by decide +kernel
theorem dX3_allows_46 : decode cX3_allows 46 = .ok (.iload_n 3, 1) := by decide +kernel
theorem dX3_allows_47 : decode cX3_allows 47 = .ok (.invokevirtual 151, 3) := by decide +kernel
theorem dX3_allows_50 : decode cX3_allows 50 = .ok (.ireturn, 1) := by decide +kernel
theorem dX3_allows_51 : decode cX3_allows 51 = .ok (.iload_n 2, 1) := by decide +kernel
theorem dX3_allows_52 : decode cX3_allows 52 = .ok (.ifCond .ne 18, 3) := by decide +kernel
theorem dX3_allows_55 : decode cX3_allows 55 = .ok (.iload_n 3, 1) := by decide +kernel
theorem dX3_allows_56 : decode cX3_allows 56 = .ok (.ifCond .ne 14, 3) := by decide +kernel
theorem dX3_allows_59 : decode cX3_allows 59 = .ok (.aload_n 0, 1) := by decide +kernel
theorem dX3_allows_60 : decode cX3_allows 60 = .ok (.invokevirtual 154, 3) := by decide +kernel
theorem dX3_allows_63 : decode cX3_allows 63 = .ok (.ifCond .eq 7, 3) := by decide +kernel
theorem dX3_allows_66 : decode cX3_allows 66 = .ok (.iconst 1, 1) := by decide +kernel
theorem dX3_allows_67 : decode cX3_allows 67 = .ok (.goto 4, 3) := by decide +kernel
theorem dX3_allows_70 : decode cX3_allows 70 = .ok (.iconst 0, 1) := by decide +kernel
theorem dX3_allows_71 : decode cX3_allows 71 = .ok (.ireturn, 1) := by decide +kernel
theorem dX3_allows_72 : decode cX3_allows 72 = .ok (.iload_n 2, 1) := by decide +kernel
theorem dX3_allows_73 : decode cX3_allows 73 = .ok (.ifCond .ne 15, 3) := by decide +kernel
theorem dX3_allows_76 : decode cX3_allows 76 = .ok (.aload_n 0, 1) := by decide +kernel
theorem dX3_allows_77 : decode cX3_allows 77 = .ok (.invokevirtual 157, 3) := by decide +kernel
theorem dX3_allows_80 : decode cX3_allows 80 = .ok (.iload_n 3, 1) := by decide +kernel
theorem dX3_allows_81 : decode cX3_allows 81 = .ok (.if_icmp .ne 7, 3) := by decide +kernel
theorem dX3_allows_84 : decode cX3_allows 84 = .ok (.iconst 1, 1) := by decide +kernel
theorem dX3_allows_85 : decode cX3_allows 85 = .ok (.goto 4, 3) := by decide +kernel
theorem dX3_allows_88 : decode cX3_allows 88 = .ok (.iconst 0, 1) := by decide +kernel
theorem dX3_allows_89 : decode cX3_allows 89 = .ok (.ireturn, 1) := by decide +kernel
theorem dX3_allows_90 : decode cX3_allows 90 = .ok (.iload_n 2, 1) := by decide +kernel
theorem dX3_allows_91 : decode cX3_allows 91 = .ok (.ifCond .ne 18, 3) := by decide +kernel
theorem dX3_allows_94 : decode cX3_allows 94 = .ok (.aload_n 0, 1) := by decide +kernel
theorem dX3_allows_95 : decode cX3_allows 95 = .ok (.invokevirtual 92, 3) := by decide +kernel
theorem dX3_allows_98 : decode cX3_allows 98 = .ok (.iload_n 3, 1) := by decide +kernel
theorem dX3_allows_99 : decode cX3_allows 99 = .ok (.invokestatic 85, 3) := by decide +kernel
theorem dX3_allows_102 : decode cX3_allows 102 = .ok (.ifCond .eq 7, 3) := by decide +kernel
theorem dX3_allows_105 : decode cX3_allows 105 = .ok (.iconst 1, 1) := by decide +kernel
theorem dX3_allows_106 : decode cX3_allows 106 = .ok (.goto 4, 3) := by decide +kernel
theorem dX3_allows_109 : decode cX3_allows 109 = .ok (.iconst 0, 1) := by decide +kernel
theorem dX3_allows_110 : decode cX3_allows 110 = .ok (.ireturn, 1) := by decide +kernel
theorem dX3_allows_111 : decode cX3_allows 111 = .ok (.aload_n 0, 1) := by decide +kernel
theorem dX3_allows_112 : decode cX3_allows 112 = .ok (.iload_n 2, 1) := by decide +kernel
theorem dX3_allows_113 : decode cX3_allows 113 = .ok (.invokevirtual 99, 3) := by decide +kernel
theorem dX3_allows_116 : decode cX3_allows 116 = .ok (.ifCond .eq 16, 3) := by decide +kernel
theorem dX3_allows_119 : decode cX3_allows 119 = .ok (.aload_n 0, 1) := by decide +kernel
theorem dX3_allows_120 : decode cX3_allows 120 = .ok (.iload_n 2, 1) := by decide +kernel
theorem dX3_allows_121 : decode cX3_allows 121 = .ok (.invokevirtual 160, 3) := by decide +kernel
theorem dX3_allows_124 : decode cX3_allows 124 = .ok (.iload_n 3, 1) := by decide +kernel
theorem dX3_allows_125 : decode cX3_allows 125 = .ok (.if_icmp .ne 7, 3) := by decide +kernel
theorem dX3_allows_128 : decode cX3_allows 128 = .ok (.iconst 1, 1) := by decide +kernel
theorem dX3_allows_129 : decode cX3_allows 129 = .ok (.goto 4, 3) := by decide +kernel
theorem dX3_allows_132 : decode cX3_allows 132 = .ok (.iconst 0, 1) := by decide +kernel
theorem dX3_allows_133 : decode cX3_allows 133 = .ok (.ireturn, 1) := by decide +kernel
theorem dX3_allows_134 : decode cX3_allows 134 = .ok (.aload_n 0, 1) := by decide +kernel
theorem dX3_allows_135 : decode cX3_allows 135 = .ok (.getfield 37, 3) := by decide +kernel
theorem dX3_allows_138 : decode cX3_allows 138 = .ok (.iload_n 2, 1) := by decide +kernel
theorem dX3_allows_139 : decode cX3_allows 139 = .ok (.invokevirtual 108, 3) := by decide +kernel
theorem dX3_allows_142 : decode cX3_allows 142 = .ok (.ifCond .eq 16, 3) := by decide +kernel
theorem dX3_allows_145 : decode cX3_allows 145 = .ok (.aload_n 0, 1) := by decide +kernel
theorem dX3_allows_146 : decode cX3_allows 146 = .ok (.iload_n 2, 1) := by decide +kernel
theorem dX3_allows_147 : decode cX3_allows 147 = .ok (.invokevirtual 163, 3) := by decide +kernel
theorem dX3_allows_150 : decode cX3_allows 150 = .ok (.iload_n 3, 1) := by decide +kernel
theorem dX3_allows_151 : decode cX3_allows 151 = .ok (.if_icmp .ne 7, 3) := by decide +kernel
theorem dX3_allows_154 : decode cX3_allows 154 = .ok (.iconst 1, 1) := by decide +kernel
theorem dX3_allows_155 : decode cX3_allows 155 = .ok (.goto 4, 3) := by decide +kernel
theorem dX3_allows_158 : decode cX3_allows 158 = .ok (.iconst 0, 1) := by decide +kernel
theorem dX3_allows_159 : decode cX3_allows 159 = .ok (.ireturn, 1) := by decide +kernel
theorem dX3_allows_160 : decode cX3_allows 160 = .ok (.iload_n 2, 1) := by decide +kernel
theorem dX3_allows_161 : decode cX3_allows 161 = .ok (.ifCond .ne 15, 3) := by decide +kernel
theorem dX3_allows_164 : decode cX3_allows 164 = .ok (.aload_n 0, 1) := by decide +kernel
theorem dX3_allows_165 : decode cX3_allows 165 = .ok (.iload_n 3, 1) := by decide +kernel
theorem dX3_allows_166 : decode cX3_allows 166 = .ok (.invokevirtual 166, 3) := by decide +kernel
theorem dX3_allows_169 : decode cX3_allows 169 = .ok (.ifCond .eq 7, 3) := by decide +kernel
theorem dX3_allows_172 : decode cX3_allows 172 = .ok (.iconst 1, 1) := by decide +kernel
theorem dX3_allows_173 : decode cX3_allows 173 = .ok (.goto 4, 3) := by decide +kernel
theorem dX3_allows_176 : decode cX3_allows 176 = .ok (.iconst 0, 1) := by decide +kernel
theorem dX3_allows_177 : decode cX3_allows 177 = .ok (.ireturn, 1) := by decide +kernel
theorem dX3_allows_178 : decode cX3_allows 178 = .ok (.iconst 0, 1) := by decide +kernel
theorem dX3_allows_179 : decode cX3_allows 179 = .ok (.ireturn, 1) := by decide +kernel
set_option maxRecDepth 20000 in
theorem ggX3_playIfAnyLives_X3_living : GoodIn wsX3_playIfAnyLives wsX3_living := goodIn_r _ [5, 6, 7, 8, 4, 9, 10, 11, 12, 13, 14, 15, 16, 17, 18, 103, 104, 105, 106, 107, 108, 109, 110, 111] (by decide +kernel) (by decide +kernel)
set_option maxRecDepth 20000 in
theorem gX3_playIfAnyLives_X3_living : GoodIn wsX3_playIfAnyLives (wsV RX3 157 RX3 yX3_living wsX3_living) := goodIn_app (goodIn_of _ (by decide +kernel)) ggX3_playIfAnyLives_X3_living
set_option maxRecDepth 20000 in
theorem ggX3_playIfAnyLives_X3_playRound : GoodIn wsX3_playIfAnyLives wsX3_playRound := goodIn_r _ [22, 10, 23, 24, 25, 26, 27, 28, 4, 29, 30, 31, 11, 32, 33, 34, 35, 36, 37, 38, 39, 40, 41, 42, 43, 44, 45, 46, 47, 48, 49, 12, 13, 14, 15, 16, 17, 18, 50, 51, 52, 53, 54, 55, 56, 57, 58, 59, 60, 61, 62, 63, 64, 65, 66, 67, 68, 69, 70, 71, 72, 73, 74, 75, 76, 77, 78, 79, 80, 81, 82, 83, 84, 85, 86, 87, 88, 89, 90, 91, 92, 93, 94, 95, 96, 97, 98, 99, 100, 101, 102, 103, 104, 105, 106, 107, 108, 109, 110, 111, 112, 113, 114, 115, 116, 117, 118, 119, 120] (by decide +kernel) (by decide +kernel)
set_option maxRecDepth 20000 in
theorem gX3_playIfAnyLives_X3_playRound : GoodIn wsX3_playIfAnyLives (wsV RX3 148 RX3 yX3_playRound wsX3_playRound) := goodIn_app (goodIn_of _ (by decide +kernel)) ggX3_playIfAnyLives_X3_playRound
theorem dX3_playIfAnyLives_0 : decode cX3_playIfAnyLives 0 = .ok (.aload_n 0, 1) := by decide +kernel
theorem dX3_playIfAnyLives_1 : decode cX3_playIfAnyLives 1 = .ok (.invokevirtual 157, 3) := by decide +kernel
theorem dX3_playIfAnyLives_4 : decode cX3_playIfAnyLives 4 = .ok (.ifCond .ne 5, 3) := by decide +kernel
theorem dX3_playIfAnyLives_7 : decode cX3_playIfAnyLives 7 = .ok (.iconst 0, 1) := by decide +kernel
theorem dX3_playIfAnyLives_8 : decode cX3_playIfAnyLives 8 = .ok (.ireturn, 1) := by decide +kernel
theorem dX3_playIfAnyLives_9 : decode cX3_playIfAnyLives 9 = .ok (.aload_n 0, 1) := by decide +kernel
theorem dX3_playIfAnyLives_10 : decode cX3_playIfAnyLives 10 = .ok (.bipush 15, 2) := by decide +kernel
theorem dX3_playIfAnyLives_12 : decode cX3_playIfAnyLives 12 = .ok (.invokevirtual 148, 3) := by decide +kernel
theorem dX3_playIfAnyLives_15 : decode cX3_playIfAnyLives 15 = .ok (.pop, 1) := by decide +kernel
theorem dX3_playIfAnyLives_16 : decode cX3_playIfAnyLives 16 = .ok (.iconst 1, 1) := by decide +kernel
theorem dX3_playIfAnyLives_17 : decode cX3_playIfAnyLives 17 = .ok (.ireturn, 1) := by decide +kernel
theorem dX4_init_0 : decode cX4_init 0 = .ok (.aload_n 0, 1) := by decide +kernel
theorem dX4_init_1 : decode cX4_init 1 = .ok (.invokespecial 3, 3) := by decide +kernel
theorem dX4_init_4 : decode cX4_init 4 = .ok (.aload_n 0, 1) := by decide +kernel
theorem dX4_init_5 : decode cX4_init 5 = .ok (.bipush 40, 2) := by decide +kernel
theorem dX4_init_7 : decode cX4_init 7 = .ok (.newarray .int, 2) := by decide +kernel
theorem dX4_init_9 : decode cX4_init 9 = .ok (.putfield 9, 3) := by decide +kernel
theorem dX4_init_12 : decode cX4_init 12 = .ok (.aload_n 0, 1) := by decide +kernel
theorem dX4_init_13 : decode cX4_init 13 = .ok (.iconst 0, 1) := by decide +kernel
theorem dX4_init_14 : decode cX4_init 14 = .ok (.putfield 15, 3) := by decide +kernel
theorem dX4_init_17 : decode cX4_init 17 = .ok (.return_, 1) := by decide +kernel
theorem dX4_isFull_0 : decode cX4_isFull 0 = .ok (.aload_n 0, 1) := by decide +kernel
theorem dX4_isFull_1 : decode cX4_isFull 1 = .ok (.getfield 15, 3) := by decide +kernel
theorem dX4_isFull_4 : decode cX4_isFull 4 = .ok (.bipush 40, 2) := by decide +kernel
theorem dX4_isFull_6 : decode cX4_isFull 6 = .ok (.if_icmp .lt 7, 3) := by decide +kernel
theorem dX4_isFull_9 : decode cX4_isFull 9 = .ok (.iconst 1, 1) := by decide +kernel
theorem dX4_isFull_10 : decode cX4_isFull 10 = .ok (.goto 4, 3) := by decide +kernel
theorem dX4_isFull_13 : decode cX4_isFull 13 = .ok (.iconst 0, 1) := by decide +kernel
theorem dX4_isFull_14 : decode cX4_isFull 14 = .ok (.ireturn, 1) := by decide +kernel
set_option maxRecDepth 20000 in
theorem ggX4_add_X4_isFull : GoodIn wsX4_add wsX4_isFull := goodIn_r _ [7, 2, 8, 9] (by decide +kernel) (by decide +kernel)
set_option maxRecDepth 20000 in
theorem gX4_add_X4_isFull : GoodIn wsX4_add (wsV RX4 19 RX4 yX4_isFull wsX4_isFull) := goodIn_app (goodIn_of _ (by decide +kernel)) ggX4_add_X4_isFull
theorem dX4_add_0 : decode cX4_add 0 = .ok (.aload_n 0, 1) := by decide +kernel
theorem dX4_add_1 : decode cX4_add 1 = .ok (.invokevirtual 19, 3) := by decide +kernel
theorem dX4_add_4 : decode cX4_add 4 = .ok (.ifCond .ne 23, 3) := by decide +kernel
theorem dX4_add_7 : decode cX4_add 7 = .ok (.aload_n 0, 1) := by decide +kernel
theorem dX4_add_8 : decode cX4_add 8 = .ok (.getfield 9, 3) := by decide +kernel
theorem dX4_add_11 : decode cX4_add 11 = .ok (.aload_n 0, 1) := by decide +kernel
theorem dX4_add_12 : decode cX4_add 12 = .ok (.getfield 15, 3) := by decide +kernel
theorem dX4_add_15 : decode cX4_add 15 = .ok (.iload_n 1, 1) := by decide +kernel
theorem dX4_add_16 : decode cX4_add 16 = .ok (.iastore, 1) := by decide +kernel
theorem dX4_add_17 : decode cX4_add 17 = .ok (.aload_n 0, 1) := by decide +kernel
theorem dX4_add_18 : decode cX4_add 18 = .ok (.dup, 1) := by decide +kernel
theorem dX4_add_19 : decode cX4_add 19 = .ok (.getfield 15, 3) := by decide +kernel
theorem dX4_add_22 : decode cX4_add 22 = .ok (.iconst 1, 1) := by decide +kernel
theorem dX4_add_23 : decode cX4_add 23 = .ok (.iadd, 1) := by decide +kernel
theorem dX4_add_24 : decode cX4_add 24 = .ok (.putfield 15, 3) := by decide +kernel
theorem dX4_add_27 : decode cX4_add 27 = .ok (.aload_n 0, 1) := by decide +kernel
theorem dX4_add_28 : decode cX4_add 28 = .ok (.getfield 15, 3) := by decide +kernel
theorem dX4_add_31 : decode cX4_add 31 = .ok (.ireturn, 1) := by decide +kernel
theorem dX4_clear_0 : decode cX4_clear 0 = .ok (.aload_n 0, 1) := by decide +kernel
theorem dX4_clear_1 : decode cX4_clear 1 = .ok (.getfield 15, 3) := by decide +kernel
theorem dX4_clear_4 : decode cX4_clear 4 = .ok (.istore_n 1, 1) := by decide +kernel
theorem dX4_clear_5 : decode cX4_clear 5 = .ok (.aload_n 0, 1) := by decide +kernel
theorem dX4_clear_6 : decode cX4_clear 6 = .ok (.iconst 0, 1) := by decide +kernel
theorem dX4_clear_7 : decode cX4_clear 7 = .ok (.putfield 15, 3) := by decide +kernel
theorem dX4_clear_10 : decode cX4_clear 10 = .ok (.iload_n 1, 1) := by decide +kernel
theorem dX4_clear_11 : decode cX4_clear 11 = .ok (.ireturn, 1) := by decide +kernel
set_option maxRecDepth 20000 in
theorem ggX4_readInto_X1_clear : GoodIn wsX4_readInto wsX1_clear := goodIn_r _ [7, 8, 9, 10, 11, 12, 13, 14, 52, 53, 54, 55, 56, 57, 58, 59, 60] (by decide +kernel) (by decide +kernel)
set_option maxRecDepth 20000 in
theorem gX4_readInto_X1_clear : GoodIn wsX4_readInto (wsV RX4 23 RX1 yX1_clear wsX1_clear) := goodIn_app (goodIn_of _ (by decide +kernel)) ggX4_readInto_X1_clear
set_option maxRecDepth 20000 in
theorem ggX4_readInto_X1_takes : GoodIn wsX4_readInto wsX1_takes := goodIn_r _ [18, 19, 20, 21, 22, 23, 24, 25, 6, 26, 27, 28, 29, 30, 8, 31, 10, 32, 33, 34, 35, 36, 37, 38, 39, 40, 41, 42, 43, 9, 44, 45, 46, 52, 53, 54, 55, 56, 57, 58, 59, 60] (by decide +kernel) (by decide +kernel)
set_option maxRecDepth 20000 in
theorem gX4_readInto_X1_takes : GoodIn wsX4_readInto (wsV RX4 28 RX1 yX1_takes wsX1_takes) := goodIn_app (goodIn_of _ (by decide +kernel)) ggX4_readInto_X1_takes
set_option maxRecDepth 20000 in
theorem ggX4_readInto_X1_mayEndAt : GoodIn wsX4_readInto wsX1_mayEndAt := goodIn_r _ [49] (by decide +kernel) (by decide +kernel)
set_option maxRecDepth 20000 in
theorem gX4_readInto_X1_mayEndAt : GoodIn wsX4_readInto (va_wsS RX4 32 yX1_mayEndAt wsX1_mayEndAt) := goodIn_app (goodIn_of _ (by decide +kernel)) ggX4_readInto_X1_mayEndAt
theorem dX4_readInto_0 : decode cX4_readInto 0 = .ok (.aload_n 1, 1) := by decide +kernel
theorem dX4_readInto_1 : decode cX4_readInto 1 = .ok (.invokevirtual 23, 3) := by decide +kernel
theorem dX4_readInto_4 : decode cX4_readInto 4 = .ok (.iconst 0, 1) := by decide +kernel
theorem dX4_readInto_5 : decode cX4_readInto 5 = .ok (.istore_n 2, 1) := by decide +kernel
theorem dX4_readInto_6 : decode cX4_readInto 6 = .ok (.iload_n 2, 1) := by decide +kernel
theorem dX4_readInto_7 : decode cX4_readInto 7 = .ok (.aload_n 0, 1) := by decide +kernel
theorem dX4_readInto_8 : decode cX4_readInto 8 = .ok (.getfield 15, 3) := by decide +kernel
theorem dX4_readInto_11 : decode cX4_readInto 11 = .ok (.if_icmp .ge 25, 3) := by decide +kernel
theorem dX4_readInto_14 : decode cX4_readInto 14 = .ok (.aload_n 1, 1) := by decide +kernel
theorem dX4_readInto_15 : decode cX4_readInto 15 = .ok (.iload_n 2, 1) := by decide +kernel
theorem dX4_readInto_16 : decode cX4_readInto 16 = .ok (.aload_n 0, 1) := by decide +kernel
theorem dX4_readInto_17 : decode cX4_readInto 17 = .ok (.getfield 9, 3) := by decide +kernel
theorem dX4_readInto_20 : decode cX4_readInto 20 = .ok (.iload_n 2, 1) := by decide +kernel
theorem dX4_readInto_21 : decode cX4_readInto 21 = .ok (.iaload, 1) := by decide +kernel
theorem dX4_readInto_22 : decode cX4_readInto 22 = .ok (.invokevirtual 28, 3) := by decide +kernel
theorem dX4_readInto_25 : decode cX4_readInto 25 = .ok (.ifCond .ne 5, 3) := by decide +kernel
theorem dX4_readInto_28 : decode cX4_readInto 28 = .ok (.iload_n 2, 1) := by decide +kernel
theorem dX4_readInto_29 : decode cX4_readInto 29 = .ok (.ireturn, 1) := by decide +kernel
theorem dX4_readInto_30 : decode cX4_readInto 30 = .ok (.iinc 2 1, 3) := by decide +kernel
theorem dX4_readInto_33 : decode cX4_readInto 33 = .ok (.goto (-27), 3) := by decide +kernel
theorem dX4_readInto_36 : decode cX4_readInto 36 = .ok (.aload_n 0, 1) := by decide +kernel
theorem dX4_readInto_37 : decode cX4_readInto 37 = .ok (.getfield 15, 3) := by decide +kernel
theorem dX4_readInto_40 : decode cX4_readInto 40 = .ok (.invokestatic 32, 3) := by decide +kernel
theorem dX4_readInto_43 : decode cX4_readInto 43 = .ok (.ifCond .eq 8, 3) := by decide +kernel
theorem dX4_readInto_46 : decode cX4_readInto 46 = .ok (.bipush (-9), 2) := by decide +kernel
theorem dX4_readInto_48 : decode cX4_readInto 48 = .ok (.goto 7, 3) := by decide +kernel
theorem dX4_readInto_51 : decode cX4_readInto 51 = .ok (.aload_n 0, 1) := by decide +kernel
theorem dX4_readInto_52 : decode cX4_readInto 52 = .ok (.getfield 15, 3) := by decide +kernel
theorem dX4_readInto_55 : decode cX4_readInto 55 = .ok (.ireturn, 1) := by decide +kernel
set_option maxRecDepth 20000 in
theorem ggX5_init_X4_init : GoodIn wsX5_init wsX4_init := goodIn_r _ [31, 32, 2, 3, 33, 34, 35, 91, 92] (by decide +kernel) (by decide +kernel)
set_option maxRecDepth 20000 in
theorem gX5_init_X4_init_n11 : GoodIn wsX5_init (wsX4_init) := ggX5_init_X4_init
set_option maxRecDepth 20000 in
theorem ggX5_init_X1_init : GoodIn wsX5_init wsX1_init := goodIn_r _ [37, 38, 2, 3, 39, 40, 41, 42, 43, 33, 44, 45, 46, 47, 103, 104, 105, 106, 107, 108, 109, 110, 111] (by decide +kernel) (by decide +kernel)
set_option maxRecDepth 20000 in
theorem gX5_init_X1_init_n18 : GoodIn wsX5_init (wsX1_init) := ggX5_init_X1_init
set_option maxRecDepth 20000 in
theorem ggX5_init_X3_init : GoodIn wsX5_init wsX3_init := goodIn_r _ [50, 51, 2, 3, 33, 52, 53, 54, 55, 56, 57, 58, 59, 60, 61, 62, 63, 15, 64, 65, 66, 67, 68, 69, 70, 71, 72, 73, 74, 75, 10, 76, 43, 112, 113, 114, 115, 116, 117, 118, 119, 120, 103, 104, 105, 106, 107, 108, 109, 110, 111] (by decide +kernel) (by decide +kernel)
set_option maxRecDepth 20000 in
theorem gX5_init_X3_init : GoodIn wsX5_init (wsX3_init) := ggX5_init_X3_init
set_option maxRecDepth 20000 in
theorem ggX5_init_X0_init : GoodIn wsX5_init wsX0_init := goodIn_r _ [79, 80, 2, 3, 81, 82, 83, 14, 15, 84, 49, 50, 51, 33, 52, 53, 54, 55, 56, 57, 58, 59, 60, 61, 62, 63, 64, 65, 66, 67, 68, 69, 70, 71, 72, 73, 74, 75, 10, 76, 43, 121, 122, 112, 113, 114, 115, 116, 117, 118, 119, 120, 103, 104, 105, 106, 107, 108, 109, 110, 111] (by decide +kernel) (by decide +kernel)
set_option maxRecDepth 20000 in
theorem gX5_init_X0_init : GoodIn wsX5_init (wsX0_init) := ggX5_init_X0_init
set_option maxRecDepth 20000 in
theorem ggX5_init_X2_init : GoodIn wsX5_init wsX2_init := goodIn_r _ [86, 87, 2, 3, 33, 88, 89, 90, 123, 124, 125] (by decide +kernel) (by decide +kernel)
set_option maxRecDepth 20000 in
theorem gX5_init_X2_init_n55 : GoodIn wsX5_init (wsX2_init) := ggX5_init_X2_init
theorem dX5_init_0 : decode cX5_init 0 = .ok (.aload_n 0, 1) := by decide +kernel
theorem dX5_init_1 : decode cX5_init 1 = .ok (.invokespecial 3, 3) := by decide +kernel
theorem dX5_init_4 : decode cX5_init 4 = .ok (.aload_n 0, 1) := by decide +kernel
theorem dX5_init_5 : decode cX5_init 5 = .ok (.new 9, 3) := by decide +kernel
theorem dX5_init_8 : decode cX5_init 8 = .ok (.dup, 1) := by decide +kernel
theorem dX5_init_9 : decode cX5_init 9 = .ok (.invokespecial 11, 3) := by decide +kernel
theorem dX5_init_12 : decode cX5_init 12 = .ok (.putfield 12, 3) := by decide +kernel
theorem dX5_init_15 : decode cX5_init 15 = .ok (.aload_n 0, 1) := by decide +kernel
theorem dX5_init_16 : decode cX5_init 16 = .ok (.new 16, 3) := by decide +kernel
theorem dX5_init_19 : decode cX5_init 19 = .ok (.dup, 1) := by decide +kernel
theorem dX5_init_20 : decode cX5_init 20 = .ok (.invokespecial 18, 3) := by decide +kernel
theorem dX5_init_23 : decode cX5_init 23 = .ok (.putfield 19, 3) := by decide +kernel
theorem dX5_init_26 : decode cX5_init 26 = .ok (.aload_n 0, 1) := by decide +kernel
theorem dX5_init_27 : decode cX5_init 27 = .ok (.new 16, 3) := by decide +kernel
theorem dX5_init_30 : decode cX5_init 30 = .ok (.dup, 1) := by decide +kernel
theorem dX5_init_31 : decode cX5_init 31 = .ok (.invokespecial 18, 3) := by decide +kernel
theorem dX5_init_34 : decode cX5_init 34 = .ok (.putfield 23, 3) := by decide +kernel
theorem dX5_init_37 : decode cX5_init 37 = .ok (.aload_n 0, 1) := by decide +kernel
theorem dX5_init_38 : decode cX5_init 38 = .ok (.new 26, 3) := by decide +kernel
theorem dX5_init_41 : decode cX5_init 41 = .ok (.dup, 1) := by decide +kernel
theorem dX5_init_42 : decode cX5_init 42 = .ok (.aload_n 0, 1) := by decide +kernel
theorem dX5_init_43 : decode cX5_init 43 = .ok (.getfield 19, 3) := by decide +kernel
theorem dX5_init_46 : decode cX5_init 46 = .ok (.invokespecial 28, 3) := by decide +kernel
theorem dX5_init_49 : decode cX5_init 49 = .ok (.putfield 31, 3) := by decide +kernel
theorem dX5_init_52 : decode cX5_init 52 = .ok (.aload_n 0, 1) := by decide +kernel
theorem dX5_init_53 : decode cX5_init 53 = .ok (.new 26, 3) := by decide +kernel
theorem dX5_init_56 : decode cX5_init 56 = .ok (.dup, 1) := by decide +kernel
theorem dX5_init_57 : decode cX5_init 57 = .ok (.aload_n 0, 1) := by decide +kernel
theorem dX5_init_58 : decode cX5_init 58 = .ok (.getfield 19, 3) := by decide +kernel
theorem dX5_init_61 : decode cX5_init 61 = .ok (.invokespecial 28, 3) := by decide +kernel
theorem dX5_init_64 : decode cX5_init 64 = .ok (.putfield 35, 3) := by decide +kernel
theorem dX5_init_67 : decode cX5_init 67 = .ok (.aload_n 0, 1) := by decide +kernel
theorem dX5_init_68 : decode cX5_init 68 = .ok (.new 38, 3) := by decide +kernel
theorem dX5_init_71 : decode cX5_init 71 = .ok (.dup, 1) := by decide +kernel
theorem dX5_init_72 : decode cX5_init 72 = .ok (.aload_n 0, 1) := by decide +kernel
theorem dX5_init_73 : decode cX5_init 73 = .ok (.getfield 19, 3) := by decide +kernel
theorem dX5_init_76 : decode cX5_init 76 = .ok (.invokespecial 40, 3) := by decide +kernel
theorem dX5_init_79 : decode cX5_init 79 = .ok (.putfield 41, 3) := by decide +kernel
theorem dX5_init_82 : decode cX5_init 82 = .ok (.aload_n 0, 1) := by decide +kernel
theorem dX5_init_83 : decode cX5_init 83 = .ok (.iconst 2, 1) := by decide +kernel
theorem dX5_init_84 : decode cX5_init 84 = .ok (.anewarray 26, 3) := by decide +kernel
theorem dX5_init_87 : decode cX5_init 87 = .ok (.putfield 45, 3) := by decide +kernel
theorem dX5_init_90 : decode cX5_init 90 = .ok (.aload_n 0, 1) := by decide +kernel
theorem dX5_init_91 : decode cX5_init 91 = .ok (.iconst 2, 1) := by decide +kernel
theorem dX5_init_92 : decode cX5_init 92 = .ok (.newarray .boolean, 2) := by decide +kernel
theorem dX5_init_94 : decode cX5_init 94 = .ok (.putfield 49, 3) := by decide +kernel
theorem dX5_init_97 : decode cX5_init 97 = .ok (.aload_n 0, 1) := by decide +kernel
theorem dX5_init_98 : decode cX5_init 98 = .ok (.new 53, 3) := by decide +kernel
theorem dX5_init_101 : decode cX5_init 101 = .ok (.dup, 1) := by decide +kernel
theorem dX5_init_102 : decode cX5_init 102 = .ok (.invokespecial 55, 3) := by decide +kernel
theorem dX5_init_105 : decode cX5_init 105 = .ok (.putfield 56, 3) := by decide +kernel
theorem dX5_init_108 : decode cX5_init 108 = .ok (.aload_n 0, 1) := by decide +kernel
theorem dX5_init_109 : decode cX5_init 109 = .ok (.lconst 0, 1) := by decide +kernel
theorem dX5_init_110 : decode cX5_init 110 = .ok (.putfield 60, 3) := by decide +kernel
theorem dX5_init_113 : decode cX5_init 113 = .ok (.iconst 0, 1) := by decide +kernel
theorem dX5_init_114 : decode cX5_init 114 = .ok (.istore_n 1, 1) := by decide +kernel
theorem dX5_init_115 : decode cX5_init 115 = .ok (.iload_n 1, 1) := by decide +kernel
theorem dX5_init_116 : decode cX5_init 116 = .ok (.iconst 2, 1) := by decide +kernel
theorem dX5_init_117 : decode cX5_init 117 = .ok (.if_icmp .ge 26, 3) := by decide +kernel
theorem dX5_init_120 : decode cX5_init 120 = .ok (.aload_n 0, 1) := by decide +kernel
theorem dX5_init_121 : decode cX5_init 121 = .ok (.getfield 45, 3) := by decide +kernel
theorem dX5_init_124 : decode cX5_init 124 = .ok (.iload_n 1, 1) := by decide +kernel
theorem dX5_init_125 : decode cX5_init 125 = .ok (.new 26, 3) := by decide +kernel
theorem dX5_init_128 : decode cX5_init 128 = .ok (.dup, 1) := by decide +kernel
theorem dX5_init_129 : decode cX5_init 129 = .ok (.aload_n 0, 1) := by decide +kernel
theorem dX5_init_130 : decode cX5_init 130 = .ok (.getfield 19, 3) := by decide +kernel
theorem dX5_init_133 : decode cX5_init 133 = .ok (.invokespecial 28, 3) := by decide +kernel
theorem dX5_init_136 : decode cX5_init 136 = .ok (.aastore, 1) := by decide +kernel
theorem dX5_init_137 : decode cX5_init 137 = .ok (.iinc 1 1, 3) := by decide +kernel
theorem dX5_init_140 : decode cX5_init 140 = .ok (.goto (-25), 3) := by decide +kernel
theorem dX5_init_143 : decode cX5_init 143 = .ok (.return_, 1) := by decide +kernel
set_option maxRecDepth 20000 in
theorem ggX5_write_X4_isFull : GoodIn wsX5_write wsX4_isFull := goodIn_r _ [6, 7, 24, 25] (by decide +kernel) (by decide +kernel)
set_option maxRecDepth 20000 in
theorem gX5_write_X4_isFull : GoodIn wsX5_write (wsV RX5 64 RX4 yX4_isFull wsX4_isFull) := goodIn_app (goodIn_of _ (by decide +kernel)) ggX5_write_X4_isFull
set_option maxRecDepth 20000 in
theorem ggX5_write_X4_add : GoodIn wsX5_write wsX4_add := goodIn_r _ [11, 12, 7, 13, 3, 4, 5, 6, 24, 25] (by decide +kernel) (by decide +kernel)
set_option maxRecDepth 20000 in
theorem gX5_write_X4_add : GoodIn wsX5_write (wsV RX5 68 RX4 yX4_add wsX4_add) := goodIn_app (goodIn_of _ (by decide +kernel)) ggX5_write_X4_add
theorem dX5_write_0 : decode cX5_write 0 = .ok (.iload_n 1, 1) := by decide +kernel
theorem dX5_write_1 : decode cX5_write 1 = .ok (.ifCond .lt 10, 3) := by decide +kernel
theorem dX5_write_4 : decode cX5_write 4 = .ok (.iload_n 1, 1) := by decide +kernel
theorem dX5_write_5 : decode cX5_write 5 = .ok (.sipush 255, 3) := by decide +kernel
theorem dX5_write_8 : decode cX5_write 8 = .ok (.if_icmp .le 6, 3) := by decide +kernel
theorem dX5_write_11 : decode cX5_write 11 = .ok (.bipush (-2), 2) := by decide +kernel
theorem dX5_write_13 : decode cX5_write 13 = .ok (.ireturn, 1) := by decide +kernel
theorem dX5_write_14 : decode cX5_write 14 = .ok (.aload_n 0, 1) := by decide +kernel
theorem dX5_write_15 : decode cX5_write 15 = .ok (.getfield 12, 3) := by decide +kernel
theorem dX5_write_18 : decode cX5_write 18 = .ok (.invokevirtual 64, 3) := by decide +kernel
theorem dX5_write_21 : decode cX5_write 21 = .ok (.ifCond .eq 6, 3) := by decide +kernel
theorem dX5_write_24 : decode cX5_write 24 = .ok (.bipush (-4), 2) := by decide +kernel
theorem dX5_write_26 : decode cX5_write 26 = .ok (.ireturn, 1) := by decide +kernel
theorem dX5_write_27 : decode cX5_write 27 = .ok (.aload_n 0, 1) := by decide +kernel
theorem dX5_write_28 : decode cX5_write 28 = .ok (.getfield 12, 3) := by decide +kernel
theorem dX5_write_31 : decode cX5_write 31 = .ok (.iload_n 1, 1) := by decide +kernel
theorem dX5_write_32 : decode cX5_write 32 = .ok (.invokevirtual 68, 3) := by decide +kernel
theorem dX5_write_35 : decode cX5_write 35 = .ok (.ireturn, 1) := by decide +kernel
set_option maxRecDepth 20000 in
theorem ggX5_wipe_X4_clear : GoodIn wsX5_wipe wsX4_clear := goodIn_r _ [6, 7, 18, 19] (by decide +kernel) (by decide +kernel)
set_option maxRecDepth 20000 in
theorem gX5_wipe_X4_clear : GoodIn wsX5_wipe (wsV RX5 72 RX4 yX4_clear wsX4_clear) := goodIn_app (goodIn_of _ (by decide +kernel)) ggX5_wipe_X4_clear
theorem dX5_wipe_0 : decode cX5_wipe 0 = .ok (.aload_n 0, 1) := by decide +kernel
theorem dX5_wipe_1 : decode cX5_wipe 1 = .ok (.getfield 12, 3) := by decide +kernel
theorem dX5_wipe_4 : decode cX5_wipe 4 = .ok (.invokevirtual 72, 3) := by decide +kernel
theorem dX5_wipe_7 : decode cX5_wipe 7 = .ok (.ireturn, 1) := by decide +kernel
set_option maxRecDepth 20000 in
theorem ggX5_fault_X4_readInto : GoodIn wsX5_fault wsX4_readInto := goodIn_r _ [7, 8, 9, 10, 11, 12, 13, 14, 15, 16, 17, 18, 19, 20, 21, 22, 23, 24, 25, 26, 27, 28, 29, 30, 31, 32, 33, 34, 35, 36, 37, 38, 39, 40, 41, 42, 43, 44, 45, 46, 47, 48, 49, 50, 51, 52, 53, 54, 55, 56, 67, 68, 69, 70, 71, 72, 73, 74, 75, 76, 77] (by decide +kernel) (by decide +kernel)
set_option maxRecDepth 20000 in
theorem gX5_fault_X4_readInto : GoodIn wsX5_fault (wsV RX5 76 RX4 yX4_readInto wsX4_readInto) := goodIn_app (goodIn_of _ (by decide +kernel)) ggX5_fault_X4_readInto
theorem dX5_fault_0 : decode cX5_fault 0 = .ok (.aload_n 0, 1) := by decide +kernel
theorem dX5_fault_1 : decode cX5_fault 1 = .ok (.getfield 12, 3) := by decide +kernel
theorem dX5_fault_4 : decode cX5_fault 4 = .ok (.aload_n 0, 1) := by decide +kernel
theorem dX5_fault_5 : decode cX5_fault 5 = .ok (.getfield 23, 3) := by decide +kernel
theorem dX5_fault_8 : decode cX5_fault 8 = .ok (.invokevirtual 76, 3) := by decide +kernel
theorem dX5_fault_11 : decode cX5_fault 11 = .ok (.ireturn, 1) := by decide +kernel
set_option maxRecDepth 20000 in
theorem ggX5_net_X4_readInto : GoodIn wsX5_net wsX4_readInto := goodIn_r _ [11, 12, 13, 14, 15, 16, 17, 18, 19, 20, 21, 22, 23, 24, 25, 26, 27, 28, 29, 30, 31, 32, 33, 34, 35, 36, 37, 38, 39, 40, 41, 42, 43, 44, 45, 46, 47, 48, 49, 50, 51, 52, 53, 54, 55, 56, 57, 58, 59, 60, 117, 118, 108, 109, 110, 111, 112, 113, 114, 115, 116] (by decide +kernel) (by decide +kernel)
set_option maxRecDepth 20000 in
theorem gX5_net_X4_readInto : GoodIn wsX5_net (wsV RX5 76 RX4 yX4_readInto wsX4_readInto) := goodIn_app (goodIn_of _ (by decide +kernel)) ggX5_net_X4_readInto
set_option maxRecDepth 20000 in
theorem ggX5_net_X1_become : GoodIn wsX5_net wsX1_become := goodIn_r _ [64, 30, 31, 32, 33, 19, 54, 65, 66, 67, 68, 20, 108, 109, 110, 111, 112, 113, 114, 115, 116] (by decide +kernel) (by decide +kernel)
set_option maxRecDepth 20000 in
theorem gX5_net_X1_become : GoodIn wsX5_net (wsV RX5 80 RX1 yX1_become wsX1_become) := goodIn_app (goodIn_of _ (by decide +kernel)) ggX5_net_X1_become
set_option maxRecDepth 20000 in
theorem ggX5_net_X3_begin : GoodIn wsX5_net wsX3_begin := goodIn_r _ [73, 74, 75, 76, 77, 78, 79, 80, 81, 82, 83, 84, 85, 86, 87, 23, 24, 25, 88, 89, 90, 17, 91, 19, 119, 120, 121, 122, 123, 124, 125, 126, 127, 108, 109, 110, 111, 112, 113, 114, 115, 116] (by decide +kernel) (by decide +kernel)
set_option maxRecDepth 20000 in
theorem gX5_net_X3_begin : GoodIn wsX5_net (wsV RX5 90 RX3 yX3_begin wsX3_begin) := goodIn_app (goodIn_of _ (by decide +kernel)) ggX5_net_X3_begin
set_option maxRecDepth 20000 in
theorem ggX5_net_X0_clear : GoodIn wsX5_net wsX0_clear := goodIn_r _ [96, 97, 128, 129] (by decide +kernel) (by decide +kernel)
set_option maxRecDepth 20000 in
theorem gX5_net_X0_clear : GoodIn wsX5_net (wsV RX5 94 RX0 yX0_clear wsX0_clear) := goodIn_app (goodIn_of _ (by decide +kernel)) ggX5_net_X0_clear
theorem dX5_net_0 : decode cX5_net 0 = .ok (.aload_n 0, 1) := by decide +kernel
theorem dX5_net_1 : decode cX5_net 1 = .ok (.getfield 12, 3) := by decide +kernel
theorem dX5_net_4 : decode cX5_net 4 = .ok (.aload_n 0, 1) := by decide +kernel
theorem dX5_net_5 : decode cX5_net 5 = .ok (.getfield 23, 3) := by decide +kernel
theorem dX5_net_8 : decode cX5_net 8 = .ok (.invokevirtual 76, 3) := by decide +kernel
theorem dX5_net_11 : decode cX5_net 11 = .ok (.bipush (-9), 2) := by decide +kernel
theorem dX5_net_13 : decode cX5_net 13 = .ok (.if_icmp .eq 6, 3) := by decide +kernel
theorem dX5_net_16 : decode cX5_net 16 = .ok (.bipush (-3), 2) := by decide +kernel
theorem dX5_net_18 : decode cX5_net 18 = .ok (.ireturn, 1) := by decide +kernel
theorem dX5_net_19 : decode cX5_net 19 = .ok (.aload_n 0, 1) := by decide +kernel
theorem dX5_net_20 : decode cX5_net 20 = .ok (.getfield 19, 3) := by decide +kernel
theorem dX5_net_23 : decode cX5_net 23 = .ok (.aload_n 0, 1) := by decide +kernel
theorem dX5_net_24 : decode cX5_net 24 = .ok (.getfield 23, 3) := by decide +kernel
theorem dX5_net_27 : decode cX5_net 27 = .ok (.invokevirtual 80, 3) := by decide +kernel
theorem dX5_net_30 : decode cX5_net 30 = .ok (.aload_n 0, 1) := by decide +kernel
theorem dX5_net_31 : decode cX5_net 31 = .ok (.getfield 31, 3) := by decide +kernel
theorem dX5_net_34 : decode cX5_net 34 = .ok (.aload_n 0, 1) := by decide +kernel
theorem dX5_net_35 : decode cX5_net 35 = .ok (.getfield 19, 3) := by decide +kernel
theorem dX5_net_38 : decode cX5_net 38 = .ok (.getfield 83, 3) := by decide +kernel
theorem dX5_net_41 : decode cX5_net 41 = .ok (.aload_n 0, 1) := by decide +kernel
theorem dX5_net_42 : decode cX5_net 42 = .ok (.getfield 19, 3) := by decide +kernel
theorem dX5_net_45 : decode cX5_net 45 = .ok (.getfield 87, 3) := by decide +kernel
theorem dX5_net_48 : decode cX5_net 48 = .ok (.invokevirtual 90, 3) := by decide +kernel
theorem dX5_net_51 : decode cX5_net 51 = .ok (.aload_n 0, 1) := by decide +kernel
theorem dX5_net_52 : decode cX5_net 52 = .ok (.getfield 41, 3) := by decide +kernel
theorem dX5_net_55 : decode cX5_net 55 = .ok (.invokevirtual 94, 3) := by decide +kernel
theorem dX5_net_58 : decode cX5_net 58 = .ok (.iconst 0, 1) := by decide +kernel
theorem dX5_net_59 : decode cX5_net 59 = .ok (.istore_n 1, 1) := by decide +kernel
theorem dX5_net_60 : decode cX5_net 60 = .ok (.iload_n 1, 1) := by decide +kernel
theorem dX5_net_61 : decode cX5_net 61 = .ok (.iconst 2, 1) := by decide +kernel
theorem dX5_net_62 : decode cX5_net 62 = .ok (.if_icmp .ge 16, 3) := by decide +kernel
theorem dX5_net_65 : decode cX5_net 65 = .ok (.aload_n 0, 1) := by decide +kernel
theorem dX5_net_66 : decode cX5_net 66 = .ok (.getfield 49, 3) := by decide +kernel
theorem dX5_net_69 : decode cX5_net 69 = .ok (.iload_n 1, 1) := by decide +kernel
theorem dX5_net_70 : decode cX5_net 70 = .ok (.iconst 0, 1) := by decide +kernel
theorem dX5_net_71 : decode cX5_net 71 = .ok (.bastore, 1) := by decide +kernel
theorem dX5_net_72 : decode cX5_net 72 = .ok (.iinc 1 1, 3) := by decide +kernel
theorem dX5_net_75 : decode cX5_net 75 = .ok (.goto (-15), 3) := by decide +kernel
theorem dX5_net_78 : decode cX5_net 78 = .ok (.aload_n 0, 1) := by decide +kernel
theorem dX5_net_79 : decode cX5_net 79 = .ok (.getfield 19, 3) := by decide +kernel
theorem dX5_net_82 : decode cX5_net 82 = .ok (.getfield 96, 3) := by decide +kernel
theorem dX5_net_85 : decode cX5_net 85 = .ok (.ireturn, 1) := by decide +kernel
set_option maxRecDepth 20000 in
theorem ggX5_edge_X1_isEdge : GoodIn wsX5_edge wsX1_isEdge := goodIn_r _ [7, 8, 52, 53, 54, 55, 56, 57, 58, 59, 60] (by decide +kernel) (by decide +kernel)
set_option maxRecDepth 20000 in
theorem gX5_edge_X1_isEdge : GoodIn wsX5_edge (wsV RX5 99 RX1 yX1_isEdge wsX1_isEdge) := goodIn_app (goodIn_of _ (by decide +kernel)) ggX5_edge_X1_isEdge
set_option maxRecDepth 20000 in
theorem ggX5_edge_X1_lesserEnd : GoodIn wsX5_edge wsX1_lesserEnd := goodIn_r _ [12, 13, 14, 4, 5, 6, 7, 8, 15, 16, 17, 52, 53, 54, 55, 56, 57, 58, 59, 60] (by decide +kernel) (by decide +kernel)
set_option maxRecDepth 20000 in
theorem gX5_edge_X1_lesserEnd : GoodIn wsX5_edge (wsV RX5 103 RX1 yX1_lesserEnd wsX1_lesserEnd) := goodIn_app (goodIn_of _ (by decide +kernel)) ggX5_edge_X1_lesserEnd
set_option maxRecDepth 20000 in
theorem ggX5_edge_X1_greaterEnd : GoodIn wsX5_edge wsX1_greaterEnd := goodIn_r _ [21, 14, 4, 5, 6, 7, 8, 22, 10, 11, 12, 13, 15, 16, 17, 23, 24, 25, 26, 52, 53, 54, 55, 56, 57, 58, 59, 60] (by decide +kernel) (by decide +kernel)
set_option maxRecDepth 20000 in
theorem gX5_edge_X1_greaterEnd : GoodIn wsX5_edge (wsV RX5 106 RX1 yX1_greaterEnd wsX1_greaterEnd) := goodIn_app (goodIn_of _ (by decide +kernel)) ggX5_edge_X1_greaterEnd
set_option maxRecDepth 20000 in
theorem ggX5_edge_X3_stateOf : GoodIn wsX5_edge wsX3_stateOf := goodIn_r _ [31, 32, 33, 34, 16, 35, 61, 62, 63, 64, 65, 66, 67, 68, 69] (by decide +kernel) (by decide +kernel)
set_option maxRecDepth 20000 in
theorem gX5_edge_X3_stateOf : GoodIn wsX5_edge (wsV RX5 109 RX3 yX3_stateOf wsX3_stateOf) := goodIn_app (goodIn_of _ (by decide +kernel)) ggX5_edge_X3_stateOf
set_option maxRecDepth 20000 in
theorem ggX5_edge_X3_whoIsOutThrough : GoodIn wsX5_edge wsX3_whoIsOutThrough := goodIn_r _ [39, 40, 41, 61, 62, 63, 64, 65, 66, 67, 68, 69] (by decide +kernel) (by decide +kernel)
set_option maxRecDepth 20000 in
theorem gX5_edge_X3_whoIsOutThrough : GoodIn wsX5_edge (wsV RX5 112 RX3 yX3_whoIsOutThrough wsX3_whoIsOutThrough) := goodIn_app (goodIn_of _ (by decide +kernel)) ggX5_edge_X3_whoIsOutThrough
theorem dX5_edge_0 : decode cX5_edge 0 = .ok (.aload_n 0, 1) := by decide +kernel
theorem dX5_edge_1 : decode cX5_edge 1 = .ok (.getfield 19, 3) := by decide +kernel
theorem dX5_edge_4 : decode cX5_edge 4 = .ok (.iload_n 1, 1) := by decide +kernel
theorem dX5_edge_5 : decode cX5_edge 5 = .ok (.invokevirtual 99, 3) := by decide +kernel
theorem dX5_edge_8 : decode cX5_edge 8 = .ok (.ifCond .ne 5, 3) := by decide +kernel
theorem dX5_edge_11 : decode cX5_edge 11 = .ok (.iconst (-1), 1) := by decide +kernel
theorem dX5_edge_12 : decode cX5_edge 12 = .ok (.ireturn, 1) := by decide +kernel
theorem dX5_edge_13 : decode cX5_edge 13 = .ok (.iload_n 2, 1) := by decide +kernel
theorem dX5_edge_14 : decode cX5_edge 14 = .ok (.tableswitch 66 0 3 #[30, 39, 48, 57], 30) := by decide +kernel
theorem dX5_edge_44 : decode cX5_edge 44 = .ok (.aload_n 0, 1) := by decide +kernel
theorem dX5_edge_45 : decode cX5_edge 45 = .ok (.getfield 19, 3) := by decide +kernel
theorem dX5_edge_48 : decode cX5_edge 48 = .ok (.iload_n 1, 1) := by decide +kernel
theorem dX5_edge_49 : decode cX5_edge 49 = .ok (.invokevirtual 103, 3) := by decide +kernel
theorem dX5_edge_52 : decode cX5_edge 52 = .ok (.ireturn, 1) := by decide +kernel
theorem dX5_edge_53 : decode cX5_edge 53 = .ok (.aload_n 0, 1) := by decide +kernel
theorem dX5_edge_54 : decode cX5_edge 54 = .ok (.getfield 19, 3) := by decide +kernel
theorem dX5_edge_57 : decode cX5_edge 57 = .ok (.iload_n 1, 1) := by decide +kernel
theorem dX5_edge_58 : decode cX5_edge 58 = .ok (.invokevirtual 106, 3) := by decide +kernel
theorem dX5_edge_61 : decode cX5_edge 61 = .ok (.ireturn, 1) := by decide +kernel
theorem dX5_edge_62 : decode cX5_edge 62 = .ok (.aload_n 0, 1) := by decide +kernel
theorem dX5_edge_63 : decode cX5_edge 63 = .ok (.getfield 31, 3) := by decide +kernel
theorem dX5_edge_66 : decode cX5_edge 66 = .ok (.iload_n 1, 1) := by decide +kernel
theorem dX5_edge_67 : decode cX5_edge 67 = .ok (.invokevirtual 109, 3) := by decide +kernel
theorem dX5_edge_70 : decode cX5_edge 70 = .ok (.ireturn, 1) := by decide +kernel
theorem dX5_edge_71 : decode cX5_edge 71 = .ok (.aload_n 0, 1) := by decide +kernel
theorem dX5_edge_72 : decode cX5_edge 72 = .ok (.getfield 31, 3) := by decide +kernel
theorem dX5_edge_75 : decode cX5_edge 75 = .ok (.iload_n 1, 1) := by decide +kernel
theorem dX5_edge_76 : decode cX5_edge 76 = .ok (.invokevirtual 112, 3) := by decide +kernel
theorem dX5_edge_79 : decode cX5_edge 79 = .ok (.ireturn, 1) := by decide +kernel
theorem dX5_edge_80 : decode cX5_edge 80 = .ok (.bipush (-2), 2) := by decide +kernel
theorem dX5_edge_82 : decode cX5_edge 82 = .ok (.ireturn, 1) := by decide +kernel
set_option maxRecDepth 20000 in
theorem ggX5_searcher_X3_isSearcher : GoodIn wsX5_searcher wsX3_isSearcher := goodIn_r _ [6, 7, 91, 92, 93, 94, 95, 96, 97, 98, 99] (by decide +kernel) (by decide +kernel)
set_option maxRecDepth 20000 in
theorem gX5_searcher_X3_isSearcher : GoodIn wsX5_searcher (wsV RX5 115 RX3 yX3_isSearcher wsX3_isSearcher) := goodIn_app (goodIn_of _ (by decide +kernel)) ggX5_searcher_X3_isSearcher
set_option maxRecDepth 20000 in
theorem ggX5_searcher_X3_placeOf : GoodIn wsX5_searcher wsX3_placeOf := goodIn_r _ [11, 12, 13, 3, 4, 5, 6, 7, 91, 92, 93, 94, 95, 96, 97, 98, 99] (by decide +kernel) (by decide +kernel)
set_option maxRecDepth 20000 in
theorem gX5_searcher_X3_placeOf : GoodIn wsX5_searcher (wsV RX5 118 RX3 yX3_placeOf wsX3_placeOf) := goodIn_app (goodIn_of _ (by decide +kernel)) ggX5_searcher_X3_placeOf
set_option maxRecDepth 20000 in
theorem ggX5_searcher_X3_wayOutOf : GoodIn wsX5_searcher wsX3_wayOutOf := goodIn_r _ [17, 18, 13, 3, 4, 5, 6, 7, 91, 92, 93, 94, 95, 96, 97, 98, 99] (by decide +kernel) (by decide +kernel)
set_option maxRecDepth 20000 in
theorem gX5_searcher_X3_wayOutOf : GoodIn wsX5_searcher (wsV RX5 121 RX3 yX3_wayOutOf wsX3_wayOutOf) := goodIn_app (goodIn_of _ (by decide +kernel)) ggX5_searcher_X3_wayOutOf
set_option maxRecDepth 20000 in
theorem ggX5_searcher_X3_openEdges : GoodIn wsX5_searcher wsX3_openEdges := goodIn_r _ [22, 18, 23, 24, 12, 25, 26, 27, 28, 5, 29, 13, 3, 4, 6, 7, 30, 31, 32, 33, 34, 35, 36, 37, 38, 39, 40, 41, 42, 43, 44, 45, 46, 47, 48, 49, 50, 51, 52, 53, 54, 91, 92, 93, 94, 95, 96, 97, 98, 99, 100, 101, 102, 103, 104, 105, 106, 107, 108] (by decide +kernel) (by decide +kernel)
set_option maxRecDepth 20000 in
theorem gX5_searcher_X3_openEdges : GoodIn wsX5_searcher (wsV RX5 124 RX3 yX3_openEdges wsX3_openEdges) := goodIn_app (goodIn_of _ (by decide +kernel)) ggX5_searcher_X3_openEdges
set_option maxRecDepth 20000 in
theorem ggX5_searcher_X3_cautiousEdge : GoodIn wsX5_searcher wsX3_cautiousEdge := goodIn_r _ [58, 18, 24, 12, 23, 26, 27, 28, 5, 29, 13, 3, 4, 6, 7, 30, 31, 32, 33, 34, 35, 36, 37, 38, 39, 40, 41, 42, 43, 44, 45, 49, 50, 51, 52, 53, 54, 46, 47, 48, 59, 60, 61, 62, 25, 63, 64, 65, 66, 67, 68, 69, 70, 71, 72, 73, 74, 75, 76, 77, 78, 79, 80, 91, 92, 93, 94, 95, 96, 97, 98, 99, 100, 101, 102, 103, 104, 105, 106, 107, 108] (by decide +kernel) (by decide +kernel)
set_option maxRecDepth 20000 in
theorem gX5_searcher_X3_cautiousEdge : GoodIn wsX5_searcher (wsV RX5 127 RX3 yX3_cautiousEdge wsX3_cautiousEdge) := goodIn_app (goodIn_of _ (by decide +kernel)) ggX5_searcher_X3_cautiousEdge
theorem dX5_searcher_0 : decode cX5_searcher 0 = .ok (.aload_n 0, 1) := by decide +kernel
theorem dX5_searcher_1 : decode cX5_searcher 1 = .ok (.getfield 31, 3) := by decide +kernel
theorem dX5_searcher_4 : decode cX5_searcher 4 = .ok (.iload_n 1, 1) := by decide +kernel
theorem dX5_searcher_5 : decode cX5_searcher 5 = .ok (.invokevirtual 115, 3) := by decide +kernel
theorem dX5_searcher_8 : decode cX5_searcher 8 = .ok (.ifCond .ne 5, 3) := by decide +kernel
theorem dX5_searcher_11 : decode cX5_searcher 11 = .ok (.iconst (-1), 1) := by decide +kernel
theorem dX5_searcher_12 : decode cX5_searcher 12 = .ok (.ireturn, 1) := by decide +kernel
theorem dX5_searcher_13 : decode cX5_searcher 13 = .ok (.iload_n 2, 1) := by decide +kernel
theorem dX5_searcher_14 : decode cX5_searcher 14 = .ok (.tableswitch 66 0 3 #[30, 39, 48, 57], 30) := by decide +kernel
theorem dX5_searcher_44 : decode cX5_searcher 44 = .ok (.aload_n 0, 1) := by decide +kernel
theorem dX5_searcher_45 : decode cX5_searcher 45 = .ok (.getfield 31, 3) := by decide +kernel
theorem dX5_searcher_48 : decode cX5_searcher 48 = .ok (.iload_n 1, 1) := by decide +kernel
theorem dX5_searcher_49 : decode cX5_searcher 49 = .ok (.invokevirtual 118, 3) := by decide +kernel
theorem dX5_searcher_52 : decode cX5_searcher 52 = .ok (.ireturn, 1) := by decide +kernel
theorem dX5_searcher_53 : decode cX5_searcher 53 = .ok (.aload_n 0, 1) := by decide +kernel
theorem dX5_searcher_54 : decode cX5_searcher 54 = .ok (.getfield 31, 3) := by decide +kernel
theorem dX5_searcher_57 : decode cX5_searcher 57 = .ok (.iload_n 1, 1) := by decide +kernel
theorem dX5_searcher_58 : decode cX5_searcher 58 = .ok (.invokevirtual 121, 3) := by decide +kernel
theorem dX5_searcher_61 : decode cX5_searcher 61 = .ok (.ireturn, 1) := by decide +kernel
theorem dX5_searcher_62 : decode cX5_searcher 62 = .ok (.aload_n 0, 1) := by decide +kernel
theorem dX5_searcher_63 : decode cX5_searcher 63 = .ok (.getfield 31, 3) := by decide +kernel
theorem dX5_searcher_66 : decode cX5_searcher 66 = .ok (.iload_n 1, 1) := by decide +kernel
theorem dX5_searcher_67 : decode cX5_searcher 67 = .ok (.invokevirtual 124, 3) := by decide +kernel
theorem dX5_searcher_70 : decode cX5_searcher 70 = .ok (.ireturn, 1) := by decide +kernel
theorem dX5_searcher_71 : decode cX5_searcher 71 = .ok (.aload_n 0, 1) := by decide +kernel
theorem dX5_searcher_72 : decode cX5_searcher 72 = .ok (.getfield 31, 3) := by decide +kernel
theorem dX5_searcher_75 : decode cX5_searcher 75 = .ok (.iload_n 1, 1) := by decide +kernel
theorem dX5_searcher_76 : decode cX5_searcher 76 = .ok (.invokevirtual 127, 3) := by decide +kernel
theorem dX5_searcher_79 : decode cX5_searcher 79 = .ok (.ireturn, 1) := by decide +kernel
theorem dX5_searcher_80 : decode cX5_searcher 80 = .ok (.bipush (-2), 2) := by decide +kernel
theorem dX5_searcher_82 : decode cX5_searcher 82 = .ok (.ireturn, 1) := by decide +kernel
set_option maxRecDepth 20000 in
theorem ggX5_step_X3_isSearcher : GoodIn wsX5_step wsX3_isSearcher := goodIn_r _ [8, 9, 110, 111, 112, 113, 114, 115, 116, 117, 118] (by decide +kernel) (by decide +kernel)
set_option maxRecDepth 20000 in
theorem gX5_step_X3_isSearcher : GoodIn wsX5_step (wsV RX5 115 RX3 yX3_isSearcher wsX3_isSearcher) := goodIn_app (goodIn_of _ (by decide +kernel)) ggX5_step_X3_isSearcher
set_option maxRecDepth 20000 in
theorem ggX5_step_X1_isEdge : GoodIn wsX5_step wsX1_isEdge := goodIn_r _ [14, 15, 119, 120, 121, 122, 123, 124, 125, 126, 127] (by decide +kernel) (by decide +kernel)
set_option maxRecDepth 20000 in
theorem gX5_step_X1_isEdge : GoodIn wsX5_step (wsV RX5 99 RX1 yX1_isEdge wsX1_isEdge) := goodIn_app (goodIn_of _ (by decide +kernel)) ggX5_step_X1_isEdge
set_option maxRecDepth 20000 in
theorem ggX5_step_X3_canGo : GoodIn wsX5_step wsX3_canGo := goodIn_r _ [19, 20, 21, 11, 12, 13, 14, 15, 22, 23, 24, 7, 25, 26, 27, 28, 29, 30, 31, 32, 33, 34, 5, 6, 8, 9, 35, 36, 37, 38, 39, 40, 41, 42, 43, 44, 45, 46, 47, 48, 49, 50, 51, 52, 53, 54, 55, 56, 57, 58, 59, 60, 110, 111, 112, 113, 114, 115, 116, 117, 118, 119, 120, 121, 122, 123, 124, 125, 126, 127] (by decide +kernel) (by decide +kernel)
set_option maxRecDepth 20000 in
theorem gX5_step_X3_canGo : GoodIn wsX5_step (wsV RX5 130 RX3 yX3_canGo wsX3_canGo) := goodIn_app (goodIn_of _ (by decide +kernel)) ggX5_step_X3_canGo
set_option maxRecDepth 20000 in
theorem ggX5_step_X0_remember : GoodIn wsX5_step wsX0_remember := goodIn_r _ [65, 66, 67, 68, 69, 70, 64, 71, 72, 73, 74, 7, 75, 28, 26, 9, 76, 77, 27, 29, 43, 128, 129, 110, 111, 112, 113, 114, 115, 116, 117, 118] (by decide +kernel) (by decide +kernel)
set_option maxRecDepth 20000 in
theorem gX5_step_X0_remember : GoodIn wsX5_step (wsV RX5 134 RX0 yX0_remember wsX0_remember) := goodIn_app (goodIn_of _ (by decide +kernel)) ggX5_step_X0_remember
set_option maxRecDepth 20000 in
theorem ggX5_step_X3_go : GoodIn wsX5_step wsX3_go := goodIn_r _ [81, 20, 28, 77, 26, 29, 30, 31, 32, 7, 33, 34, 5, 6, 8, 9, 82, 83, 84, 13, 85, 86, 87, 11, 12, 14, 15, 51, 52, 53, 88, 89, 90, 91, 43, 59, 60, 92, 93, 94, 95, 27, 76, 110, 111, 112, 113, 114, 115, 116, 117, 118, 119, 120, 121, 122, 123, 124, 125, 126, 127] (by decide +kernel) (by decide +kernel)
set_option maxRecDepth 20000 in
theorem gX5_step_X3_go : GoodIn wsX5_step (wsV RX5 138 RX3 yX3_go wsX3_go) := goodIn_app (goodIn_of _ (by decide +kernel)) ggX5_step_X3_go
set_option maxRecDepth 20000 in
theorem ggX5_step_X3_placeOf : GoodIn wsX5_step wsX3_placeOf := goodIn_r _ [99, 28, 34, 5, 6, 7, 8, 9, 110, 111, 112, 113, 114, 115, 116, 117, 118] (by decide +kernel) (by decide +kernel)
set_option maxRecDepth 20000 in
theorem gX5_step_X3_placeOf : GoodIn wsX5_step (wsV RX5 118 RX3 yX3_placeOf wsX3_placeOf) := goodIn_app (goodIn_of _ (by decide +kernel)) ggX5_step_X3_placeOf
theorem dX5_step_0 : decode cX5_step 0 = .ok (.aload_n 0, 1) := by decide +kernel
theorem dX5_step_1 : decode cX5_step 1 = .ok (.getfield 31, 3) := by decide +kernel
theorem dX5_step_4 : decode cX5_step 4 = .ok (.iload_n 1, 1) := by decide +kernel
theorem dX5_step_5 : decode cX5_step 5 = .ok (.invokevirtual 115, 3) := by decide +kernel
theorem dX5_step_8 : decode cX5_step 8 = .ok (.ifCond .eq 14, 3) := by decide +kernel
theorem dX5_step_11 : decode cX5_step 11 = .ok (.aload_n 0, 1) := by decide +kernel
theorem dX5_step_12 : decode cX5_step 12 = .ok (.getfield 19, 3) := by decide +kernel
theorem dX5_step_15 : decode cX5_step 15 = .ok (.iload_n 2, 1) := by decide +kernel
theorem dX5_step_16 : decode cX5_step 16 = .ok (.invokevirtual 99, 3) := by decide +kernel
theorem dX5_step_19 : decode cX5_step 19 = .ok (.ifCond .ne 5, 3) := by decide +kernel
theorem dX5_step_22 : decode cX5_step 22 = .ok (.iconst (-1), 1) := by decide +kernel
theorem dX5_step_23 : decode cX5_step 23 = .ok (.ireturn, 1) := by decide +kernel
theorem dX5_step_24 : decode cX5_step 24 = .ok (.aload_n 0, 1) := by decide +kernel
theorem dX5_step_25 : decode cX5_step 25 = .ok (.getfield 31, 3) := by decide +kernel
theorem dX5_step_28 : decode cX5_step 28 = .ok (.iload_n 1, 1) := by decide +kernel
theorem dX5_step_29 : decode cX5_step 29 = .ok (.iload_n 2, 1) := by decide +kernel
theorem dX5_step_30 : decode cX5_step 30 = .ok (.invokevirtual 130, 3) := by decide +kernel
theorem dX5_step_33 : decode cX5_step 33 = .ok (.ifCond .ne 6, 3) := by decide +kernel
theorem dX5_step_36 : decode cX5_step 36 = .ok (.bipush (-3), 2) := by decide +kernel
theorem dX5_step_38 : decode cX5_step 38 = .ok (.ireturn, 1) := by decide +kernel
theorem dX5_step_39 : decode cX5_step 39 = .ok (.aload_n 0, 1) := by decide +kernel
theorem dX5_step_40 : decode cX5_step 40 = .ok (.getfield 41, 3) := by decide +kernel
theorem dX5_step_43 : decode cX5_step 43 = .ok (.aload_n 0, 1) := by decide +kernel
theorem dX5_step_44 : decode cX5_step 44 = .ok (.getfield 31, 3) := by decide +kernel
theorem dX5_step_47 : decode cX5_step 47 = .ok (.invokevirtual 134, 3) := by decide +kernel
theorem dX5_step_50 : decode cX5_step 50 = .ok (.aload_n 0, 1) := by decide +kernel
theorem dX5_step_51 : decode cX5_step 51 = .ok (.getfield 31, 3) := by decide +kernel
theorem dX5_step_54 : decode cX5_step 54 = .ok (.iload_n 1, 1) := by decide +kernel
theorem dX5_step_55 : decode cX5_step 55 = .ok (.iload_n 2, 1) := by decide +kernel
theorem dX5_step_56 : decode cX5_step 56 = .ok (.invokevirtual 138, 3) := by decide +kernel
theorem dX5_step_59 : decode cX5_step 59 = .ok (.aload_n 0, 1) := by decide +kernel
theorem dX5_step_60 : decode cX5_step 60 = .ok (.getfield 31, 3) := by decide +kernel
theorem dX5_step_63 : decode cX5_step 63 = .ok (.iload_n 1, 1) := by decide +kernel
theorem dX5_step_64 : decode cX5_step 64 = .ok (.invokevirtual 118, 3) := by decide +kernel
theorem dX5_step_67 : decode cX5_step 67 = .ok (.ireturn, 1) := by decide +kernel
set_option maxRecDepth 20000 in
theorem ggX5_round_X3_living : GoodIn wsX5_round wsX3_living := goodIn_r _ [7, 8, 9, 10, 6, 11, 12, 13, 14, 15, 16, 17, 18, 19, 20, 130, 131, 132, 133, 134, 135, 136, 137, 138] (by decide +kernel) (by decide +kernel)
set_option maxRecDepth 20000 in
theorem gX5_round_X3_living : GoodIn wsX5_round (wsV RX5 141 RX3 yX3_living wsX3_living) := goodIn_app (goodIn_of _ (by decide +kernel)) ggX5_round_X3_living
set_option maxRecDepth 20000 in
theorem ggX5_round_X0_remember : GoodIn wsX5_round wsX0_remember := goodIn_r _ [25, 26, 27, 28, 29, 30, 24, 31, 32, 33, 34, 6, 35, 13, 36, 12, 37, 38, 39, 40, 41, 139, 140, 130, 131, 132, 133, 134, 135, 136, 137, 138] (by decide +kernel) (by decide +kernel)
set_option maxRecDepth 20000 in
theorem gX5_round_X0_remember : GoodIn wsX5_round (wsV RX5 134 RX0 yX0_remember wsX0_remember) := goodIn_app (goodIn_of _ (by decide +kernel)) ggX5_round_X0_remember
set_option maxRecDepth 20000 in
theorem ggX5_round_X3_playRound : GoodIn wsX5_round wsX3_playRound := goodIn_r _ [45, 12, 46, 47, 48, 49, 50, 51, 6, 52, 36, 53, 13, 39, 54, 55, 56, 57, 58, 59, 60, 61, 62, 63, 64, 65, 66, 67, 68, 69, 41, 14, 15, 16, 17, 18, 19, 20, 70, 71, 72, 73, 74, 75, 76, 77, 78, 79, 80, 81, 40, 82, 83, 84, 85, 86, 87, 88, 89, 90, 91, 92, 93, 94, 95, 96, 97, 98, 99, 100, 101, 102, 103, 38, 104, 105, 106, 107, 108, 109, 110, 111, 112, 113, 114, 115, 116, 117, 118, 119, 37, 130, 131, 132, 133, 134, 135, 136, 137, 138, 141, 142, 143, 144, 145, 146, 147, 148, 149] (by decide +kernel) (by decide +kernel)
set_option maxRecDepth 20000 in
theorem gX5_round_X3_playRound : GoodIn wsX5_round (wsV RX5 144 RX3 yX3_playRound wsX3_playRound) := goodIn_app (goodIn_of _ (by decide +kernel)) ggX5_round_X3_playRound
theorem dX5_round_0 : decode cX5_round 0 = .ok (.aload_n 0, 1) := by decide +kernel
theorem dX5_round_1 : decode cX5_round 1 = .ok (.getfield 31, 3) := by decide +kernel
theorem dX5_round_4 : decode cX5_round 4 = .ok (.invokevirtual 141, 3) := by decide +kernel
theorem dX5_round_7 : decode cX5_round 7 = .ok (.ifCond .ne 6, 3) := by decide +kernel
theorem dX5_round_10 : decode cX5_round 10 = .ok (.bipush (-3), 2) := by decide +kernel
theorem dX5_round_12 : decode cX5_round 12 = .ok (.ireturn, 1) := by decide +kernel
theorem dX5_round_13 : decode cX5_round 13 = .ok (.aload_n 0, 1) := by decide +kernel
theorem dX5_round_14 : decode cX5_round 14 = .ok (.getfield 41, 3) := by decide +kernel
theorem dX5_round_17 : decode cX5_round 17 = .ok (.aload_n 0, 1) := by decide +kernel
theorem dX5_round_18 : decode cX5_round 18 = .ok (.getfield 31, 3) := by decide +kernel
theorem dX5_round_21 : decode cX5_round 21 = .ok (.invokevirtual 134, 3) := by decide +kernel
theorem dX5_round_24 : decode cX5_round 24 = .ok (.aload_n 0, 1) := by decide +kernel
theorem dX5_round_25 : decode cX5_round 25 = .ok (.getfield 31, 3) := by decide +kernel
theorem dX5_round_28 : decode cX5_round 28 = .ok (.bipush 15, 2) := by decide +kernel
theorem dX5_round_30 : decode cX5_round 30 = .ok (.invokevirtual 144, 3) := by decide +kernel
theorem dX5_round_33 : decode cX5_round 33 = .ok (.ireturn, 1) := by decide +kernel
set_option maxRecDepth 20000 in
theorem ggX5_join_X0_remember : GoodIn wsX5_join wsX0_remember := goodIn_r _ [7, 8, 9, 10, 11, 12, 6, 13, 14, 15, 16, 17, 18, 19, 20, 21, 22, 23, 24, 25, 26, 51, 52, 42, 43, 44, 45, 46, 47, 48, 49, 50] (by decide +kernel) (by decide +kernel)
set_option maxRecDepth 20000 in
theorem gX5_join_X0_remember : GoodIn wsX5_join (wsV RX5 134 RX0 yX0_remember wsX0_remember) := goodIn_app (goodIn_of _ (by decide +kernel)) ggX5_join_X0_remember
set_option maxRecDepth 20000 in
theorem ggX5_join_X3_addSearcher : GoodIn wsX5_join wsX3_addSearcher := goodIn_r _ [30, 21, 19, 31, 20, 42, 43, 44, 45, 46, 47, 48, 49, 50, 53, 54, 55, 56, 57, 58, 59, 60, 61] (by decide +kernel) (by decide +kernel)
set_option maxRecDepth 20000 in
theorem gX5_join_X3_addSearcher : GoodIn wsX5_join (wsV RX5 148 RX3 yX3_addSearcher wsX3_addSearcher) := goodIn_app (goodIn_of _ (by decide +kernel)) ggX5_join_X3_addSearcher
theorem dX5_join_0 : decode cX5_join 0 = .ok (.aload_n 0, 1) := by decide +kernel
theorem dX5_join_1 : decode cX5_join 1 = .ok (.getfield 31, 3) := by decide +kernel
theorem dX5_join_4 : decode cX5_join 4 = .ok (.getfield 147, 3) := by decide +kernel
theorem dX5_join_7 : decode cX5_join 7 = .ok (.iconst 4, 1) := by decide +kernel
theorem dX5_join_8 : decode cX5_join 8 = .ok (.if_icmp .lt 6, 3) := by decide +kernel
theorem dX5_join_11 : decode cX5_join 11 = .ok (.bipush (-4), 2) := by decide +kernel
theorem dX5_join_13 : decode cX5_join 13 = .ok (.ireturn, 1) := by decide +kernel
theorem dX5_join_14 : decode cX5_join 14 = .ok (.aload_n 0, 1) := by decide +kernel
theorem dX5_join_15 : decode cX5_join 15 = .ok (.getfield 41, 3) := by decide +kernel
theorem dX5_join_18 : decode cX5_join 18 = .ok (.aload_n 0, 1) := by decide +kernel
theorem dX5_join_19 : decode cX5_join 19 = .ok (.getfield 31, 3) := by decide +kernel
theorem dX5_join_22 : decode cX5_join 22 = .ok (.invokevirtual 134, 3) := by decide +kernel
theorem dX5_join_25 : decode cX5_join 25 = .ok (.aload_n 0, 1) := by decide +kernel
theorem dX5_join_26 : decode cX5_join 26 = .ok (.getfield 31, 3) := by decide +kernel
theorem dX5_join_29 : decode cX5_join 29 = .ok (.invokevirtual 148, 3) := by decide +kernel
theorem dX5_join_32 : decode cX5_join 32 = .ok (.ireturn, 1) := by decide +kernel
set_option maxRecDepth 20000 in
theorem ggX5_hide_X1_isPlace : GoodIn wsX5_hide wsX1_isPlace := goodIn_r _ [8, 9, 66, 67, 68, 69, 70, 71, 72, 73, 74] (by decide +kernel) (by decide +kernel)
set_option maxRecDepth 20000 in
theorem gX5_hide_X1_isPlace : GoodIn wsX5_hide (wsV RX5 151 RX1 yX1_isPlace wsX1_isPlace) := goodIn_app (goodIn_of _ (by decide +kernel)) ggX5_hide_X1_isPlace
set_option maxRecDepth 20000 in
theorem ggX5_hide_X3_fated : GoodIn wsX5_hide wsX3_fated := goodIn_r _ [14, 15, 16, 17, 18, 19, 13, 20, 21, 22, 57, 58, 59, 60, 61, 62, 63, 64, 65, 66, 67, 68, 69, 70, 71, 72, 73, 74] (by decide +kernel) (by decide +kernel)
set_option maxRecDepth 20000 in
theorem gX5_hide_X3_fated : GoodIn wsX5_hide (wsV RX5 155 RX3 yX3_fated wsX3_fated) := goodIn_app (goodIn_of _ (by decide +kernel)) ggX5_hide_X3_fated
set_option maxRecDepth 20000 in
theorem ggX5_hide_X5_holds : GoodIn wsX5_hide wsX5_holds := goodIn_r _ [26] (by decide +kernel) (by decide +kernel)
set_option maxRecDepth 20000 in
theorem gX5_hide_X5_holds : GoodIn wsX5_hide (va_wsS RX5 158 yX5_holds wsX5_holds) := goodIn_app (goodIn_of _ (by decide +kernel)) ggX5_hide_X5_holds
set_option maxRecDepth 20000 in
theorem ggX5_hide_X0_remember : GoodIn wsX5_hide wsX0_remember := goodIn_r _ [31, 32, 33, 34, 35, 36, 30, 37, 38, 39, 40, 13, 41, 16, 42, 15, 43, 44, 45, 46, 22, 75, 76, 57, 58, 59, 60, 61, 62, 63, 64, 65] (by decide +kernel) (by decide +kernel)
set_option maxRecDepth 20000 in
theorem gX5_hide_X0_remember : GoodIn wsX5_hide (wsV RX5 134 RX0 yX0_remember wsX0_remember) := goodIn_app (goodIn_of _ (by decide +kernel)) ggX5_hide_X0_remember
theorem dX5_hide_0 : decode cX5_hide 0 = .ok (.aload_n 0, 1) := by decide +kernel
theorem dX5_hide_1 : decode cX5_hide 1 = .ok (.getfield 19, 3) := by decide +kernel
theorem dX5_hide_4 : decode cX5_hide 4 = .ok (.iload_n 1, 1) := by decide +kernel
theorem dX5_hide_5 : decode cX5_hide 5 = .ok (.invokevirtual 151, 3) := by decide +kernel
theorem dX5_hide_8 : decode cX5_hide 8 = .ok (.ifCond .ne 5, 3) := by decide +kernel
theorem dX5_hide_11 : decode cX5_hide 11 = .ok (.iconst (-1), 1) := by decide +kernel
theorem dX5_hide_12 : decode cX5_hide 12 = .ok (.ireturn, 1) := by decide +kernel
theorem dX5_hide_13 : decode cX5_hide 13 = .ok (.aload_n 0, 1) := by decide +kernel
theorem dX5_hide_14 : decode cX5_hide 14 = .ok (.getfield 31, 3) := by decide +kernel
theorem dX5_hide_17 : decode cX5_hide 17 = .ok (.getfield 154, 3) := by decide +kernel
theorem dX5_hide_20 : decode cX5_hide 20 = .ok (.istore_n 2, 1) := by decide +kernel
theorem dX5_hide_21 : decode cX5_hide 21 = .ok (.iload_n 1, 1) := by decide +kernel
theorem dX5_hide_22 : decode cX5_hide 22 = .ok (.iload_n 2, 1) := by decide +kernel
theorem dX5_hide_23 : decode cX5_hide 23 = .ok (.if_icmp .eq 17, 3) := by decide +kernel
theorem dX5_hide_26 : decode cX5_hide 26 = .ok (.aload_n 0, 1) := by decide +kernel
theorem dX5_hide_27 : decode cX5_hide 27 = .ok (.getfield 31, 3) := by decide +kernel
theorem dX5_hide_30 : decode cX5_hide 30 = .ok (.invokevirtual 155, 3) := by decide +kernel
theorem dX5_hide_33 : decode cX5_hide 33 = .ok (.iload_n 1, 1) := by decide +kernel
theorem dX5_hide_34 : decode cX5_hide 34 = .ok (.invokestatic 158, 3) := by decide +kernel
theorem dX5_hide_37 : decode cX5_hide 37 = .ok (.ifCond .ne 6, 3) := by decide +kernel
theorem dX5_hide_40 : decode cX5_hide 40 = .ok (.bipush (-3), 2) := by decide +kernel
theorem dX5_hide_42 : decode cX5_hide 42 = .ok (.ireturn, 1) := by decide +kernel
theorem dX5_hide_43 : decode cX5_hide 43 = .ok (.aload_n 0, 1) := by decide +kernel
theorem dX5_hide_44 : decode cX5_hide 44 = .ok (.getfield 41, 3) := by decide +kernel
theorem dX5_hide_47 : decode cX5_hide 47 = .ok (.aload_n 0, 1) := by decide +kernel
theorem dX5_hide_48 : decode cX5_hide 48 = .ok (.getfield 31, 3) := by decide +kernel
theorem dX5_hide_51 : decode cX5_hide 51 = .ok (.invokevirtual 134, 3) := by decide +kernel
theorem dX5_hide_54 : decode cX5_hide 54 = .ok (.aload_n 0, 1) := by decide +kernel
theorem dX5_hide_55 : decode cX5_hide 55 = .ok (.getfield 31, 3) := by decide +kernel
theorem dX5_hide_58 : decode cX5_hide 58 = .ok (.iload_n 1, 1) := by decide +kernel
theorem dX5_hide_59 : decode cX5_hide 59 = .ok (.putfield 154, 3) := by decide +kernel
theorem dX5_hide_62 : decode cX5_hide 62 = .ok (.iload_n 2, 1) := by decide +kernel
theorem dX5_hide_63 : decode cX5_hide 63 = .ok (.ireturn, 1) := by decide +kernel
set_option maxRecDepth 20000 in
theorem ggX5_undo_X0_takeBack : GoodIn wsX5_undo wsX0_takeBack := goodIn_r _ [7, 8, 9, 10, 11, 12, 13, 14, 15, 16, 17, 18, 19, 20, 21, 22, 33, 34, 35, 36, 37, 38, 39, 40, 41, 42, 43] (by decide +kernel) (by decide +kernel)
set_option maxRecDepth 20000 in
theorem gX5_undo_X0_takeBack : GoodIn wsX5_undo (wsV RX5 164 RX0 yX0_takeBack wsX0_takeBack) := goodIn_app (goodIn_of _ (by decide +kernel)) ggX5_undo_X0_takeBack
theorem dX5_undo_0 : decode cX5_undo 0 = .ok (.aload_n 0, 1) := by decide +kernel
theorem dX5_undo_1 : decode cX5_undo 1 = .ok (.getfield 41, 3) := by decide +kernel
theorem dX5_undo_4 : decode cX5_undo 4 = .ok (.getfield 161, 3) := by decide +kernel
theorem dX5_undo_7 : decode cX5_undo 7 = .ok (.ifCond .ne 6, 3) := by decide +kernel
theorem dX5_undo_10 : decode cX5_undo 10 = .ok (.bipush (-3), 2) := by decide +kernel
theorem dX5_undo_12 : decode cX5_undo 12 = .ok (.ireturn, 1) := by decide +kernel
theorem dX5_undo_13 : decode cX5_undo 13 = .ok (.aload_n 0, 1) := by decide +kernel
theorem dX5_undo_14 : decode cX5_undo 14 = .ok (.getfield 41, 3) := by decide +kernel
theorem dX5_undo_17 : decode cX5_undo 17 = .ok (.aload_n 0, 1) := by decide +kernel
theorem dX5_undo_18 : decode cX5_undo 18 = .ok (.getfield 31, 3) := by decide +kernel
theorem dX5_undo_21 : decode cX5_undo 21 = .ok (.invokevirtual 164, 3) := by decide +kernel
theorem dX5_undo_24 : decode cX5_undo 24 = .ok (.ireturn, 1) := by decide +kernel
set_option maxRecDepth 20000 in
theorem ggX5_ask_X3_living : GoodIn wsX5_ask wsX3_living := goodIn_r _ [6, 7, 8, 9, 5, 10, 11, 12, 13, 14, 15, 16, 17, 18, 19, 159, 160, 161, 162, 163, 164, 165, 166, 167] (by decide +kernel) (by decide +kernel)
set_option maxRecDepth 20000 in
theorem gX5_ask_X3_living : GoodIn wsX5_ask (wsV RX5 141 RX3 yX3_living wsX3_living) := goodIn_app (goodIn_of _ (by decide +kernel)) ggX5_ask_X3_living
set_option maxRecDepth 20000 in
theorem ggX5_ask_X3_mayBe : GoodIn wsX5_ask wsX3_mayBe := goodIn_r _ [23, 24, 25, 159, 160, 161, 162, 163, 164, 165, 166, 167, 168, 169, 170, 171, 172, 173, 174, 175, 176] (by decide +kernel) (by decide +kernel)
set_option maxRecDepth 20000 in
theorem gX5_ask_X3_mayBe : GoodIn wsX5_ask (wsV RX5 174 RX3 yX3_mayBe wsX3_mayBe) := goodIn_app (goodIn_of _ (by decide +kernel)) ggX5_ask_X3_mayBe
set_option maxRecDepth 20000 in
theorem ggX5_ask_X3_isKnown : GoodIn wsX5_ask wsX3_isKnown := goodIn_r _ [29, 30, 21, 22, 5, 23, 24, 25, 13, 14, 15, 16, 17, 18, 19, 159, 160, 161, 162, 163, 164, 165, 166, 167, 168, 169, 170, 171, 172, 173, 174, 175, 176] (by decide +kernel) (by decide +kernel)
set_option maxRecDepth 20000 in
theorem gX5_ask_X3_isKnown : GoodIn wsX5_ask (wsV RX5 177 RX3 yX3_isKnown wsX3_isKnown) := goodIn_app (goodIn_of _ (by decide +kernel)) ggX5_ask_X3_isKnown
set_option maxRecDepth 20000 in
theorem ggX5_ask_X5_worstPlace : GoodIn wsX5_ask wsX5_worstPlace := goodIn_r _ [35, 1, 36, 37, 38, 39, 5, 40, 11, 12, 30, 21, 22, 23, 24, 25, 41, 42, 34, 43, 44, 45, 46, 47, 48, 49, 50, 51, 52, 53, 54, 55, 56, 57, 58, 59, 60, 61, 27, 28, 29, 13, 14, 15, 16, 17, 18, 19, 62, 63, 64, 65, 66, 67, 68, 69, 70, 71, 72, 73, 74, 75, 76, 77, 78, 79, 80, 81, 82, 83, 84, 85, 86, 87, 88, 89, 90, 91, 92, 93, 94, 95, 96, 97, 98, 99, 100, 101, 102, 103, 104, 105, 106, 107, 108, 109, 110, 111, 112, 113, 114, 115, 116, 117, 118, 119, 120, 121, 122, 123, 124, 125, 126, 127, 149, 150, 151, 152, 153, 154, 155, 156, 157, 158, 159, 160, 161, 162, 163, 164, 165, 166, 167, 168, 169, 170, 171, 172, 173, 174, 175, 176] (by decide +kernel) (by decide +kernel)
set_option maxRecDepth 20000 in
theorem gX5_ask_X5_worstPlace : GoodIn wsX5_ask (wsV RX5 180 RX5 yX5_worstPlace wsX5_worstPlace) := goodIn_app (goodIn_of _ (by decide +kernel)) ggX5_ask_X5_worstPlace
set_option maxRecDepth 20000 in
theorem ggX5_ask_X5_fewestSearchers : GoodIn wsX5_ask wsX5_fewestSearchers := goodIn_r _ [131, 132, 36, 133, 134, 135, 5, 136, 137, 138, 139, 140, 11, 48, 12, 24, 53, 54, 55, 56, 25, 141, 142, 143, 144, 145, 146, 147, 81, 148, 94, 57, 58, 59, 60, 61, 27, 28, 29, 30, 21, 22, 23, 13, 14, 15, 16, 17, 18, 19, 62, 63, 64, 65, 42, 34, 43, 66, 67, 68, 69, 70, 71, 72, 73, 74, 75, 76, 77, 78, 79, 80, 82, 83, 84, 85, 86, 87, 88, 89, 90, 91, 92, 93, 95, 96, 97, 98, 99, 100, 101, 102, 103, 104, 105, 106, 107, 108, 109, 110, 111, 112, 113, 114, 115, 116, 117, 118, 119, 120, 121, 122, 123, 124, 125, 126, 127, 2, 3, 4, 6, 7, 8, 9, 10, 149, 150, 151, 152, 153, 154, 155, 156, 157, 158, 168, 169, 170, 171, 172, 173, 174, 175, 176, 159, 160, 161, 162, 163, 164, 165, 166, 167] (by decide +kernel) (by decide +kernel)
set_option maxRecDepth 20000 in
theorem gX5_ask_X5_fewestSearchers : GoodIn wsX5_ask (wsV RX5 183 RX5 yX5_fewestSearchers wsX5_fewestSearchers) := goodIn_app (goodIn_of _ (by decide +kernel)) ggX5_ask_X5_fewestSearchers
set_option maxRecDepth 20000 in
theorem ggX5_ask_X3_fated : GoodIn wsX5_ask wsX3_fated := goodIn_r _ [40, 11, 12, 30, 21, 22, 5, 23, 24, 25, 159, 160, 161, 162, 163, 164, 165, 166, 167, 168, 169, 170, 171, 172, 173, 174, 175, 176] (by decide +kernel) (by decide +kernel)
set_option maxRecDepth 20000 in
theorem gX5_ask_X3_fated : GoodIn wsX5_ask (wsV RX5 155 RX3 yX3_fated wsX3_fated) := goodIn_app (goodIn_of _ (by decide +kernel)) ggX5_ask_X3_fated
theorem dX5_ask_0 : decode cX5_ask 0 = .ok (.iload_n 1, 1) := by decide +kernel
theorem dX5_ask_1 : decode cX5_ask 1 = .ok (.tableswitch 113 0 7 #[47, 55, 63, 71, 79, 95, 100, 105], 47) := by decide +kernel
theorem dX5_ask_48 : decode cX5_ask 48 = .ok (.aload_n 0, 1) := by decide +kernel
theorem dX5_ask_49 : decode cX5_ask 49 = .ok (.getfield 31, 3) := by decide +kernel
theorem dX5_ask_52 : decode cX5_ask 52 = .ok (.invokevirtual 141, 3) := by decide +kernel
theorem dX5_ask_55 : decode cX5_ask 55 = .ok (.ireturn, 1) := by decide +kernel
theorem dX5_ask_56 : decode cX5_ask 56 = .ok (.aload_n 0, 1) := by decide +kernel
theorem dX5_ask_57 : decode cX5_ask 57 = .ok (.getfield 31, 3) := by decide +kernel
theorem dX5_ask_60 : decode cX5_ask 60 = .ok (.getfield 168, 3) := by decide +kernel
theorem dX5_ask_63 : decode cX5_ask 63 = .ok (.ireturn, 1) := by decide +kernel
theorem dX5_ask_64 : decode cX5_ask 64 = .ok (.aload_n 0, 1) := by decide +kernel
theorem dX5_ask_65 : decode cX5_ask 65 = .ok (.getfield 31, 3) := by decide +kernel
theorem dX5_ask_68 : decode cX5_ask 68 = .ok (.getfield 171, 3) := by decide +kernel
theorem dX5_ask_71 : decode cX5_ask 71 = .ok (.ireturn, 1) := by decide +kernel
theorem dX5_ask_72 : decode cX5_ask 72 = .ok (.aload_n 0, 1) := by decide +kernel
theorem dX5_ask_73 : decode cX5_ask 73 = .ok (.getfield 31, 3) := by decide +kernel
theorem dX5_ask_76 : decode cX5_ask 76 = .ok (.invokevirtual 174, 3) := by decide +kernel
theorem dX5_ask_79 : decode cX5_ask 79 = .ok (.ireturn, 1) := by decide +kernel
theorem dX5_ask_80 : decode cX5_ask 80 = .ok (.aload_n 0, 1) := by decide +kernel
theorem dX5_ask_81 : decode cX5_ask 81 = .ok (.getfield 31, 3) := by decide +kernel
theorem dX5_ask_84 : decode cX5_ask 84 = .ok (.invokevirtual 177, 3) := by decide +kernel
theorem dX5_ask_87 : decode cX5_ask 87 = .ok (.ifCond .eq 7, 3) := by decide +kernel
theorem dX5_ask_90 : decode cX5_ask 90 = .ok (.iconst 1, 1) := by decide +kernel
theorem dX5_ask_91 : decode cX5_ask 91 = .ok (.goto 4, 3) := by decide +kernel
theorem dX5_ask_94 : decode cX5_ask 94 = .ok (.iconst 0, 1) := by decide +kernel
theorem dX5_ask_95 : decode cX5_ask 95 = .ok (.ireturn, 1) := by decide +kernel
theorem dX5_ask_96 : decode cX5_ask 96 = .ok (.aload_n 0, 1) := by decide +kernel
theorem dX5_ask_97 : decode cX5_ask 97 = .ok (.invokevirtual 180, 3) := by decide +kernel
theorem dX5_ask_100 : decode cX5_ask 100 = .ok (.ireturn, 1) := by decide +kernel
theorem dX5_ask_101 : decode cX5_ask 101 = .ok (.aload_n 0, 1) := by decide +kernel
theorem dX5_ask_102 : decode cX5_ask 102 = .ok (.invokevirtual 183, 3) := by decide +kernel
theorem dX5_ask_105 : decode cX5_ask 105 = .ok (.ireturn, 1) := by decide +kernel
theorem dX5_ask_106 : decode cX5_ask 106 = .ok (.aload_n 0, 1) := by decide +kernel
theorem dX5_ask_107 : decode cX5_ask 107 = .ok (.getfield 31, 3) := by decide +kernel
theorem dX5_ask_110 : decode cX5_ask 110 = .ok (.invokevirtual 155, 3) := by decide +kernel
theorem dX5_ask_113 : decode cX5_ask 113 = .ok (.ireturn, 1) := by decide +kernel
theorem dX5_ask_114 : decode cX5_ask 114 = .ok (.bipush (-2), 2) := by decide +kernel
theorem dX5_ask_116 : decode cX5_ask 116 = .ok (.ireturn, 1) := by decide +kernel
set_option maxRecDepth 20000 in
theorem ggX5_fate_X1_isPlace : GoodIn wsX5_fate wsX1_isPlace := goodIn_r _ [8, 9, 147, 148, 149, 150, 151, 152, 153, 154, 155] (by decide +kernel) (by decide +kernel)
set_option maxRecDepth 20000 in
theorem gX5_fate_X1_isPlace : GoodIn wsX5_fate (wsV RX5 151 RX1 yX1_isPlace wsX1_isPlace) := goodIn_app (goodIn_of _ (by decide +kernel)) ggX5_fate_X1_isPlace
set_option maxRecDepth 20000 in
theorem ggX5_fate_X3_fated : GoodIn wsX5_fate wsX3_fated := goodIn_r _ [14, 15, 16, 17, 18, 19, 13, 20, 21, 22, 138, 139, 140, 141, 142, 143, 144, 145, 146, 147, 148, 149, 150, 151, 152, 153, 154, 155] (by decide +kernel) (by decide +kernel)
set_option maxRecDepth 20000 in
theorem gX5_fate_X3_fated : GoodIn wsX5_fate (wsV RX5 155 RX3 yX3_fated wsX3_fated) := goodIn_app (goodIn_of _ (by decide +kernel)) ggX5_fate_X3_fated
set_option maxRecDepth 20000 in
theorem ggX5_fate_X5_holds : GoodIn wsX5_fate wsX5_holds := goodIn_r _ [26] (by decide +kernel) (by decide +kernel)
set_option maxRecDepth 20000 in
theorem gX5_fate_X5_holds : GoodIn wsX5_fate (va_wsS RX5 158 yX5_holds wsX5_holds) := goodIn_app (goodIn_of _ (by decide +kernel)) ggX5_fate_X5_holds
set_option maxRecDepth 20000 in
theorem ggX5_fate_X3_suppose : GoodIn wsX5_fate wsX3_suppose := goodIn_r _ [30, 31, 32, 33, 34, 13, 35, 16, 36, 15, 37, 38, 39, 22, 138, 139, 140, 141, 142, 143, 144, 145, 146] (by decide +kernel) (by decide +kernel)
set_option maxRecDepth 20000 in
theorem gX5_fate_X3_suppose : GoodIn wsX5_fate (wsV RX5 186 RX3 yX3_suppose wsX3_suppose) := goodIn_app (goodIn_of _ (by decide +kernel)) ggX5_fate_X3_suppose
set_option maxRecDepth 20000 in
theorem ggX5_fate_X3_playTillKnown : GoodIn wsX5_fate wsX3_playTillKnown := goodIn_r _ [43, 44, 45, 46, 13, 47, 17, 18, 19, 20, 21, 22, 48, 49, 50, 51, 52, 53, 54, 55, 56, 57, 58, 15, 24, 25, 26, 59, 60, 61, 62, 36, 16, 38, 63, 64, 65, 66, 67, 68, 69, 70, 71, 72, 73, 7, 74, 75, 76, 77, 78, 79, 80, 81, 39, 82, 83, 84, 85, 86, 87, 88, 89, 90, 91, 92, 93, 94, 95, 96, 97, 98, 99, 100, 101, 102, 103, 37, 104, 105, 106, 107, 108, 109, 110, 111, 112, 113, 114, 115, 116, 117, 118, 119, 31, 138, 139, 140, 141, 142, 143, 144, 145, 146, 147, 148, 149, 150, 151, 152, 153, 154, 155] (by decide +kernel) (by decide +kernel)
set_option maxRecDepth 20000 in
theorem gX5_fate_X3_playTillKnown : GoodIn wsX5_fate (wsV RX5 190 RX3 yX3_playTillKnown wsX3_playTillKnown) := goodIn_app (goodIn_of _ (by decide +kernel)) ggX5_fate_X3_playTillKnown
set_option maxRecDepth 20000 in
theorem ggX5_fate_X3_living : GoodIn wsX5_fate wsX3_living := goodIn_r _ [123, 124, 125, 126, 13, 127, 15, 16, 48, 49, 50, 51, 52, 53, 54, 138, 139, 140, 141, 142, 143, 144, 145, 146] (by decide +kernel) (by decide +kernel)
set_option maxRecDepth 20000 in
theorem gX5_fate_X3_living : GoodIn wsX5_fate (wsV RX5 141 RX3 yX3_living wsX3_living) := goodIn_app (goodIn_of _ (by decide +kernel)) ggX5_fate_X3_living
theorem dX5_fate_0 : decode cX5_fate 0 = .ok (.aload_n 0, 1) := by decide +kernel
theorem dX5_fate_1 : decode cX5_fate 1 = .ok (.getfield 19, 3) := by decide +kernel
theorem dX5_fate_4 : decode cX5_fate 4 = .ok (.iload_n 1, 1) := by decide +kernel
theorem dX5_fate_5 : decode cX5_fate 5 = .ok (.invokevirtual 151, 3) := by decide +kernel
theorem dX5_fate_8 : decode cX5_fate 8 = .ok (.ifCond .ne 5, 3) := by decide +kernel
theorem dX5_fate_11 : decode cX5_fate 11 = .ok (.iconst (-1), 1) := by decide +kernel
theorem dX5_fate_12 : decode cX5_fate 12 = .ok (.ireturn, 1) := by decide +kernel
theorem dX5_fate_13 : decode cX5_fate 13 = .ok (.iload_n 2, 1) := by decide +kernel
theorem dX5_fate_14 : decode cX5_fate 14 = .ok (.ifCond .lt 8, 3) := by decide +kernel
theorem dX5_fate_17 : decode cX5_fate 17 = .ok (.iload_n 2, 1) := by decide +kernel
theorem dX5_fate_18 : decode cX5_fate 18 = .ok (.iconst 2, 1) := by decide +kernel
theorem dX5_fate_19 : decode cX5_fate 19 = .ok (.if_icmp .le 6, 3) := by decide +kernel
theorem dX5_fate_22 : decode cX5_fate 22 = .ok (.bipush (-2), 2) := by decide +kernel
theorem dX5_fate_24 : decode cX5_fate 24 = .ok (.ireturn, 1) := by decide +kernel
theorem dX5_fate_25 : decode cX5_fate 25 = .ok (.aload_n 0, 1) := by decide +kernel
theorem dX5_fate_26 : decode cX5_fate 26 = .ok (.getfield 31, 3) := by decide +kernel
theorem dX5_fate_29 : decode cX5_fate 29 = .ok (.invokevirtual 155, 3) := by decide +kernel
theorem dX5_fate_32 : decode cX5_fate 32 = .ok (.iload_n 1, 1) := by decide +kernel
theorem dX5_fate_33 : decode cX5_fate 33 = .ok (.invokestatic 158, 3) := by decide +kernel
theorem dX5_fate_36 : decode cX5_fate 36 = .ok (.ifCond .ne 6, 3) := by decide +kernel
theorem dX5_fate_39 : decode cX5_fate 39 = .ok (.bipush (-3), 2) := by decide +kernel
theorem dX5_fate_41 : decode cX5_fate 41 = .ok (.ireturn, 1) := by decide +kernel
theorem dX5_fate_42 : decode cX5_fate 42 = .ok (.aload_n 0, 1) := by decide +kernel
theorem dX5_fate_43 : decode cX5_fate 43 = .ok (.getfield 35, 3) := by decide +kernel
theorem dX5_fate_46 : decode cX5_fate 46 = .ok (.aload_n 0, 1) := by decide +kernel
theorem dX5_fate_47 : decode cX5_fate 47 = .ok (.getfield 31, 3) := by decide +kernel
theorem dX5_fate_50 : decode cX5_fate 50 = .ok (.iload_n 1, 1) := by decide +kernel
theorem dX5_fate_51 : decode cX5_fate 51 = .ok (.invokevirtual 186, 3) := by decide +kernel
theorem dX5_fate_54 : decode cX5_fate 54 = .ok (.aload_n 0, 1) := by decide +kernel
theorem dX5_fate_55 : decode cX5_fate 55 = .ok (.getfield 35, 3) := by decide +kernel
theorem dX5_fate_58 : decode cX5_fate 58 = .ok (.invokevirtual 190, 3) := by decide +kernel
theorem dX5_fate_61 : decode cX5_fate 61 = .ok (.istore_n 3, 1) := by decide +kernel
theorem dX5_fate_62 : decode cX5_fate 62 = .ok (.iload_n 2, 1) := by decide +kernel
theorem dX5_fate_63 : decode cX5_fate 63 = .ok (.ifCond .ne 5, 3) := by decide +kernel
theorem dX5_fate_66 : decode cX5_fate 66 = .ok (.iload_n 3, 1) := by decide +kernel
theorem dX5_fate_67 : decode cX5_fate 67 = .ok (.ireturn, 1) := by decide +kernel
theorem dX5_fate_68 : decode cX5_fate 68 = .ok (.iload_n 2, 1) := by decide +kernel
theorem dX5_fate_69 : decode cX5_fate 69 = .ok (.iconst 1, 1) := by decide +kernel
theorem dX5_fate_70 : decode cX5_fate 70 = .ok (.if_icmp .ne 13, 3) := by decide +kernel
theorem dX5_fate_73 : decode cX5_fate 73 = .ok (.aload_n 0, 1) := by decide +kernel
theorem dX5_fate_74 : decode cX5_fate 74 = .ok (.getfield 35, 3) := by decide +kernel
theorem dX5_fate_77 : decode cX5_fate 77 = .ok (.getfield 168, 3) := by decide +kernel
theorem dX5_fate_80 : decode cX5_fate 80 = .ok (.goto 10, 3) := by decide +kernel
theorem dX5_fate_83 : decode cX5_fate 83 = .ok (.aload_n 0, 1) := by decide +kernel
theorem dX5_fate_84 : decode cX5_fate 84 = .ok (.getfield 35, 3) := by decide +kernel
theorem dX5_fate_87 : decode cX5_fate 87 = .ok (.invokevirtual 141, 3) := by decide +kernel
theorem dX5_fate_90 : decode cX5_fate 90 = .ok (.ireturn, 1) := by decide +kernel
set_option maxRecDepth 20000 in
theorem ggX5_judge_X3_become : GoodIn wsX5_judge wsX3_become := goodIn_r _ [9, 10, 11, 12, 13, 14, 15, 16, 17, 154, 155, 156, 157, 158, 159, 160, 161, 162] (by decide +kernel) (by decide +kernel)
set_option maxRecDepth 20000 in
theorem gX5_judge_X3_become : GoodIn wsX5_judge (wsV RX5 197 RX3 yX3_become wsX3_become) := goodIn_app (goodIn_of _ (by decide +kernel)) ggX5_judge_X3_become
set_option maxRecDepth 20000 in
theorem ggX5_judge_X3_allows : GoodIn wsX5_judge wsX3_allows := goodIn_r _ [21, 22, 23, 24, 25, 8, 26, 27, 28, 29, 30, 31, 32, 33, 34, 35, 36, 37, 38, 39, 40, 11, 15, 10, 16, 41, 42, 43, 44, 45, 46, 47, 48, 12, 49, 50, 51, 52, 53, 54, 55, 56, 17, 57, 58, 59, 60, 61, 62, 63, 64, 65, 66, 67, 68, 69, 70, 71, 72, 73, 74, 75, 76, 77, 14, 78, 79, 80, 81, 82, 83, 84, 85, 86, 87, 88, 89, 90, 91, 13, 92, 93, 94, 95, 96, 97, 98, 99, 100, 101, 102, 103, 104, 105, 106, 107, 108, 109, 110, 111, 112, 113, 114, 115, 116, 117, 118, 119, 120, 121, 122, 123, 124, 125, 126, 127, 128, 129, 130, 131, 132, 133, 134, 135, 136, 137, 138, 139, 140, 141, 142, 143, 154, 155, 156, 157, 158, 159, 160, 161, 162, 163, 164, 165, 166, 167, 168, 169, 170, 171] (by decide +kernel) (by decide +kernel)
set_option maxRecDepth 20000 in
theorem gX5_judge_X3_allows : GoodIn wsX5_judge (wsV RX5 201 RX3 yX3_allows wsX3_allows) := goodIn_app (goodIn_of _ (by decide +kernel)) ggX5_judge_X3_allows
theorem dX5_judge_0 : decode cX5_judge 0 = .ok (.iload_n 1, 1) := by decide +kernel
theorem dX5_judge_1 : decode cX5_judge 1 = .ok (.iconst 1, 1) := by decide +kernel
theorem dX5_judge_2 : decode cX5_judge 2 = .ok (.if_icmp .lt 24, 3) := by decide +kernel
theorem dX5_judge_5 : decode cX5_judge 5 = .ok (.iload_n 1, 1) := by decide +kernel
theorem dX5_judge_6 : decode cX5_judge 6 = .ok (.iconst 4, 1) := by decide +kernel
theorem dX5_judge_7 : decode cX5_judge 7 = .ok (.if_icmp .gt 19, 3) := by decide +kernel
theorem dX5_judge_10 : decode cX5_judge 10 = .ok (.lload_n 2, 1) := by decide +kernel
theorem dX5_judge_11 : decode cX5_judge 11 = .ok (.lconst 0, 1) := by decide +kernel
theorem dX5_judge_12 : decode cX5_judge 12 = .ok (.lcmp, 1) := by decide +kernel
theorem dX5_judge_13 : decode cX5_judge 13 = .ok (.ifCond .lt 13, 3) := by decide +kernel
theorem dX5_judge_16 : decode cX5_judge 16 = .ok (.lload_n 2, 1) := by decide +kernel
theorem dX5_judge_17 : decode cX5_judge 17 = .ok (.getstatic 193, 3) := by decide +kernel
theorem dX5_judge_20 : decode cX5_judge 20 = .ok (.iload_n 1, 1) := by decide +kernel
theorem dX5_judge_21 : decode cX5_judge 21 = .ok (.laload, 1) := by decide +kernel
theorem dX5_judge_22 : decode cX5_judge 22 = .ok (.lcmp, 1) := by decide +kernel
theorem dX5_judge_23 : decode cX5_judge 23 = .ok (.ifCond .lt 6, 3) := by decide +kernel
theorem dX5_judge_26 : decode cX5_judge 26 = .ok (.bipush (-2), 2) := by decide +kernel
theorem dX5_judge_28 : decode cX5_judge 28 = .ok (.ireturn, 1) := by decide +kernel
theorem dX5_judge_29 : decode cX5_judge 29 = .ok (.aload_n 0, 1) := by decide +kernel
theorem dX5_judge_30 : decode cX5_judge 30 = .ok (.getfield 35, 3) := by decide +kernel
theorem dX5_judge_33 : decode cX5_judge 33 = .ok (.aload_n 0, 1) := by decide +kernel
theorem dX5_judge_34 : decode cX5_judge 34 = .ok (.getfield 31, 3) := by decide +kernel
theorem dX5_judge_37 : decode cX5_judge 37 = .ok (.invokevirtual 197, 3) := by decide +kernel
theorem dX5_judge_40 : decode cX5_judge 40 = .ok (.iconst 0, 1) := by decide +kernel
theorem dX5_judge_41 : decode cX5_judge 41 = .ok (.istore 4, 2) := by decide +kernel
theorem dX5_judge_43 : decode cX5_judge 43 = .ok (.iload 4, 2) := by decide +kernel
theorem dX5_judge_45 : decode cX5_judge 45 = .ok (.iload_n 1, 1) := by decide +kernel
theorem dX5_judge_46 : decode cX5_judge 46 = .ok (.if_icmp .ge 59, 3) := by decide +kernel
theorem dX5_judge_49 : decode cX5_judge 49 = .ok (.lload_n 2, 1) := by decide +kernel
theorem dX5_judge_50 : decode cX5_judge 50 = .ok (.getstatic 193, 3) := by decide +kernel
theorem dX5_judge_53 : decode cX5_judge 53 = .ok (.iload_n 1, 1) := by decide +kernel
theorem dX5_judge_54 : decode cX5_judge 54 = .ok (.iconst 1, 1) := by decide +kernel
theorem dX5_judge_55 : decode cX5_judge 55 = .ok (.isub, 1) := by decide +kernel
theorem dX5_judge_56 : decode cX5_judge 56 = .ok (.iload 4, 2) := by decide +kernel
theorem dX5_judge_58 : decode cX5_judge 58 = .ok (.isub, 1) := by decide +kernel
theorem dX5_judge_59 : decode cX5_judge 59 = .ok (.laload, 1) := by decide +kernel
theorem dX5_judge_60 : decode cX5_judge 60 = .ok (.ldiv, 1) := by decide +kernel
theorem dX5_judge_61 : decode cX5_judge 61 = .ok (.ldc2_w 199, 3) := by decide +kernel
theorem dX5_judge_64 : decode cX5_judge 64 = .ok (.lrem, 1) := by decide +kernel
theorem dX5_judge_65 : decode cX5_judge 65 = .ok (.l2i, 1) := by decide +kernel
theorem dX5_judge_66 : decode cX5_judge 66 = .ok (.istore 5, 2) := by decide +kernel
theorem dX5_judge_68 : decode cX5_judge 68 = .ok (.aload_n 0, 1) := by decide +kernel
theorem dX5_judge_69 : decode cX5_judge 69 = .ok (.getfield 35, 3) := by decide +kernel
theorem dX5_judge_72 : decode cX5_judge 72 = .ok (.iload 5, 2) := by decide +kernel
theorem dX5_judge_74 : decode cX5_judge 74 = .ok (.bipush 100, 2) := by decide +kernel
theorem dX5_judge_76 : decode cX5_judge 76 = .ok (.idiv, 1) := by decide +kernel
theorem dX5_judge_77 : decode cX5_judge 77 = .ok (.iload 5, 2) := by decide +kernel
theorem dX5_judge_79 : decode cX5_judge 79 = .ok (.bipush 10, 2) := by decide +kernel
theorem dX5_judge_81 : decode cX5_judge 81 = .ok (.idiv, 1) := by decide +kernel
theorem dX5_judge_82 : decode cX5_judge 82 = .ok (.bipush 10, 2) := by decide +kernel
theorem dX5_judge_84 : decode cX5_judge 84 = .ok (.irem, 1) := by decide +kernel
theorem dX5_judge_85 : decode cX5_judge 85 = .ok (.iload 5, 2) := by decide +kernel
theorem dX5_judge_87 : decode cX5_judge 87 = .ok (.bipush 10, 2) := by decide +kernel
theorem dX5_judge_89 : decode cX5_judge 89 = .ok (.irem, 1) := by decide +kernel
theorem dX5_judge_90 : decode cX5_judge 90 = .ok (.invokevirtual 201, 3) := by decide +kernel
theorem dX5_judge_93 : decode cX5_judge 93 = .ok (.ifCond .ne 6, 3) := by decide +kernel
theorem dX5_judge_96 : decode cX5_judge 96 = .ok (.iload 4, 2) := by decide +kernel
theorem dX5_judge_98 : decode cX5_judge 98 = .ok (.ireturn, 1) := by decide +kernel
theorem dX5_judge_99 : decode cX5_judge 99 = .ok (.iinc 4 1, 3) := by decide +kernel
theorem dX5_judge_102 : decode cX5_judge 102 = .ok (.goto (-59), 3) := by decide +kernel
theorem dX5_judge_105 : decode cX5_judge 105 = .ok (.bipush (-9), 2) := by decide +kernel
theorem dX5_judge_107 : decode cX5_judge 107 = .ok (.ireturn, 1) := by decide +kernel
set_option maxRecDepth 20000 in
theorem ggX5_see_X5_isOutsideOfSeen : GoodIn wsX5_see wsX5_isOutsideOfSeen := goodIn_r _ [5] (by decide +kernel) (by decide +kernel)
set_option maxRecDepth 20000 in
theorem gX5_see_X5_isOutsideOfSeen : GoodIn wsX5_see (va_wsS RX5 205 yX5_isOutsideOfSeen wsX5_isOutsideOfSeen) := goodIn_app (goodIn_of _ (by decide +kernel)) ggX5_see_X5_isOutsideOfSeen
set_option maxRecDepth 20000 in
theorem ggX5_see_X2_add : GoodIn wsX5_see wsX2_add := goodIn_r _ [10, 11, 12, 13, 24, 25, 26] (by decide +kernel) (by decide +kernel)
set_option maxRecDepth 20000 in
theorem gX5_see_X2_add : GoodIn wsX5_see (wsV RX5 209 RX2 yX2_add wsX2_add) := goodIn_app (goodIn_of _ (by decide +kernel)) ggX5_see_X2_add
theorem dX5_see_0 : decode cX5_see 0 = .ok (.iload_n 1, 1) := by decide +kernel
theorem dX5_see_1 : decode cX5_see 1 = .ok (.iload_n 2, 1) := by decide +kernel
theorem dX5_see_2 : decode cX5_see 2 = .ok (.invokestatic 205, 3) := by decide +kernel
theorem dX5_see_5 : decode cX5_see 5 = .ok (.ifCond .eq 6, 3) := by decide +kernel
theorem dX5_see_8 : decode cX5_see 8 = .ok (.bipush (-2), 2) := by decide +kernel
theorem dX5_see_10 : decode cX5_see 10 = .ok (.ireturn, 1) := by decide +kernel
theorem dX5_see_11 : decode cX5_see 11 = .ok (.aload_n 0, 1) := by decide +kernel
theorem dX5_see_12 : decode cX5_see 12 = .ok (.getfield 56, 3) := by decide +kernel
theorem dX5_see_15 : decode cX5_see 15 = .ok (.getfield 208, 3) := by decide +kernel
theorem dX5_see_18 : decode cX5_see 18 = .ok (.bipush 6, 2) := by decide +kernel
theorem dX5_see_20 : decode cX5_see 20 = .ok (.if_icmp .lt 6, 3) := by decide +kernel
theorem dX5_see_23 : decode cX5_see 23 = .ok (.bipush (-4), 2) := by decide +kernel
theorem dX5_see_25 : decode cX5_see 25 = .ok (.ireturn, 1) := by decide +kernel
theorem dX5_see_26 : decode cX5_see 26 = .ok (.aload_n 0, 1) := by decide +kernel
theorem dX5_see_27 : decode cX5_see 27 = .ok (.getfield 56, 3) := by decide +kernel
theorem dX5_see_30 : decode cX5_see 30 = .ok (.iload_n 1, 1) := by decide +kernel
theorem dX5_see_31 : decode cX5_see 31 = .ok (.iload_n 2, 1) := by decide +kernel
theorem dX5_see_32 : decode cX5_see 32 = .ok (.invokevirtual 209, 3) := by decide +kernel
theorem dX5_see_35 : decode cX5_see 35 = .ok (.ireturn, 1) := by decide +kernel
set_option maxRecDepth 20000 in
theorem ggX5_unsee_X2_clear : GoodIn wsX5_unsee wsX2_clear := goodIn_r _ [6, 7, 18, 19, 20] (by decide +kernel) (by decide +kernel)
set_option maxRecDepth 20000 in
theorem gX5_unsee_X2_clear : GoodIn wsX5_unsee (wsV RX5 212 RX2 yX2_clear wsX2_clear) := goodIn_app (goodIn_of _ (by decide +kernel)) ggX5_unsee_X2_clear
theorem dX5_unsee_0 : decode cX5_unsee 0 = .ok (.aload_n 0, 1) := by decide +kernel
theorem dX5_unsee_1 : decode cX5_unsee 1 = .ok (.getfield 56, 3) := by decide +kernel
theorem dX5_unsee_4 : decode cX5_unsee 4 = .ok (.invokevirtual 212, 3) := by decide +kernel
theorem dX5_unsee_7 : decode cX5_unsee 7 = .ok (.ireturn, 1) := by decide +kernel
set_option maxRecDepth 20000 in
theorem ggX5_which_X3_fated : GoodIn wsX5_which wsX3_fated := goodIn_r _ [6, 7, 8, 9, 10, 11, 5, 12, 13, 14, 149, 150, 151, 152, 153, 154, 155, 156, 157, 158, 159, 160, 161, 162, 163, 164, 165, 166] (by decide +kernel) (by decide +kernel)
set_option maxRecDepth 20000 in
theorem gX5_which_X3_fated : GoodIn wsX5_which (wsV RX5 155 RX3 yX3_fated wsX3_fated) := goodIn_app (goodIn_of _ (by decide +kernel)) ggX5_which_X3_fated
set_option maxRecDepth 20000 in
theorem ggX5_which_X5_holds : GoodIn wsX5_which wsX5_holds := goodIn_r _ [18] (by decide +kernel) (by decide +kernel)
set_option maxRecDepth 20000 in
theorem gX5_which_X5_holds : GoodIn wsX5_which (va_wsS RX5 158 yX5_holds wsX5_holds) := goodIn_app (goodIn_of _ (by decide +kernel)) ggX5_which_X5_holds
set_option maxRecDepth 20000 in
theorem ggX5_which_X5_fitsAllSeen : GoodIn wsX5_which wsX5_fitsAllSeen := goodIn_r _ [22, 23, 24, 1, 25, 26, 27, 5, 28, 29, 30, 31, 32, 33, 8, 34, 7, 35, 36, 37, 14, 38, 39, 40, 41, 42, 43, 44, 45, 46, 47, 48, 49, 50, 51, 52, 16, 17, 18, 53, 54, 55, 56, 13, 57, 58, 59, 60, 61, 62, 63, 64, 65, 66, 67, 68, 9, 10, 11, 12, 69, 70, 71, 72, 73, 74, 75, 76, 77, 78, 79, 80, 81, 82, 83, 84, 85, 86, 87, 88, 89, 90, 91, 92, 93, 94, 95, 96, 97, 98, 99, 100, 101, 102, 103, 104, 105, 106, 107, 108, 109, 110, 111, 112, 113, 114, 115, 116, 117, 118, 119, 120, 121, 122, 123, 124, 125, 126, 127, 128, 129, 130, 131, 132, 133, 134, 135, 136, 137, 138, 139, 140, 141, 142, 143, 144, 145, 146, 147, 148, 167, 168, 169, 149, 150, 151, 152, 153, 154, 155, 156, 157, 158, 159, 160, 161, 162, 163, 164, 165, 166] (by decide +kernel) (by decide +kernel)
set_option maxRecDepth 20000 in
theorem gX5_which_X5_fitsAllSeen : GoodIn wsX5_which (wsV RX5 213 RX5 yX5_fitsAllSeen wsX5_fitsAllSeen) := goodIn_app (goodIn_of _ (by decide +kernel)) ggX5_which_X5_fitsAllSeen
theorem dX5_which_0 : decode cX5_which 0 = .ok (.aload_n 0, 1) := by decide +kernel
theorem dX5_which_1 : decode cX5_which 1 = .ok (.getfield 31, 3) := by decide +kernel
theorem dX5_which_4 : decode cX5_which 4 = .ok (.invokevirtual 155, 3) := by decide +kernel
theorem dX5_which_7 : decode cX5_which 7 = .ok (.istore_n 1, 1) := by decide +kernel
theorem dX5_which_8 : decode cX5_which 8 = .ok (.iconst 0, 1) := by decide +kernel
theorem dX5_which_9 : decode cX5_which 9 = .ok (.istore_n 2, 1) := by decide +kernel
theorem dX5_which_10 : decode cX5_which 10 = .ok (.iconst 0, 1) := by decide +kernel
theorem dX5_which_11 : decode cX5_which 11 = .ok (.istore_n 3, 1) := by decide +kernel
theorem dX5_which_12 : decode cX5_which 12 = .ok (.iload_n 3, 1) := by decide +kernel
theorem dX5_which_13 : decode cX5_which 13 = .ok (.bipush 8, 2) := by decide +kernel
theorem dX5_which_15 : decode cX5_which 15 = .ok (.if_icmp .ge 31, 3) := by decide +kernel
theorem dX5_which_18 : decode cX5_which 18 = .ok (.iload_n 1, 1) := by decide +kernel
theorem dX5_which_19 : decode cX5_which 19 = .ok (.iload_n 3, 1) := by decide +kernel
theorem dX5_which_20 : decode cX5_which 20 = .ok (.invokestatic 158, 3) := by decide +kernel
theorem dX5_which_23 : decode cX5_which 23 = .ok (.ifCond .eq 17, 3) := by decide +kernel
theorem dX5_which_26 : decode cX5_which 26 = .ok (.aload_n 0, 1) := by decide +kernel
theorem dX5_which_27 : decode cX5_which 27 = .ok (.iload_n 3, 1) := by decide +kernel
theorem dX5_which_28 : decode cX5_which 28 = .ok (.invokevirtual 213, 3) := by decide +kernel
theorem dX5_which_31 : decode cX5_which 31 = .ok (.ifCond .eq 9, 3) := by decide +kernel
theorem dX5_which_34 : decode cX5_which 34 = .ok (.iload_n 2, 1) := by decide +kernel
theorem dX5_which_35 : decode cX5_which 35 = .ok (.iconst 1, 1) := by decide +kernel
theorem dX5_which_36 : decode cX5_which 36 = .ok (.iload_n 3, 1) := by decide +kernel
theorem dX5_which_37 : decode cX5_which 37 = .ok (.ishl, 1) := by decide +kernel
theorem dX5_which_38 : decode cX5_which 38 = .ok (.ior, 1) := by decide +kernel
theorem dX5_which_39 : decode cX5_which 39 = .ok (.istore_n 2, 1) := by decide +kernel
theorem dX5_which_40 : decode cX5_which 40 = .ok (.iinc 3 1, 3) := by decide +kernel
theorem dX5_which_43 : decode cX5_which 43 = .ok (.goto (-31), 3) := by decide +kernel
theorem dX5_which_46 : decode cX5_which 46 = .ok (.iload_n 2, 1) := by decide +kernel
theorem dX5_which_47 : decode cX5_which 47 = .ok (.ireturn, 1) := by decide +kernel
set_option maxRecDepth 20000 in
theorem ggX5_share_X3_isSearcher : GoodIn wsX5_share wsX3_isSearcher := goodIn_r _ [7, 8, 138, 139, 140, 141, 142, 143, 144, 145, 146] (by decide +kernel) (by decide +kernel)
set_option maxRecDepth 20000 in
theorem gX5_share_X3_isSearcher : GoodIn wsX5_share (wsV RX5 115 RX3 yX3_isSearcher wsX3_isSearcher) := goodIn_app (goodIn_of _ (by decide +kernel)) ggX5_share_X3_isSearcher
set_option maxRecDepth 20000 in
theorem ggX5_share_X3_lives : GoodIn wsX5_share wsX3_lives := goodIn_r _ [12, 13, 14, 4, 5, 6, 7, 8, 138, 139, 140, 141, 142, 143, 144, 145, 146] (by decide +kernel) (by decide +kernel)
set_option maxRecDepth 20000 in
theorem gX5_share_X3_lives : GoodIn wsX5_share (wsV RX5 216 RX3 yX3_lives wsX3_lives) := goodIn_app (goodIn_of _ (by decide +kernel)) ggX5_share_X3_lives
set_option maxRecDepth 20000 in
theorem ggX5_share_X3_living : GoodIn wsX5_share wsX3_living := goodIn_r _ [18, 19, 20, 21, 6, 22, 8, 13, 23, 24, 25, 26, 27, 28, 29, 138, 139, 140, 141, 142, 143, 144, 145, 146] (by decide +kernel) (by decide +kernel)
set_option maxRecDepth 20000 in
theorem gX5_share_X3_living : GoodIn wsX5_share (wsV RX5 141 RX3 yX3_living wsX3_living) := goodIn_app (goodIn_of _ (by decide +kernel)) ggX5_share_X3_living
set_option maxRecDepth 20000 in
theorem ggX5_share_X5_gainInAllOrders : GoodIn wsX5_share wsX5_gainInAllOrders := goodIn_r _ [34, 1, 2, 35, 20, 21, 6, 22, 8, 13, 36, 24, 25, 26, 27, 28, 29, 37, 38, 39, 33, 40, 41, 42, 43, 44, 45, 46, 47, 48, 49, 50, 51, 52, 53, 54, 55, 56, 57, 58, 59, 60, 61, 62, 63, 10, 11, 12, 14, 4, 5, 7, 64, 65, 66, 67, 68, 69, 70, 71, 23, 72, 73, 74, 75, 76, 77, 78, 79, 80, 81, 82, 83, 84, 85, 86, 87, 88, 89, 90, 91, 92, 93, 94, 95, 96, 97, 98, 99, 100, 101, 102, 103, 104, 105, 106, 107, 108, 109, 110, 111, 112, 113, 114, 115, 116, 117, 118, 119, 120, 121, 128, 129, 130, 131, 132, 133, 134, 135, 136, 137, 138, 139, 140, 141, 142, 143, 144, 145, 146, 147, 148, 149, 150, 151, 152, 153, 154, 155] (by decide +kernel) (by decide +kernel)
set_option maxRecDepth 20000 in
theorem gX5_share_X5_gainInAllOrders : GoodIn wsX5_share (wsV RX5 223 RX5 yX5_gainInAllOrders wsX5_gainInAllOrders) := goodIn_app (goodIn_of _ (by decide +kernel)) ggX5_share_X5_gainInAllOrders
set_option maxRecDepth 20000 in
theorem ggX5_share_X5_fraction : GoodIn wsX5_share wsX5_fraction := goodIn_r _ [124, 125, 126, 33, 127] (by decide +kernel) (by decide +kernel)
set_option maxRecDepth 20000 in
theorem gX5_share_X5_fraction : GoodIn wsX5_share (va_wsS RX5 226 yX5_fraction wsX5_fraction) := goodIn_app (goodIn_of _ (by decide +kernel)) ggX5_share_X5_fraction
theorem dX5_share_0 : decode cX5_share 0 = .ok (.aload_n 0, 1) := by decide +kernel
theorem dX5_share_1 : decode cX5_share 1 = .ok (.getfield 31, 3) := by decide +kernel
theorem dX5_share_4 : decode cX5_share 4 = .ok (.iload_n 1, 1) := by decide +kernel
theorem dX5_share_5 : decode cX5_share 5 = .ok (.invokevirtual 115, 3) := by decide +kernel
theorem dX5_share_8 : decode cX5_share 8 = .ok (.ifCond .ne 5, 3) := by decide +kernel
theorem dX5_share_11 : decode cX5_share 11 = .ok (.iconst (-1), 1) := by decide +kernel
theorem dX5_share_12 : decode cX5_share 12 = .ok (.ireturn, 1) := by decide +kernel
theorem dX5_share_13 : decode cX5_share 13 = .ok (.aload_n 0, 1) := by decide +kernel
theorem dX5_share_14 : decode cX5_share 14 = .ok (.getfield 31, 3) := by decide +kernel
theorem dX5_share_17 : decode cX5_share 17 = .ok (.iload_n 1, 1) := by decide +kernel
theorem dX5_share_18 : decode cX5_share 18 = .ok (.invokevirtual 216, 3) := by decide +kernel
theorem dX5_share_21 : decode cX5_share 21 = .ok (.ifCond .ne 6, 3) := by decide +kernel
theorem dX5_share_24 : decode cX5_share 24 = .ok (.bipush (-3), 2) := by decide +kernel
theorem dX5_share_26 : decode cX5_share 26 = .ok (.ireturn, 1) := by decide +kernel
theorem dX5_share_27 : decode cX5_share 27 = .ok (.getstatic 219, 3) := by decide +kernel
theorem dX5_share_30 : decode cX5_share 30 = .ok (.aload_n 0, 1) := by decide +kernel
theorem dX5_share_31 : decode cX5_share 31 = .ok (.getfield 31, 3) := by decide +kernel
theorem dX5_share_34 : decode cX5_share 34 = .ok (.invokevirtual 141, 3) := by decide +kernel
theorem dX5_share_37 : decode cX5_share 37 = .ok (.iaload, 1) := by decide +kernel
theorem dX5_share_38 : decode cX5_share 38 = .ok (.istore_n 3, 1) := by decide +kernel
theorem dX5_share_39 : decode cX5_share 39 = .ok (.aload_n 0, 1) := by decide +kernel
theorem dX5_share_40 : decode cX5_share 40 = .ok (.iload_n 1, 1) := by decide +kernel
theorem dX5_share_41 : decode cX5_share 41 = .ok (.invokevirtual 223, 3) := by decide +kernel
theorem dX5_share_44 : decode cX5_share 44 = .ok (.iload_n 3, 1) := by decide +kernel
theorem dX5_share_45 : decode cX5_share 45 = .ok (.iload_n 2, 1) := by decide +kernel
theorem dX5_share_46 : decode cX5_share 46 = .ok (.invokestatic 226, 3) := by decide +kernel
theorem dX5_share_49 : decode cX5_share 49 = .ok (.ireturn, 1) := by decide +kernel
set_option maxRecDepth 20000 in
theorem ggX5_luck_X5_isOutsideOfSeen : GoodIn wsX5_luck wsX5_isOutsideOfSeen := goodIn_r _ [5] (by decide +kernel) (by decide +kernel)
set_option maxRecDepth 20000 in
theorem gX5_luck_X5_isOutsideOfSeen : GoodIn wsX5_luck (va_wsS RX5 205 yX5_isOutsideOfSeen wsX5_isOutsideOfSeen) := goodIn_app (goodIn_of _ (by decide +kernel)) ggX5_luck_X5_isOutsideOfSeen
set_option maxRecDepth 20000 in
theorem ggX5_luck_X3_fated : GoodIn wsX5_luck wsX3_fated := goodIn_r _ [10, 11, 12, 13, 14, 15, 9, 16, 17, 18, 142, 143, 144, 145, 146, 147, 148, 149, 150, 151, 152, 153, 154, 155, 156, 157, 158, 159] (by decide +kernel) (by decide +kernel)
set_option maxRecDepth 20000 in
theorem gX5_luck_X3_fated : GoodIn wsX5_luck (wsV RX5 155 RX3 yX3_fated wsX3_fated) := goodIn_app (goodIn_of _ (by decide +kernel)) ggX5_luck_X3_fated
set_option maxRecDepth 20000 in
theorem ggX5_luck_X5_holds : GoodIn wsX5_luck wsX5_holds := goodIn_r _ [21] (by decide +kernel) (by decide +kernel)
set_option maxRecDepth 20000 in
theorem gX5_luck_X5_holds : GoodIn wsX5_luck (va_wsS RX5 158 yX5_holds wsX5_holds) := goodIn_app (goodIn_of _ (by decide +kernel)) ggX5_luck_X5_holds
set_option maxRecDepth 20000 in
theorem ggX5_luck_X5_livingBehind : GoodIn wsX5_luck wsX5_livingBehind := goodIn_r _ [25, 26, 1, 27, 28, 29, 9, 30, 31, 32, 33, 34, 35, 12, 36, 11, 37, 38, 39, 18, 40, 41, 42, 43, 20, 4, 21, 44, 45, 46, 47, 17, 48, 49, 50, 51, 52, 53, 54, 55, 56, 57, 58, 59, 13, 14, 15, 16, 60, 61, 62, 63, 64, 65, 66, 67, 68, 69, 70, 71, 72, 73, 74, 75, 76, 77, 78, 79, 80, 81, 82, 83, 84, 85, 86, 87, 88, 89, 90, 91, 92, 93, 94, 95, 96, 97, 98, 99, 100, 101, 102, 103, 104, 105, 106, 107, 108, 109, 110, 111, 112, 113, 114, 115, 116, 117, 118, 119, 120, 121, 122, 123, 124, 132, 133, 134, 135, 136, 137, 138, 139, 140, 141, 142, 143, 144, 145, 146, 147, 148, 149, 150, 151, 152, 153, 154, 155, 156, 157, 158, 159] (by decide +kernel) (by decide +kernel)
set_option maxRecDepth 20000 in
theorem gX5_luck_X5_livingBehind : GoodIn wsX5_luck (wsV RX5 230 RX5 yX5_livingBehind wsX5_livingBehind) := goodIn_app (goodIn_of _ (by decide +kernel)) ggX5_luck_X5_livingBehind
set_option maxRecDepth 20000 in
theorem ggX5_luck_J6_bitCount_0f7a4 : GoodIn wsX5_luck wsJ6_bitCount_0f7a4 := goodIn_r _ [63, 64, 65, 66] (by decide +kernel) (by decide +kernel)
set_option maxRecDepth 20000 in
theorem gX5_luck_J6_bitCount_0f7a4 : GoodIn wsX5_luck (va_wsS RX5 233 yJ6_bitCount_0f7a4 wsJ6_bitCount_0f7a4) := goodIn_app (goodIn_of _ (by decide +kernel)) ggX5_luck_J6_bitCount_0f7a4
set_option maxRecDepth 20000 in
theorem ggX5_luck_X5_fraction : GoodIn wsX5_luck wsX5_fraction := goodIn_r _ [128, 129, 130, 4, 131] (by decide +kernel) (by decide +kernel)
set_option maxRecDepth 20000 in
theorem gX5_luck_X5_fraction : GoodIn wsX5_luck (va_wsS RX5 226 yX5_fraction wsX5_fraction) := goodIn_app (goodIn_of _ (by decide +kernel)) ggX5_luck_X5_fraction
theorem dX5_luck_0 : decode cX5_luck 0 = .ok (.iload_n 1, 1) := by decide +kernel
theorem dX5_luck_1 : decode cX5_luck 1 = .ok (.iload_n 2, 1) := by decide +kernel
theorem dX5_luck_2 : decode cX5_luck 2 = .ok (.invokestatic 205, 3) := by decide +kernel
theorem dX5_luck_5 : decode cX5_luck 5 = .ok (.ifCond .eq 6, 3) := by decide +kernel
theorem dX5_luck_8 : decode cX5_luck 8 = .ok (.bipush (-2), 2) := by decide +kernel
theorem dX5_luck_10 : decode cX5_luck 10 = .ok (.ireturn, 1) := by decide +kernel
theorem dX5_luck_11 : decode cX5_luck 11 = .ok (.aload_n 0, 1) := by decide +kernel
theorem dX5_luck_12 : decode cX5_luck 12 = .ok (.getfield 31, 3) := by decide +kernel
theorem dX5_luck_15 : decode cX5_luck 15 = .ok (.invokevirtual 155, 3) := by decide +kernel
theorem dX5_luck_18 : decode cX5_luck 18 = .ok (.istore 4, 2) := by decide +kernel
theorem dX5_luck_20 : decode cX5_luck 20 = .ok (.iload 4, 2) := by decide +kernel
theorem dX5_luck_22 : decode cX5_luck 22 = .ok (.ifCond .ne 6, 3) := by decide +kernel
theorem dX5_luck_25 : decode cX5_luck 25 = .ok (.bipush (-3), 2) := by decide +kernel
theorem dX5_luck_27 : decode cX5_luck 27 = .ok (.ireturn, 1) := by decide +kernel
theorem dX5_luck_28 : decode cX5_luck 28 = .ok (.iconst 0, 1) := by decide +kernel
theorem dX5_luck_29 : decode cX5_luck 29 = .ok (.istore 5, 2) := by decide +kernel
theorem dX5_luck_31 : decode cX5_luck 31 = .ok (.iconst 0, 1) := by decide +kernel
theorem dX5_luck_32 : decode cX5_luck 32 = .ok (.istore 6, 2) := by decide +kernel
theorem dX5_luck_34 : decode cX5_luck 34 = .ok (.iload 6, 2) := by decide +kernel
theorem dX5_luck_36 : decode cX5_luck 36 = .ok (.bipush 8, 2) := by decide +kernel
theorem dX5_luck_38 : decode cX5_luck 38 = .ok (.if_icmp .ge 33, 3) := by decide +kernel
theorem dX5_luck_41 : decode cX5_luck 41 = .ok (.iload 4, 2) := by decide +kernel
theorem dX5_luck_43 : decode cX5_luck 43 = .ok (.iload 6, 2) := by decide +kernel
theorem dX5_luck_45 : decode cX5_luck 45 = .ok (.invokestatic 158, 3) := by decide +kernel
theorem dX5_luck_48 : decode cX5_luck 48 = .ok (.ifCond .eq 17, 3) := by decide +kernel
theorem dX5_luck_51 : decode cX5_luck 51 = .ok (.aload_n 0, 1) := by decide +kernel
theorem dX5_luck_52 : decode cX5_luck 52 = .ok (.iload 6, 2) := by decide +kernel
theorem dX5_luck_54 : decode cX5_luck 54 = .ok (.iload_n 1, 1) := by decide +kernel
theorem dX5_luck_55 : decode cX5_luck 55 = .ok (.invokevirtual 230, 3) := by decide +kernel
theorem dX5_luck_58 : decode cX5_luck 58 = .ok (.iload_n 2, 1) := by decide +kernel
theorem dX5_luck_59 : decode cX5_luck 59 = .ok (.if_icmp .lt 6, 3) := by decide +kernel
theorem dX5_luck_62 : decode cX5_luck 62 = .ok (.iinc 5 1, 3) := by decide +kernel
theorem dX5_luck_65 : decode cX5_luck 65 = .ok (.iinc 6 1, 3) := by decide +kernel
theorem dX5_luck_68 : decode cX5_luck 68 = .ok (.goto (-34), 3) := by decide +kernel
theorem dX5_luck_71 : decode cX5_luck 71 = .ok (.iload 5, 2) := by decide +kernel
theorem dX5_luck_73 : decode cX5_luck 73 = .ok (.iload 4, 2) := by decide +kernel
theorem dX5_luck_75 : decode cX5_luck 75 = .ok (.invokestatic 233, 3) := by decide +kernel
theorem dX5_luck_78 : decode cX5_luck 78 = .ok (.iload_n 3, 1) := by decide +kernel
theorem dX5_luck_79 : decode cX5_luck 79 = .ok (.invokestatic 226, 3) := by decide +kernel
theorem dX5_luck_82 : decode cX5_luck 82 = .ok (.ireturn, 1) := by decide +kernel
theorem dX5_seed_0 : decode cX5_seed 0 = .ok (.aload_n 0, 1) := by decide +kernel
theorem dX5_seed_1 : decode cX5_seed 1 = .ok (.getfield 60, 3) := by decide +kernel
theorem dX5_seed_4 : decode cX5_seed 4 = .ok (.lstore_n 3, 1) := by decide +kernel
theorem dX5_seed_5 : decode cX5_seed 5 = .ok (.aload_n 0, 1) := by decide +kernel
theorem dX5_seed_6 : decode cX5_seed 6 = .ok (.lload_n 1, 1) := by decide +kernel
theorem dX5_seed_7 : decode cX5_seed 7 = .ok (.putfield 60, 3) := by decide +kernel
theorem dX5_seed_10 : decode cX5_seed 10 = .ok (.lload_n 3, 1) := by decide +kernel
theorem dX5_seed_11 : decode cX5_seed 11 = .ok (.lreturn, 1) := by decide +kernel
set_option maxRecDepth 20000 in
theorem ggX5_drawn_X3_become : GoodIn wsX5_drawn wsX3_become := goodIn_r _ [10, 11, 12, 13, 14, 15, 16, 17, 18, 107, 108, 109, 110, 111, 112, 113, 114, 115] (by decide +kernel) (by decide +kernel)
set_option maxRecDepth 20000 in
theorem gX5_drawn_X3_become : GoodIn wsX5_drawn (wsV RX5 197 RX3 yX3_become wsX3_become) := goodIn_app (goodIn_of _ (by decide +kernel)) ggX5_drawn_X3_become
set_option maxRecDepth 20000 in
theorem ggX5_drawn_X3_goIfPossible : GoodIn wsX5_drawn wsX3_goIfPossible := goodIn_r _ [22, 23, 24, 25, 9, 26, 27, 28, 29, 30, 31, 32, 33, 34, 35, 36, 37, 12, 16, 11, 17, 38, 39, 40, 41, 42, 43, 44, 45, 13, 46, 47, 48, 49, 50, 51, 52, 53, 18, 54, 55, 56, 57, 58, 59, 60, 61, 62, 63, 64, 65, 66, 67, 68, 69, 70, 71, 72, 73, 74, 15, 75, 76, 77, 78, 79, 80, 81, 82, 83, 84, 85, 86, 87, 88, 14, 107, 108, 109, 110, 111, 112, 113, 114, 115, 116, 117, 118, 119, 120, 121, 122, 123, 124] (by decide +kernel) (by decide +kernel)
set_option maxRecDepth 20000 in
theorem gX5_drawn_X3_goIfPossible : GoodIn wsX5_drawn (wsV RX5 242 RX3 yX3_goIfPossible wsX3_goIfPossible) := goodIn_app (goodIn_of _ (by decide +kernel)) ggX5_drawn_X3_goIfPossible
set_option maxRecDepth 20000 in
theorem ggX5_drawn_X3_living : GoodIn wsX5_drawn wsX3_living := goodIn_r _ [92, 93, 94, 95, 9, 96, 13, 11, 54, 55, 56, 57, 58, 59, 60, 107, 108, 109, 110, 111, 112, 113, 114, 115] (by decide +kernel) (by decide +kernel)
set_option maxRecDepth 20000 in
theorem gX5_drawn_X3_living : GoodIn wsX5_drawn (wsV RX5 141 RX3 yX3_living wsX3_living) := goodIn_app (goodIn_of _ (by decide +kernel)) ggX5_drawn_X3_living
theorem dX5_drawn_0 : decode cX5_drawn 0 = .ok (.iload_n 1, 1) := by decide +kernel
theorem dX5_drawn_1 : decode cX5_drawn 1 = .ok (.iconst 1, 1) := by decide +kernel
theorem dX5_drawn_2 : decode cX5_drawn 2 = .ok (.if_icmp .lt 9, 3) := by decide +kernel
theorem dX5_drawn_5 : decode cX5_drawn 5 = .ok (.iload_n 1, 1) := by decide +kernel
theorem dX5_drawn_6 : decode cX5_drawn 6 = .ok (.bipush 60, 2) := by decide +kernel
theorem dX5_drawn_8 : decode cX5_drawn 8 = .ok (.if_icmp .le 6, 3) := by decide +kernel
theorem dX5_drawn_11 : decode cX5_drawn 11 = .ok (.bipush (-2), 2) := by decide +kernel
theorem dX5_drawn_13 : decode cX5_drawn 13 = .ok (.ireturn, 1) := by decide +kernel
theorem dX5_drawn_14 : decode cX5_drawn 14 = .ok (.aload_n 0, 1) := by decide +kernel
theorem dX5_drawn_15 : decode cX5_drawn 15 = .ok (.getfield 35, 3) := by decide +kernel
theorem dX5_drawn_18 : decode cX5_drawn 18 = .ok (.aload_n 0, 1) := by decide +kernel
theorem dX5_drawn_19 : decode cX5_drawn 19 = .ok (.getfield 31, 3) := by decide +kernel
theorem dX5_drawn_22 : decode cX5_drawn 22 = .ok (.invokevirtual 197, 3) := by decide +kernel
theorem dX5_drawn_25 : decode cX5_drawn 25 = .ok (.iconst 0, 1) := by decide +kernel
theorem dX5_drawn_26 : decode cX5_drawn 26 = .ok (.istore_n 2, 1) := by decide +kernel
theorem dX5_drawn_27 : decode cX5_drawn 27 = .ok (.iconst 0, 1) := by decide +kernel
theorem dX5_drawn_28 : decode cX5_drawn 28 = .ok (.istore_n 3, 1) := by decide +kernel
theorem dX5_drawn_29 : decode cX5_drawn 29 = .ok (.iload_n 3, 1) := by decide +kernel
theorem dX5_drawn_30 : decode cX5_drawn 30 = .ok (.iload_n 1, 1) := by decide +kernel
theorem dX5_drawn_31 : decode cX5_drawn 31 = .ok (.if_icmp .ge 64, 3) := by decide +kernel
theorem dX5_drawn_34 : decode cX5_drawn 34 = .ok (.aload_n 0, 1) := by decide +kernel
theorem dX5_drawn_35 : decode cX5_drawn 35 = .ok (.aload_n 0, 1) := by decide +kernel
theorem dX5_drawn_36 : decode cX5_drawn 36 = .ok (.getfield 60, 3) := by decide +kernel
theorem dX5_drawn_39 : decode cX5_drawn 39 = .ok (.ldc2_w 238, 3) := by decide +kernel
theorem dX5_drawn_42 : decode cX5_drawn 42 = .ok (.lmul, 1) := by decide +kernel
theorem dX5_drawn_43 : decode cX5_drawn 43 = .ok (.ldc2_w 240, 3) := by decide +kernel
theorem dX5_drawn_46 : decode cX5_drawn 46 = .ok (.ladd, 1) := by decide +kernel
theorem dX5_drawn_47 : decode cX5_drawn 47 = .ok (.putfield 60, 3) := by decide +kernel
theorem dX5_drawn_50 : decode cX5_drawn 50 = .ok (.aload_n 0, 1) := by decide +kernel
theorem dX5_drawn_51 : decode cX5_drawn 51 = .ok (.getfield 60, 3) := by decide +kernel
theorem dX5_drawn_54 : decode cX5_drawn 54 = .ok (.bipush 33, 2) := by decide +kernel
theorem dX5_drawn_56 : decode cX5_drawn 56 = .ok (.lushr, 1) := by decide +kernel
theorem dX5_drawn_57 : decode cX5_drawn 57 = .ok (.l2i, 1) := by decide +kernel
theorem dX5_drawn_58 : decode cX5_drawn 58 = .ok (.istore 4, 2) := by decide +kernel
theorem dX5_drawn_60 : decode cX5_drawn 60 = .ok (.aload_n 0, 1) := by decide +kernel
theorem dX5_drawn_61 : decode cX5_drawn 61 = .ok (.getfield 35, 3) := by decide +kernel
theorem dX5_drawn_64 : decode cX5_drawn 64 = .ok (.iload 4, 2) := by decide +kernel
theorem dX5_drawn_66 : decode cX5_drawn 66 = .ok (.iconst 4, 1) := by decide +kernel
theorem dX5_drawn_67 : decode cX5_drawn 67 = .ok (.irem, 1) := by decide +kernel
theorem dX5_drawn_68 : decode cX5_drawn 68 = .ok (.iload 4, 2) := by decide +kernel
theorem dX5_drawn_70 : decode cX5_drawn 70 = .ok (.iconst 4, 1) := by decide +kernel
theorem dX5_drawn_71 : decode cX5_drawn 71 = .ok (.idiv, 1) := by decide +kernel
theorem dX5_drawn_72 : decode cX5_drawn 72 = .ok (.bipush 10, 2) := by decide +kernel
theorem dX5_drawn_74 : decode cX5_drawn 74 = .ok (.irem, 1) := by decide +kernel
theorem dX5_drawn_75 : decode cX5_drawn 75 = .ok (.invokevirtual 242, 3) := by decide +kernel
theorem dX5_drawn_78 : decode cX5_drawn 78 = .ok (.pop, 1) := by decide +kernel
theorem dX5_drawn_79 : decode cX5_drawn 79 = .ok (.iload_n 2, 1) := by decide +kernel
theorem dX5_drawn_80 : decode cX5_drawn 80 = .ok (.aload_n 0, 1) := by decide +kernel
theorem dX5_drawn_81 : decode cX5_drawn 81 = .ok (.getfield 35, 3) := by decide +kernel
theorem dX5_drawn_84 : decode cX5_drawn 84 = .ok (.invokevirtual 141, 3) := by decide +kernel
theorem dX5_drawn_87 : decode cX5_drawn 87 = .ok (.iadd, 1) := by decide +kernel
theorem dX5_drawn_88 : decode cX5_drawn 88 = .ok (.istore_n 2, 1) := by decide +kernel
theorem dX5_drawn_89 : decode cX5_drawn 89 = .ok (.iinc 3 1, 3) := by decide +kernel
theorem dX5_drawn_92 : decode cX5_drawn 92 = .ok (.goto (-63), 3) := by decide +kernel
theorem dX5_drawn_95 : decode cX5_drawn 95 = .ok (.iload_n 2, 1) := by decide +kernel
theorem dX5_drawn_96 : decode cX5_drawn 96 = .ok (.ireturn, 1) := by decide +kernel
set_option maxRecDepth 20000 in
theorem ggX5_keep_X3_become : GoodIn wsX5_keep wsX3_become := goodIn_r _ [8, 9, 10, 11, 12, 13, 14, 15, 16, 27, 28, 29, 30, 31, 32, 33, 34, 35] (by decide +kernel) (by decide +kernel)
set_option maxRecDepth 20000 in
theorem gX5_keep_X3_become : GoodIn wsX5_keep (wsV RX5 197 RX3 yX3_become wsX3_become) := goodIn_app (goodIn_of _ (by decide +kernel)) ggX5_keep_X3_become
theorem dX5_keep_0 : decode cX5_keep 0 = .ok (.iload_n 1, 1) := by decide +kernel
theorem dX5_keep_1 : decode cX5_keep 1 = .ok (.ifCond .lt 8, 3) := by decide +kernel
theorem dX5_keep_4 : decode cX5_keep 4 = .ok (.iload_n 1, 1) := by decide +kernel
theorem dX5_keep_5 : decode cX5_keep 5 = .ok (.iconst 2, 1) := by decide +kernel
theorem dX5_keep_6 : decode cX5_keep 6 = .ok (.if_icmp .lt 5, 3) := by decide +kernel
theorem dX5_keep_9 : decode cX5_keep 9 = .ok (.iconst (-1), 1) := by decide +kernel
theorem dX5_keep_10 : decode cX5_keep 10 = .ok (.ireturn, 1) := by decide +kernel
theorem dX5_keep_11 : decode cX5_keep 11 = .ok (.aload_n 0, 1) := by decide +kernel
theorem dX5_keep_12 : decode cX5_keep 12 = .ok (.getfield 45, 3) := by decide +kernel
theorem dX5_keep_15 : decode cX5_keep 15 = .ok (.iload_n 1, 1) := by decide +kernel
theorem dX5_keep_16 : decode cX5_keep 16 = .ok (.aaload, 1) := by decide +kernel
theorem dX5_keep_17 : decode cX5_keep 17 = .ok (.aload_n 0, 1) := by decide +kernel
theorem dX5_keep_18 : decode cX5_keep 18 = .ok (.getfield 31, 3) := by decide +kernel
theorem dX5_keep_21 : decode cX5_keep 21 = .ok (.invokevirtual 197, 3) := by decide +kernel
theorem dX5_keep_24 : decode cX5_keep 24 = .ok (.aload_n 0, 1) := by decide +kernel
theorem dX5_keep_25 : decode cX5_keep 25 = .ok (.getfield 49, 3) := by decide +kernel
theorem dX5_keep_28 : decode cX5_keep 28 = .ok (.iload_n 1, 1) := by decide +kernel
theorem dX5_keep_29 : decode cX5_keep 29 = .ok (.iconst 1, 1) := by decide +kernel
theorem dX5_keep_30 : decode cX5_keep 30 = .ok (.bastore, 1) := by decide +kernel
theorem dX5_keep_31 : decode cX5_keep 31 = .ok (.aload_n 0, 1) := by decide +kernel
theorem dX5_keep_32 : decode cX5_keep 32 = .ok (.getfield 31, 3) := by decide +kernel
theorem dX5_keep_35 : decode cX5_keep 35 = .ok (.getfield 168, 3) := by decide +kernel
theorem dX5_keep_38 : decode cX5_keep 38 = .ok (.ireturn, 1) := by decide +kernel
set_option maxRecDepth 20000 in
theorem ggX5_again_X3_become : GoodIn wsX5_again wsX3_become := goodIn_r _ [9, 10, 11, 12, 13, 14, 15, 16, 17, 34, 35, 36, 37, 38, 39, 40, 41, 42] (by decide +kernel) (by decide +kernel)
set_option maxRecDepth 20000 in
theorem gX5_again_X3_become : GoodIn wsX5_again (wsV RX5 197 RX3 yX3_become wsX3_become) := goodIn_app (goodIn_of _ (by decide +kernel)) ggX5_again_X3_become
set_option maxRecDepth 20000 in
theorem ggX5_again_X0_clear : GoodIn wsX5_again wsX0_clear := goodIn_r _ [22, 23, 43, 44] (by decide +kernel) (by decide +kernel)
set_option maxRecDepth 20000 in
theorem gX5_again_X0_clear : GoodIn wsX5_again (wsV RX5 94 RX0 yX0_clear wsX0_clear) := goodIn_app (goodIn_of _ (by decide +kernel)) ggX5_again_X0_clear
theorem dX5_again_0 : decode cX5_again 0 = .ok (.iload_n 1, 1) := by decide +kernel
theorem dX5_again_1 : decode cX5_again 1 = .ok (.ifCond .lt 8, 3) := by decide +kernel
theorem dX5_again_4 : decode cX5_again 4 = .ok (.iload_n 1, 1) := by decide +kernel
theorem dX5_again_5 : decode cX5_again 5 = .ok (.iconst 2, 1) := by decide +kernel
theorem dX5_again_6 : decode cX5_again 6 = .ok (.if_icmp .lt 5, 3) := by decide +kernel
theorem dX5_again_9 : decode cX5_again 9 = .ok (.iconst (-1), 1) := by decide +kernel
theorem dX5_again_10 : decode cX5_again 10 = .ok (.ireturn, 1) := by decide +kernel
theorem dX5_again_11 : decode cX5_again 11 = .ok (.aload_n 0, 1) := by decide +kernel
theorem dX5_again_12 : decode cX5_again 12 = .ok (.getfield 49, 3) := by decide +kernel
theorem dX5_again_15 : decode cX5_again 15 = .ok (.iload_n 1, 1) := by decide +kernel
theorem dX5_again_16 : decode cX5_again 16 = .ok (.baload, 1) := by decide +kernel
theorem dX5_again_17 : decode cX5_again 17 = .ok (.ifCond .ne 6, 3) := by decide +kernel
theorem dX5_again_20 : decode cX5_again 20 = .ok (.bipush (-3), 2) := by decide +kernel
theorem dX5_again_22 : decode cX5_again 22 = .ok (.ireturn, 1) := by decide +kernel
theorem dX5_again_23 : decode cX5_again 23 = .ok (.aload_n 0, 1) := by decide +kernel
theorem dX5_again_24 : decode cX5_again 24 = .ok (.getfield 31, 3) := by decide +kernel
theorem dX5_again_27 : decode cX5_again 27 = .ok (.aload_n 0, 1) := by decide +kernel
theorem dX5_again_28 : decode cX5_again 28 = .ok (.getfield 45, 3) := by decide +kernel
theorem dX5_again_31 : decode cX5_again 31 = .ok (.iload_n 1, 1) := by decide +kernel
theorem dX5_again_32 : decode cX5_again 32 = .ok (.aaload, 1) := by decide +kernel
theorem dX5_again_33 : decode cX5_again 33 = .ok (.invokevirtual 197, 3) := by decide +kernel
theorem dX5_again_36 : decode cX5_again 36 = .ok (.aload_n 0, 1) := by decide +kernel
theorem dX5_again_37 : decode cX5_again 37 = .ok (.getfield 41, 3) := by decide +kernel
theorem dX5_again_40 : decode cX5_again 40 = .ok (.invokevirtual 94, 3) := by decide +kernel
theorem dX5_again_43 : decode cX5_again 43 = .ok (.aload_n 0, 1) := by decide +kernel
theorem dX5_again_44 : decode cX5_again 44 = .ok (.getfield 31, 3) := by decide +kernel
theorem dX5_again_47 : decode cX5_again 47 = .ok (.getfield 168, 3) := by decide +kernel
theorem dX5_again_50 : decode cX5_again 50 = .ok (.ireturn, 1) := by decide +kernel
theorem dX5_count_0 : decode cX5_count 0 = .ok (.iload_n 1, 1) := by decide +kernel
theorem dX5_count_1 : decode cX5_count 1 = .ok (.tableswitch 111 0 7 #[47, 55, 63, 71, 79, 87, 95, 103], 47) := by decide +kernel
theorem dX5_count_48 : decode cX5_count 48 = .ok (.aload_n 0, 1) := by decide +kernel
theorem dX5_count_49 : decode cX5_count 49 = .ok (.getfield 12, 3) := by decide +kernel
theorem dX5_count_52 : decode cX5_count 52 = .ok (.getfield 245, 3) := by decide +kernel
theorem dX5_count_55 : decode cX5_count 55 = .ok (.ireturn, 1) := by decide +kernel
theorem dX5_count_56 : decode cX5_count 56 = .ok (.aload_n 0, 1) := by decide +kernel
theorem dX5_count_57 : decode cX5_count 57 = .ok (.getfield 19, 3) := by decide +kernel
theorem dX5_count_60 : decode cX5_count 60 = .ok (.getfield 248, 3) := by decide +kernel
theorem dX5_count_63 : decode cX5_count 63 = .ok (.ireturn, 1) := by decide +kernel
theorem dX5_count_64 : decode cX5_count 64 = .ok (.aload_n 0, 1) := by decide +kernel
theorem dX5_count_65 : decode cX5_count 65 = .ok (.getfield 19, 3) := by decide +kernel
theorem dX5_count_68 : decode cX5_count 68 = .ok (.getfield 96, 3) := by decide +kernel
theorem dX5_count_71 : decode cX5_count 71 = .ok (.ireturn, 1) := by decide +kernel
theorem dX5_count_72 : decode cX5_count 72 = .ok (.aload_n 0, 1) := by decide +kernel
theorem dX5_count_73 : decode cX5_count 73 = .ok (.getfield 31, 3) := by decide +kernel
theorem dX5_count_76 : decode cX5_count 76 = .ok (.getfield 147, 3) := by decide +kernel
theorem dX5_count_79 : decode cX5_count 79 = .ok (.ireturn, 1) := by decide +kernel
theorem dX5_count_80 : decode cX5_count 80 = .ok (.aload_n 0, 1) := by decide +kernel
theorem dX5_count_81 : decode cX5_count 81 = .ok (.getfield 19, 3) := by decide +kernel
theorem dX5_count_84 : decode cX5_count 84 = .ok (.getfield 251, 3) := by decide +kernel
theorem dX5_count_87 : decode cX5_count 87 = .ok (.ireturn, 1) := by decide +kernel
theorem dX5_count_88 : decode cX5_count 88 = .ok (.aload_n 0, 1) := by decide +kernel
theorem dX5_count_89 : decode cX5_count 89 = .ok (.getfield 31, 3) := by decide +kernel
theorem dX5_count_92 : decode cX5_count 92 = .ok (.getfield 154, 3) := by decide +kernel
theorem dX5_count_95 : decode cX5_count 95 = .ok (.ireturn, 1) := by decide +kernel
theorem dX5_count_96 : decode cX5_count 96 = .ok (.aload_n 0, 1) := by decide +kernel
theorem dX5_count_97 : decode cX5_count 97 = .ok (.getfield 41, 3) := by decide +kernel
theorem dX5_count_100 : decode cX5_count 100 = .ok (.getfield 161, 3) := by decide +kernel
theorem dX5_count_103 : decode cX5_count 103 = .ok (.ireturn, 1) := by decide +kernel
theorem dX5_count_104 : decode cX5_count 104 = .ok (.aload_n 0, 1) := by decide +kernel
theorem dX5_count_105 : decode cX5_count 105 = .ok (.getfield 56, 3) := by decide +kernel
theorem dX5_count_108 : decode cX5_count 108 = .ok (.getfield 208, 3) := by decide +kernel
theorem dX5_count_111 : decode cX5_count 111 = .ok (.ireturn, 1) := by decide +kernel
theorem dX5_count_112 : decode cX5_count 112 = .ok (.bipush (-2), 2) := by decide +kernel
theorem dX5_count_114 : decode cX5_count 114 = .ok (.ireturn, 1) := by decide +kernel
set_option maxRecDepth 20000 in
theorem ggX5_worstPlace_X3_fated : GoodIn wsX5_worstPlace wsX3_fated := goodIn_r _ [7, 8, 9, 10, 11, 12, 6, 13, 14, 15, 124, 125, 126, 127, 128, 129, 130, 131, 132, 133, 134, 135, 136, 137, 138, 139, 140, 141] (by decide +kernel) (by decide +kernel)
set_option maxRecDepth 20000 in
theorem gX5_worstPlace_X3_fated : GoodIn wsX5_worstPlace (wsV RX5 155 RX3 yX3_fated wsX3_fated) := goodIn_app (goodIn_of _ (by decide +kernel)) ggX5_worstPlace_X3_fated
set_option maxRecDepth 20000 in
theorem ggX5_worstPlace_X5_holds : GoodIn wsX5_worstPlace wsX5_holds := goodIn_r _ [19] (by decide +kernel) (by decide +kernel)
set_option maxRecDepth 20000 in
theorem gX5_worstPlace_X5_holds : GoodIn wsX5_worstPlace (va_wsS RX5 158 yX5_holds wsX5_holds) := goodIn_app (goodIn_of _ (by decide +kernel)) ggX5_worstPlace_X5_holds
set_option maxRecDepth 20000 in
theorem ggX5_worstPlace_X3_suppose : GoodIn wsX5_worstPlace wsX3_suppose := goodIn_r _ [23, 24, 25, 26, 27, 6, 28, 9, 29, 8, 30, 31, 32, 15, 124, 125, 126, 127, 128, 129, 130, 131, 132] (by decide +kernel) (by decide +kernel)
set_option maxRecDepth 20000 in
theorem gX5_worstPlace_X3_suppose : GoodIn wsX5_worstPlace (wsV RX5 186 RX3 yX3_suppose wsX3_suppose) := goodIn_app (goodIn_of _ (by decide +kernel)) ggX5_worstPlace_X3_suppose
set_option maxRecDepth 20000 in
theorem ggX5_worstPlace_X3_playTillKnown : GoodIn wsX5_worstPlace wsX3_playTillKnown := goodIn_r _ [36, 37, 38, 39, 6, 40, 10, 11, 12, 13, 14, 15, 41, 42, 43, 44, 45, 46, 47, 48, 49, 50, 51, 8, 17, 18, 19, 52, 53, 54, 55, 29, 9, 31, 56, 57, 58, 59, 60, 61, 62, 63, 64, 65, 66, 67, 68, 69, 70, 71, 72, 73, 74, 75, 32, 76, 77, 78, 79, 80, 81, 82, 83, 84, 85, 86, 87, 88, 89, 90, 91, 92, 93, 94, 95, 96, 97, 30, 98, 99, 100, 101, 102, 103, 104, 105, 106, 107, 108, 109, 110, 111, 112, 113, 24, 124, 125, 126, 127, 128, 129, 130, 131, 132, 133, 134, 135, 136, 137, 138, 139, 140, 141] (by decide +kernel) (by decide +kernel)
set_option maxRecDepth 20000 in
theorem gX5_worstPlace_X3_playTillKnown : GoodIn wsX5_worstPlace (wsV RX5 190 RX3 yX3_playTillKnown wsX3_playTillKnown) := goodIn_app (goodIn_of _ (by decide +kernel)) ggX5_worstPlace_X3_playTillKnown
theorem dX5_worstPlace_0 : decode cX5_worstPlace 0 = .ok (.aload_n 0, 1) := by decide +kernel
theorem dX5_worstPlace_1 : decode cX5_worstPlace 1 = .ok (.getfield 31, 3) := by decide +kernel
theorem dX5_worstPlace_4 : decode cX5_worstPlace 4 = .ok (.invokevirtual 155, 3) := by decide +kernel
theorem dX5_worstPlace_7 : decode cX5_worstPlace 7 = .ok (.istore_n 1, 1) := by decide +kernel
theorem dX5_worstPlace_8 : decode cX5_worstPlace 8 = .ok (.bipush (-9), 2) := by decide +kernel
theorem dX5_worstPlace_10 : decode cX5_worstPlace 10 = .ok (.istore_n 2, 1) := by decide +kernel
theorem dX5_worstPlace_11 : decode cX5_worstPlace 11 = .ok (.iconst (-1), 1) := by decide +kernel
theorem dX5_worstPlace_12 : decode cX5_worstPlace 12 = .ok (.istore_n 3, 1) := by decide +kernel
theorem dX5_worstPlace_13 : decode cX5_worstPlace 13 = .ok (.iconst 0, 1) := by decide +kernel
theorem dX5_worstPlace_14 : decode cX5_worstPlace 14 = .ok (.istore 4, 2) := by decide +kernel
theorem dX5_worstPlace_16 : decode cX5_worstPlace 16 = .ok (.iload 4, 2) := by decide +kernel
theorem dX5_worstPlace_18 : decode cX5_worstPlace 18 = .ok (.bipush 8, 2) := by decide +kernel
theorem dX5_worstPlace_20 : decode cX5_worstPlace 20 = .ok (.if_icmp .ge 68, 3) := by decide +kernel
theorem dX5_worstPlace_23 : decode cX5_worstPlace 23 = .ok (.iload_n 1, 1) := by decide +kernel
theorem dX5_worstPlace_24 : decode cX5_worstPlace 24 = .ok (.iload 4, 2) := by decide +kernel
theorem dX5_worstPlace_26 : decode cX5_worstPlace 26 = .ok (.invokestatic 158, 3) := by decide +kernel
theorem dX5_worstPlace_29 : decode cX5_worstPlace 29 = .ok (.ifCond .eq 53, 3) := by decide +kernel
theorem dX5_worstPlace_32 : decode cX5_worstPlace 32 = .ok (.aload_n 0, 1) := by decide +kernel
theorem dX5_worstPlace_33 : decode cX5_worstPlace 33 = .ok (.getfield 35, 3) := by decide +kernel
theorem dX5_worstPlace_36 : decode cX5_worstPlace 36 = .ok (.aload_n 0, 1) := by decide +kernel
theorem dX5_worstPlace_37 : decode cX5_worstPlace 37 = .ok (.getfield 31, 3) := by decide +kernel
theorem dX5_worstPlace_40 : decode cX5_worstPlace 40 = .ok (.iload 4, 2) := by decide +kernel
theorem dX5_worstPlace_42 : decode cX5_worstPlace 42 = .ok (.invokevirtual 186, 3) := by decide +kernel
theorem dX5_worstPlace_45 : decode cX5_worstPlace 45 = .ok (.aload_n 0, 1) := by decide +kernel
theorem dX5_worstPlace_46 : decode cX5_worstPlace 46 = .ok (.getfield 35, 3) := by decide +kernel
theorem dX5_worstPlace_49 : decode cX5_worstPlace 49 = .ok (.invokevirtual 190, 3) := by decide +kernel
theorem dX5_worstPlace_52 : decode cX5_worstPlace 52 = .ok (.istore 5, 2) := by decide +kernel
theorem dX5_worstPlace_54 : decode cX5_worstPlace 54 = .ok (.iload 5, 2) := by decide +kernel
theorem dX5_worstPlace_56 : decode cX5_worstPlace 56 = .ok (.bipush (-9), 2) := by decide +kernel
theorem dX5_worstPlace_58 : decode cX5_worstPlace 58 = .ok (.if_icmp .ne 8, 3) := by decide +kernel
theorem dX5_worstPlace_61 : decode cX5_worstPlace 61 = .ok (.bipush 61, 2) := by decide +kernel
theorem dX5_worstPlace_63 : decode cX5_worstPlace 63 = .ok (.goto 5, 3) := by decide +kernel
theorem dX5_worstPlace_66 : decode cX5_worstPlace 66 = .ok (.iload 5, 2) := by decide +kernel
theorem dX5_worstPlace_68 : decode cX5_worstPlace 68 = .ok (.istore 6, 2) := by decide +kernel
theorem dX5_worstPlace_70 : decode cX5_worstPlace 70 = .ok (.iload 6, 2) := by decide +kernel
theorem dX5_worstPlace_72 : decode cX5_worstPlace 72 = .ok (.iload_n 3, 1) := by decide +kernel
theorem dX5_worstPlace_73 : decode cX5_worstPlace 73 = .ok (.if_icmp .le 9, 3) := by decide +kernel
theorem dX5_worstPlace_76 : decode cX5_worstPlace 76 = .ok (.iload 6, 2) := by decide +kernel
theorem dX5_worstPlace_78 : decode cX5_worstPlace 78 = .ok (.istore_n 3, 1) := by decide +kernel
theorem dX5_worstPlace_79 : decode cX5_worstPlace 79 = .ok (.iload 4, 2) := by decide +kernel
theorem dX5_worstPlace_81 : decode cX5_worstPlace 81 = .ok (.istore_n 2, 1) := by decide +kernel
theorem dX5_worstPlace_82 : decode cX5_worstPlace 82 = .ok (.iinc 4 1, 3) := by decide +kernel
theorem dX5_worstPlace_85 : decode cX5_worstPlace 85 = .ok (.goto (-69), 3) := by decide +kernel
theorem dX5_worstPlace_88 : decode cX5_worstPlace 88 = .ok (.iload_n 2, 1) := by decide +kernel
theorem dX5_worstPlace_89 : decode cX5_worstPlace 89 = .ok (.ireturn, 1) := by decide +kernel
set_option maxRecDepth 20000 in
theorem ggX5_fewestSearchers_X3_begin : GoodIn wsX5_fewestSearchers wsX3_begin := goodIn_r _ [7, 8, 9, 10, 11, 12, 13, 14, 15, 16, 17, 18, 19, 20, 21, 22, 23, 24, 25, 26, 27, 28, 29, 30, 144, 145, 146, 147, 148, 149, 150, 151, 152, 135, 136, 137, 138, 139, 140, 141, 142, 143] (by decide +kernel) (by decide +kernel)
set_option maxRecDepth 20000 in
theorem gX5_fewestSearchers_X3_begin : GoodIn wsX5_fewestSearchers (wsV RX5 90 RX3 yX3_begin wsX3_begin) := goodIn_app (goodIn_of _ (by decide +kernel)) ggX5_fewestSearchers_X3_begin
set_option maxRecDepth 20000 in
theorem ggX5_fewestSearchers_X3_playTillKnown : GoodIn wsX5_fewestSearchers wsX3_playTillKnown := goodIn_r _ [34, 35, 36, 37, 6, 38, 39, 40, 41, 42, 15, 20, 43, 44, 45, 46, 47, 48, 49, 50, 51, 52, 53, 12, 54, 55, 56, 57, 58, 59, 60, 16, 14, 18, 61, 62, 63, 64, 65, 66, 67, 68, 69, 70, 71, 28, 72, 73, 74, 75, 76, 77, 78, 79, 19, 80, 81, 82, 83, 30, 84, 85, 86, 87, 88, 89, 90, 91, 92, 93, 94, 95, 96, 97, 98, 99, 100, 17, 101, 102, 103, 104, 105, 106, 107, 108, 109, 110, 111, 112, 113, 114, 115, 116, 13, 144, 145, 146, 147, 148, 149, 150, 151, 152, 135, 136, 137, 138, 139, 140, 141, 142, 143] (by decide +kernel) (by decide +kernel)
set_option maxRecDepth 20000 in
theorem gX5_fewestSearchers_X3_playTillKnown : GoodIn wsX5_fewestSearchers (wsV RX5 190 RX3 yX3_playTillKnown wsX3_playTillKnown) := goodIn_app (goodIn_of _ (by decide +kernel)) ggX5_fewestSearchers_X3_playTillKnown
set_option maxRecDepth 20000 in
theorem ggX5_fewestSearchers_X3_living : GoodIn wsX5_fewestSearchers wsX3_living := goodIn_r _ [120, 121, 122, 123, 6, 124, 12, 14, 43, 44, 45, 46, 47, 48, 49, 144, 145, 146, 147, 148, 149, 150, 151, 152] (by decide +kernel) (by decide +kernel)
set_option maxRecDepth 20000 in
theorem gX5_fewestSearchers_X3_living : GoodIn wsX5_fewestSearchers (wsV RX5 141 RX3 yX3_living wsX3_living) := goodIn_app (goodIn_of _ (by decide +kernel)) ggX5_fewestSearchers_X3_living
theorem dX5_fewestSearchers_0 : decode cX5_fewestSearchers 0 = .ok (.iconst 1, 1) := by decide +kernel
theorem dX5_fewestSearchers_1 : decode cX5_fewestSearchers 1 = .ok (.istore_n 1, 1) := by decide +kernel
theorem dX5_fewestSearchers_2 : decode cX5_fewestSearchers 2 = .ok (.iload_n 1, 1) := by decide +kernel
theorem dX5_fewestSearchers_3 : decode cX5_fewestSearchers 3 = .ok (.iconst 4, 1) := by decide +kernel
theorem dX5_fewestSearchers_4 : decode cX5_fewestSearchers 4 = .ok (.if_icmp .gt 88, 3) := by decide +kernel
theorem dX5_fewestSearchers_7 : decode cX5_fewestSearchers 7 = .ok (.iconst 1, 1) := by decide +kernel
theorem dX5_fewestSearchers_8 : decode cX5_fewestSearchers 8 = .ok (.istore_n 2, 1) := by decide +kernel
theorem dX5_fewestSearchers_9 : decode cX5_fewestSearchers 9 = .ok (.iconst 0, 1) := by decide +kernel
theorem dX5_fewestSearchers_10 : decode cX5_fewestSearchers 10 = .ok (.istore_n 3, 1) := by decide +kernel
theorem dX5_fewestSearchers_11 : decode cX5_fewestSearchers 11 = .ok (.iload_n 3, 1) := by decide +kernel
theorem dX5_fewestSearchers_12 : decode cX5_fewestSearchers 12 = .ok (.aload_n 0, 1) := by decide +kernel
theorem dX5_fewestSearchers_13 : decode cX5_fewestSearchers 13 = .ok (.getfield 19, 3) := by decide +kernel
theorem dX5_fewestSearchers_16 : decode cX5_fewestSearchers 16 = .ok (.getfield 248, 3) := by decide +kernel
theorem dX5_fewestSearchers_19 : decode cX5_fewestSearchers 19 = .ok (.if_icmp .ge 61, 3) := by decide +kernel
theorem dX5_fewestSearchers_22 : decode cX5_fewestSearchers 22 = .ok (.iload_n 2, 1) := by decide +kernel
theorem dX5_fewestSearchers_23 : decode cX5_fewestSearchers 23 = .ok (.ifCond .eq 57, 3) := by decide +kernel
theorem dX5_fewestSearchers_26 : decode cX5_fewestSearchers 26 = .ok (.iload_n 3, 1) := by decide +kernel
theorem dX5_fewestSearchers_27 : decode cX5_fewestSearchers 27 = .ok (.aload_n 0, 1) := by decide +kernel
theorem dX5_fewestSearchers_28 : decode cX5_fewestSearchers 28 = .ok (.getfield 19, 3) := by decide +kernel
theorem dX5_fewestSearchers_31 : decode cX5_fewestSearchers 31 = .ok (.getfield 251, 3) := by decide +kernel
theorem dX5_fewestSearchers_34 : decode cX5_fewestSearchers 34 = .ok (.if_icmp .eq 40, 3) := by decide +kernel
theorem dX5_fewestSearchers_37 : decode cX5_fewestSearchers 37 = .ok (.aload_n 0, 1) := by decide +kernel
theorem dX5_fewestSearchers_38 : decode cX5_fewestSearchers 38 = .ok (.getfield 35, 3) := by decide +kernel
theorem dX5_fewestSearchers_41 : decode cX5_fewestSearchers 41 = .ok (.iload_n 1, 1) := by decide +kernel
theorem dX5_fewestSearchers_42 : decode cX5_fewestSearchers 42 = .ok (.iload_n 3, 1) := by decide +kernel
theorem dX5_fewestSearchers_43 : decode cX5_fewestSearchers 43 = .ok (.invokevirtual 90, 3) := by decide +kernel
theorem dX5_fewestSearchers_46 : decode cX5_fewestSearchers 46 = .ok (.aload_n 0, 1) := by decide +kernel
