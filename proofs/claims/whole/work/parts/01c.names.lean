set_option maxRecDepth 20000 in
theorem ggX0_init_X3_init : GoodIn wsX0_init wsX3_init := goodIn_r _ [11, 12, 2, 3, 13, 14, 15, 16, 17, 18, 19, 20, 21, 22, 23, 24, 25, 8, 26, 27, 28, 29, 30, 31, 32, 33, 34, 35, 36, 37, 38, 39, 40, 43, 44, 45, 46, 47, 48, 49, 50, 51, 52, 53, 54, 55, 56, 57, 58, 59, 60] (by decide +kernel) (by decide +kernel)
set_option maxRecDepth 20000 in
theorem gX0_init_X3_init : GoodIn wsX0_init (wsX3_init) := ggX0_init_X3_init
theorem dX0_init_0 : decode cX0_init 0 = .ok (.aload_n 0, 1) := by decide +kernel
theorem dX0_init_1 : decode cX0_init 1 = .ok (.invokespecial 3, 3) := by decide +kernel
theorem dX0_init_4 : decode cX0_init 4 = .ok (.aload_n 0, 1) := by decide +kernel
theorem dX0_init_5 : decode cX0_init 5 = .ok (.bipush 14, 2) := by decide +kernel
theorem dX0_init_7 : decode cX0_init 7 = .ok (.anewarray 9, 3) := by decide +kernel
theorem dX0_init_10 : decode cX0_init 10 = .ok (.putfield 11, 3) := by decide +kernel
theorem dX0_init_13 : decode cX0_init 13 = .ok (.aload_n 0, 1) := by decide +kernel
theorem dX0_init_14 : decode cX0_init 14 = .ok (.iconst 0, 1) := by decide +kernel
theorem dX0_init_15 : decode cX0_init 15 = .ok (.putfield 17, 3) := by decide +kernel
theorem dX0_init_18 : decode cX0_init 18 = .ok (.iconst 0, 1) := by decide +kernel
theorem dX0_init_19 : decode cX0_init 19 = .ok (.istore_n 2, 1) := by decide +kernel
theorem dX0_init_20 : decode cX0_init 20 = .ok (.iload_n 2, 1) := by decide +kernel
theorem dX0_init_21 : decode cX0_init 21 = .ok (.bipush 14, 2) := by decide +kernel
theorem dX0_init_23 : decode cX0_init 23 = .ok (.if_icmp .ge 23, 3) := by decide +kernel
theorem dX0_init_26 : decode cX0_init 26 = .ok (.aload_n 0, 1) := by decide +kernel
theorem dX0_init_27 : decode cX0_init 27 = .ok (.getfield 11, 3) := by decide +kernel
theorem dX0_init_30 : decode cX0_init 30 = .ok (.iload_n 2, 1) := by decide +kernel
theorem dX0_init_31 : decode cX0_init 31 = .ok (.new 9, 3) := by decide +kernel
theorem dX0_init_34 : decode cX0_init 34 = .ok (.dup, 1) := by decide +kernel
theorem dX0_init_35 : decode cX0_init 35 = .ok (.aload_n 1, 1) := by decide +kernel
theorem dX0_init_36 : decode cX0_init 36 = .ok (.invokespecial 21, 3) := by decide +kernel
theorem dX0_init_39 : decode cX0_init 39 = .ok (.aastore, 1) := by decide +kernel
theorem dX0_init_40 : decode cX0_init 40 = .ok (.iinc 2 1, 3) := by decide +kernel
theorem dX0_init_43 : decode cX0_init 43 = .ok (.goto (-23), 3) := by decide +kernel
theorem dX0_init_46 : decode cX0_init 46 = .ok (.return_, 1) := by decide +kernel
theorem dX0_clear_0 : decode cX0_clear 0 = .ok (.aload_n 0, 1) := by decide +kernel
theorem dX0_clear_1 : decode cX0_clear 1 = .ok (.iconst 0, 1) := by decide +kernel
theorem dX0_clear_2 : decode cX0_clear 2 = .ok (.putfield 17, 3) := by decide +kernel
theorem dX0_clear_5 : decode cX0_clear 5 = .ok (.return_, 1) := by decide +kernel
set_option maxRecDepth 20000 in
theorem ggX0_remember_X0_forgetFirst : GoodIn wsX0_remember wsX0_forgetFirst := goodIn_r _ [7, 2, 1, 21, 22] (by decide +kernel) (by decide +kernel)
set_option maxRecDepth 20000 in
theorem gX0_remember_X0_forgetFirst : GoodIn wsX0_remember (wsV RX0 24 RX0 yX0_forgetFirst wsX0_forgetFirst) := goodIn_app (goodIn_of _ (by decide +kernel)) ggX0_remember_X0_forgetFirst
set_option maxRecDepth 20000 in
theorem ggX0_remember_X3_become : GoodIn wsX0_remember wsX3_become := goodIn_r _ [12, 13, 14, 15, 16, 17, 18, 19, 20, 23, 24, 25, 26, 27, 28, 29, 30, 31] (by decide +kernel) (by decide +kernel)
set_option maxRecDepth 20000 in
theorem gX0_remember_X3_become : GoodIn wsX0_remember (wsV RX0 27 RX3 yX3_become wsX3_become) := goodIn_app (goodIn_of _ (by decide +kernel)) ggX0_remember_X3_become
theorem dX0_remember_0 : decode cX0_remember 0 = .ok (.aload_n 0, 1) := by decide +kernel
theorem dX0_remember_1 : decode cX0_remember 1 = .ok (.getfield 17, 3) := by decide +kernel
theorem dX0_remember_4 : decode cX0_remember 4 = .ok (.bipush 14, 2) := by decide +kernel
theorem dX0_remember_6 : decode cX0_remember 6 = .ok (.if_icmp .lt 7, 3) := by decide +kernel
theorem dX0_remember_9 : decode cX0_remember 9 = .ok (.aload_n 0, 1) := by decide +kernel
theorem dX0_remember_10 : decode cX0_remember 10 = .ok (.invokevirtual 24, 3) := by decide +kernel
theorem dX0_remember_13 : decode cX0_remember 13 = .ok (.aload_n 0, 1) := by decide +kernel
theorem dX0_remember_14 : decode cX0_remember 14 = .ok (.getfield 11, 3) := by decide +kernel
theorem dX0_remember_17 : decode cX0_remember 17 = .ok (.aload_n 0, 1) := by decide +kernel
theorem dX0_remember_18 : decode cX0_remember 18 = .ok (.getfield 17, 3) := by decide +kernel
theorem dX0_remember_21 : decode cX0_remember 21 = .ok (.aaload, 1) := by decide +kernel
theorem dX0_remember_22 : decode cX0_remember 22 = .ok (.aload_n 1, 1) := by decide +kernel
theorem dX0_remember_23 : decode cX0_remember 23 = .ok (.invokevirtual 27, 3) := by decide +kernel
theorem dX0_remember_26 : decode cX0_remember 26 = .ok (.aload_n 0, 1) := by decide +kernel
theorem dX0_remember_27 : decode cX0_remember 27 = .ok (.dup, 1) := by decide +kernel
theorem dX0_remember_28 : decode cX0_remember 28 = .ok (.getfield 17, 3) := by decide +kernel
theorem dX0_remember_31 : decode cX0_remember 31 = .ok (.iconst 1, 1) := by decide +kernel
theorem dX0_remember_32 : decode cX0_remember 32 = .ok (.iadd, 1) := by decide +kernel
theorem dX0_remember_33 : decode cX0_remember 33 = .ok (.putfield 17, 3) := by decide +kernel
theorem dX0_remember_36 : decode cX0_remember 36 = .ok (.return_, 1) := by decide +kernel
theorem dX0_forgetFirst_0 : decode cX0_forgetFirst 0 = .ok (.aload_n 0, 1) := by decide +kernel
theorem dX0_forgetFirst_1 : decode cX0_forgetFirst 1 = .ok (.getfield 11, 3) := by decide +kernel
theorem dX0_forgetFirst_4 : decode cX0_forgetFirst 4 = .ok (.iconst 0, 1) := by decide +kernel
theorem dX0_forgetFirst_5 : decode cX0_forgetFirst 5 = .ok (.aaload, 1) := by decide +kernel
theorem dX0_forgetFirst_6 : decode cX0_forgetFirst 6 = .ok (.astore_n 1, 1) := by decide +kernel
theorem dX0_forgetFirst_7 : decode cX0_forgetFirst 7 = .ok (.iconst 1, 1) := by decide +kernel
theorem dX0_forgetFirst_8 : decode cX0_forgetFirst 8 = .ok (.istore_n 2, 1) := by decide +kernel
theorem dX0_forgetFirst_9 : decode cX0_forgetFirst 9 = .ok (.iload_n 2, 1) := by decide +kernel
theorem dX0_forgetFirst_10 : decode cX0_forgetFirst 10 = .ok (.bipush 14, 2) := by decide +kernel
theorem dX0_forgetFirst_12 : decode cX0_forgetFirst 12 = .ok (.if_icmp .ge 23, 3) := by decide +kernel
theorem dX0_forgetFirst_15 : decode cX0_forgetFirst 15 = .ok (.aload_n 0, 1) := by decide +kernel
theorem dX0_forgetFirst_16 : decode cX0_forgetFirst 16 = .ok (.getfield 11, 3) := by decide +kernel
theorem dX0_forgetFirst_19 : decode cX0_forgetFirst 19 = .ok (.iload_n 2, 1) := by decide +kernel
theorem dX0_forgetFirst_20 : decode cX0_forgetFirst 20 = .ok (.iconst 1, 1) := by decide +kernel
theorem dX0_forgetFirst_21 : decode cX0_forgetFirst 21 = .ok (.isub, 1) := by decide +kernel
theorem dX0_forgetFirst_22 : decode cX0_forgetFirst 22 = .ok (.aload_n 0, 1) := by decide +kernel
theorem dX0_forgetFirst_23 : decode cX0_forgetFirst 23 = .ok (.getfield 11, 3) := by decide +kernel
theorem dX0_forgetFirst_26 : decode cX0_forgetFirst 26 = .ok (.iload_n 2, 1) := by decide +kernel
theorem dX0_forgetFirst_27 : decode cX0_forgetFirst 27 = .ok (.aaload, 1) := by decide +kernel
theorem dX0_forgetFirst_28 : decode cX0_forgetFirst 28 = .ok (.aastore, 1) := by decide +kernel
theorem dX0_forgetFirst_29 : decode cX0_forgetFirst 29 = .ok (.iinc 2 1, 3) := by decide +kernel
theorem dX0_forgetFirst_32 : decode cX0_forgetFirst 32 = .ok (.goto (-23), 3) := by decide +kernel
theorem dX0_forgetFirst_35 : decode cX0_forgetFirst 35 = .ok (.aload_n 0, 1) := by decide +kernel
theorem dX0_forgetFirst_36 : decode cX0_forgetFirst 36 = .ok (.getfield 11, 3) := by decide +kernel
theorem dX0_forgetFirst_39 : decode cX0_forgetFirst 39 = .ok (.bipush 13, 2) := by decide +kernel
theorem dX0_forgetFirst_41 : decode cX0_forgetFirst 41 = .ok (.aload_n 1, 1) := by decide +kernel
theorem dX0_forgetFirst_42 : decode cX0_forgetFirst 42 = .ok (.aastore, 1) := by decide +kernel
theorem dX0_forgetFirst_43 : decode cX0_forgetFirst 43 = .ok (.aload_n 0, 1) := by decide +kernel
theorem dX0_forgetFirst_44 : decode cX0_forgetFirst 44 = .ok (.bipush 13, 2) := by decide +kernel
theorem dX0_forgetFirst_46 : decode cX0_forgetFirst 46 = .ok (.putfield 17, 3) := by decide +kernel
theorem dX0_forgetFirst_49 : decode cX0_forgetFirst 49 = .ok (.return_, 1) := by decide +kernel
set_option maxRecDepth 20000 in
theorem ggX0_takeBack_X3_become : GoodIn wsX0_takeBack wsX3_become := goodIn_r _ [7, 8, 9, 10, 11, 12, 13, 14, 15, 18, 19, 20, 21, 22, 23, 24, 25, 26] (by decide +kernel) (by decide +kernel)
set_option maxRecDepth 20000 in
theorem gX0_takeBack_X3_become : GoodIn wsX0_takeBack (wsV RX0 27 RX3 yX3_become wsX3_become) := goodIn_app (goodIn_of _ (by decide +kernel)) ggX0_takeBack_X3_become
theorem dX0_takeBack_0 : decode cX0_takeBack 0 = .ok (.aload_n 0, 1) := by decide +kernel
theorem dX0_takeBack_1 : decode cX0_takeBack 1 = .ok (.getfield 17, 3) := by decide +kernel
theorem dX0_takeBack_4 : decode cX0_takeBack 4 = .ok (.ifCond .le 26, 3) := by decide +kernel
theorem dX0_takeBack_7 : decode cX0_takeBack 7 = .ok (.aload_n 0, 1) := by decide +kernel
theorem dX0_takeBack_8 : decode cX0_takeBack 8 = .ok (.dup, 1) := by decide +kernel
theorem dX0_takeBack_9 : decode cX0_takeBack 9 = .ok (.getfield 17, 3) := by decide +kernel
theorem dX0_takeBack_12 : decode cX0_takeBack 12 = .ok (.iconst 1, 1) := by decide +kernel
theorem dX0_takeBack_13 : decode cX0_takeBack 13 = .ok (.isub, 1) := by decide +kernel
theorem dX0_takeBack_14 : decode cX0_takeBack 14 = .ok (.putfield 17, 3) := by decide +kernel
theorem dX0_takeBack_17 : decode cX0_takeBack 17 = .ok (.aload_n 1, 1) := by decide +kernel
theorem dX0_takeBack_18 : decode cX0_takeBack 18 = .ok (.aload_n 0, 1) := by decide +kernel
theorem dX0_takeBack_19 : decode cX0_takeBack 19 = .ok (.getfield 11, 3) := by decide +kernel
theorem dX0_takeBack_22 : decode cX0_takeBack 22 = .ok (.aload_n 0, 1) := by decide +kernel
theorem dX0_takeBack_23 : decode cX0_takeBack 23 = .ok (.getfield 17, 3) := by decide +kernel
theorem dX0_takeBack_26 : decode cX0_takeBack 26 = .ok (.aaload, 1) := by decide +kernel
theorem dX0_takeBack_27 : decode cX0_takeBack 27 = .ok (.invokevirtual 27, 3) := by decide +kernel
theorem dX0_takeBack_30 : decode cX0_takeBack 30 = .ok (.aload_n 0, 1) := by decide +kernel
theorem dX0_takeBack_31 : decode cX0_takeBack 31 = .ok (.getfield 17, 3) := by decide +kernel
theorem dX0_takeBack_34 : decode cX0_takeBack 34 = .ok (.ireturn, 1) := by decide +kernel
theorem dX1_init_0 : decode cX1_init 0 = .ok (.aload_n 0, 1) := by decide +kernel
theorem dX1_init_1 : decode cX1_init 1 = .ok (.invokespecial 3, 3) := by decide +kernel
theorem dX1_init_4 : decode cX1_init 4 = .ok (.aload_n 0, 1) := by decide +kernel
theorem dX1_init_5 : decode cX1_init 5 = .ok (.iconst 2, 1) := by decide +kernel
theorem dX1_init_6 : decode cX1_init 6 = .ok (.putfield 9, 3) := by decide +kernel
theorem dX1_init_9 : decode cX1_init 9 = .ok (.aload_n 0, 1) := by decide +kernel
theorem dX1_init_10 : decode cX1_init 10 = .ok (.iconst 0, 1) := by decide +kernel
theorem dX1_init_11 : decode cX1_init 11 = .ok (.putfield 15, 3) := by decide +kernel
theorem dX1_init_14 : decode cX1_init 14 = .ok (.aload_n 0, 1) := by decide +kernel
theorem dX1_init_15 : decode cX1_init 15 = .ok (.iconst 1, 1) := by decide +kernel
theorem dX1_init_16 : decode cX1_init 16 = .ok (.putfield 18, 3) := by decide +kernel
theorem dX1_init_19 : decode cX1_init 19 = .ok (.aload_n 0, 1) := by decide +kernel
theorem dX1_init_20 : decode cX1_init 20 = .ok (.iconst 1, 1) := by decide +kernel
theorem dX1_init_21 : decode cX1_init 21 = .ok (.putfield 21, 3) := by decide +kernel
theorem dX1_init_24 : decode cX1_init 24 = .ok (.aload_n 0, 1) := by decide +kernel
theorem dX1_init_25 : decode cX1_init 25 = .ok (.iconst 0, 1) := by decide +kernel
theorem dX1_init_26 : decode cX1_init 26 = .ok (.putfield 24, 3) := by decide +kernel
theorem dX1_init_29 : decode cX1_init 29 = .ok (.aload_n 0, 1) := by decide +kernel
theorem dX1_init_30 : decode cX1_init 30 = .ok (.bipush 10, 2) := by decide +kernel
theorem dX1_init_32 : decode cX1_init 32 = .ok (.newarray .int, 2) := by decide +kernel
theorem dX1_init_34 : decode cX1_init 34 = .ok (.putfield 27, 3) := by decide +kernel
theorem dX1_init_37 : decode cX1_init 37 = .ok (.aload_n 0, 1) := by decide +kernel
theorem dX1_init_38 : decode cX1_init 38 = .ok (.bipush 8, 2) := by decide +kernel
theorem dX1_init_40 : decode cX1_init 40 = .ok (.newarray .int, 2) := by decide +kernel
theorem dX1_init_42 : decode cX1_init 42 = .ok (.putfield 31, 3) := by decide +kernel
theorem dX1_init_45 : decode cX1_init 45 = .ok (.aload_n 0, 1) := by decide +kernel
theorem dX1_init_46 : decode cX1_init 46 = .ok (.iconst 0, 1) := by decide +kernel
theorem dX1_init_47 : decode cX1_init 47 = .ok (.putfield 34, 3) := by decide +kernel
theorem dX1_init_50 : decode cX1_init 50 = .ok (.aload_n 0, 1) := by decide +kernel
theorem dX1_init_51 : decode cX1_init 51 = .ok (.bipush 8, 2) := by decide +kernel
theorem dX1_init_53 : decode cX1_init 53 = .ok (.newarray .int, 2) := by decide +kernel
theorem dX1_init_55 : decode cX1_init 55 = .ok (.putfield 37, 3) := by decide +kernel
theorem dX1_init_58 : decode cX1_init 58 = .ok (.return_, 1) := by decide +kernel
set_option maxRecDepth 20000 in
theorem ggX1_clear_J7_fill_53178 : GoodIn wsX1_clear wsJ7_fill_53178 := goodIn_r _ [7] (by decide +kernel) (by decide +kernel)
set_option maxRecDepth 20000 in
theorem gX1_clear_J7_fill_53178 : GoodIn wsX1_clear (va_wsS RX1 40 yJ7_fill_53178 wsJ7_fill_53178) := goodIn_app (goodIn_of _ (by decide +kernel)) ggX1_clear_J7_fill_53178
theorem dX1_clear_0 : decode cX1_clear 0 = .ok (.aload_n 0, 1) := by decide +kernel
theorem dX1_clear_1 : decode cX1_clear 1 = .ok (.iconst 0, 1) := by decide +kernel
theorem dX1_clear_2 : decode cX1_clear 2 = .ok (.putfield 24, 3) := by decide +kernel
theorem dX1_clear_5 : decode cX1_clear 5 = .ok (.aload_n 0, 1) := by decide +kernel
theorem dX1_clear_6 : decode cX1_clear 6 = .ok (.getfield 31, 3) := by decide +kernel
theorem dX1_clear_9 : decode cX1_clear 9 = .ok (.iconst 0, 1) := by decide +kernel
theorem dX1_clear_10 : decode cX1_clear 10 = .ok (.invokestatic 40, 3) := by decide +kernel
theorem dX1_clear_13 : decode cX1_clear 13 = .ok (.aload_n 0, 1) := by decide +kernel
theorem dX1_clear_14 : decode cX1_clear 14 = .ok (.getfield 37, 3) := by decide +kernel
theorem dX1_clear_17 : decode cX1_clear 17 = .ok (.iconst 0, 1) := by decide +kernel
theorem dX1_clear_18 : decode cX1_clear 18 = .ok (.invokestatic 40, 3) := by decide +kernel
theorem dX1_clear_21 : decode cX1_clear 21 = .ok (.return_, 1) := by decide +kernel
theorem dX1_become_0 : decode cX1_become 0 = .ok (.aload_n 0, 1) := by decide +kernel
theorem dX1_become_1 : decode cX1_become 1 = .ok (.aload_n 1, 1) := by decide +kernel
theorem dX1_become_2 : decode cX1_become 2 = .ok (.getfield 9, 3) := by decide +kernel
theorem dX1_become_5 : decode cX1_become 5 = .ok (.putfield 9, 3) := by decide +kernel
theorem dX1_become_8 : decode cX1_become 8 = .ok (.aload_n 0, 1) := by decide +kernel
theorem dX1_become_9 : decode cX1_become 9 = .ok (.aload_n 1, 1) := by decide +kernel
theorem dX1_become_10 : decode cX1_become 10 = .ok (.getfield 15, 3) := by decide +kernel
theorem dX1_become_13 : decode cX1_become 13 = .ok (.putfield 15, 3) := by decide +kernel
theorem dX1_become_16 : decode cX1_become 16 = .ok (.aload_n 0, 1) := by decide +kernel
theorem dX1_become_17 : decode cX1_become 17 = .ok (.aload_n 1, 1) := by decide +kernel
theorem dX1_become_18 : decode cX1_become 18 = .ok (.getfield 18, 3) := by decide +kernel
theorem dX1_become_21 : decode cX1_become 21 = .ok (.putfield 18, 3) := by decide +kernel
theorem dX1_become_24 : decode cX1_become 24 = .ok (.aload_n 0, 1) := by decide +kernel
theorem dX1_become_25 : decode cX1_become 25 = .ok (.aload_n 1, 1) := by decide +kernel
theorem dX1_become_26 : decode cX1_become 26 = .ok (.getfield 21, 3) := by decide +kernel
theorem dX1_become_29 : decode cX1_become 29 = .ok (.putfield 21, 3) := by decide +kernel
theorem dX1_become_32 : decode cX1_become 32 = .ok (.aload_n 0, 1) := by decide +kernel
theorem dX1_become_33 : decode cX1_become 33 = .ok (.aload_n 1, 1) := by decide +kernel
theorem dX1_become_34 : decode cX1_become 34 = .ok (.getfield 24, 3) := by decide +kernel
theorem dX1_become_37 : decode cX1_become 37 = .ok (.putfield 24, 3) := by decide +kernel
theorem dX1_become_40 : decode cX1_become 40 = .ok (.aload_n 1, 1) := by decide +kernel
theorem dX1_become_41 : decode cX1_become 41 = .ok (.getfield 27, 3) := by decide +kernel
theorem dX1_become_44 : decode cX1_become 44 = .ok (.iconst 0, 1) := by decide +kernel
theorem dX1_become_45 : decode cX1_become 45 = .ok (.aload_n 0, 1) := by decide +kernel
theorem dX1_become_46 : decode cX1_become 46 = .ok (.getfield 27, 3) := by decide +kernel
theorem dX1_become_49 : decode cX1_become 49 = .ok (.iconst 0, 1) := by decide +kernel
theorem dX1_become_50 : decode cX1_become 50 = .ok (.bipush 10, 2) := by decide +kernel
theorem dX1_become_52 : decode cX1_become 52 = .ok (.invokestatic 46, 3) := by decide +kernel
theorem dX1_become_55 : decode cX1_become 55 = .ok (.aload_n 1, 1) := by decide +kernel
theorem dX1_become_56 : decode cX1_become 56 = .ok (.getfield 31, 3) := by decide +kernel
theorem dX1_become_59 : decode cX1_become 59 = .ok (.iconst 0, 1) := by decide +kernel
theorem dX1_become_60 : decode cX1_become 60 = .ok (.aload_n 0, 1) := by decide +kernel
theorem dX1_become_61 : decode cX1_become 61 = .ok (.getfield 31, 3) := by decide +kernel
theorem dX1_become_64 : decode cX1_become 64 = .ok (.iconst 0, 1) := by decide +kernel
theorem dX1_become_65 : decode cX1_become 65 = .ok (.bipush 8, 2) := by decide +kernel
theorem dX1_become_67 : decode cX1_become 67 = .ok (.invokestatic 46, 3) := by decide +kernel
theorem dX1_become_70 : decode cX1_become 70 = .ok (.return_, 1) := by decide +kernel
theorem dX1_mayEndAt_0 : decode cX1_mayEndAt 0 = .ok (.iload_n 0, 1) := by decide +kernel
theorem dX1_mayEndAt_1 : decode cX1_mayEndAt 1 = .ok (.iconst 5, 1) := by decide +kernel
theorem dX1_mayEndAt_2 : decode cX1_mayEndAt 2 = .ok (.if_icmp .lt 15, 3) := by decide +kernel
theorem dX1_mayEndAt_5 : decode cX1_mayEndAt 5 = .ok (.iload_n 0, 1) := by decide +kernel
theorem dX1_mayEndAt_6 : decode cX1_mayEndAt 6 = .ok (.iconst 5, 1) := by decide +kernel
theorem dX1_mayEndAt_7 : decode cX1_mayEndAt 7 = .ok (.isub, 1) := by decide +kernel
theorem dX1_mayEndAt_8 : decode cX1_mayEndAt 8 = .ok (.iconst 3, 1) := by decide +kernel
theorem dX1_mayEndAt_9 : decode cX1_mayEndAt 9 = .ok (.irem, 1) := by decide +kernel
theorem dX1_mayEndAt_10 : decode cX1_mayEndAt 10 = .ok (.ifCond .ne 7, 3) := by decide +kernel
theorem dX1_mayEndAt_13 : decode cX1_mayEndAt 13 = .ok (.iconst 1, 1) := by decide +kernel
theorem dX1_mayEndAt_14 : decode cX1_mayEndAt 14 = .ok (.goto 4, 3) := by decide +kernel
theorem dX1_mayEndAt_17 : decode cX1_mayEndAt 17 = .ok (.iconst 0, 1) := by decide +kernel
theorem dX1_mayEndAt_18 : decode cX1_mayEndAt 18 = .ok (.ireturn, 1) := by decide +kernel
set_option maxRecDepth 20000 in
theorem ggX1_takes_X1_isPlace : GoodIn wsX1_takes wsX1_isPlace := goodIn_r _ [9, 1, 33, 34, 35, 36, 37, 38, 39, 40, 41] (by decide +kernel) (by decide +kernel)
set_option maxRecDepth 20000 in
theorem gX1_takes_X1_isPlace : GoodIn wsX1_takes (wsV RX1 52 RX1 yX1_isPlace wsX1_isPlace) := goodIn_app (goodIn_of _ (by decide +kernel)) ggX1_takes_X1_isPlace
set_option maxRecDepth 20000 in
theorem ggX1_takes_X1_takesOfEdge : GoodIn wsX1_takes wsX1_takesOfEdge := goodIn_r _ [13, 14, 1, 15, 16, 5, 6, 7, 8, 9, 17, 18, 19, 20, 21, 22, 23, 24, 25, 26, 27, 28, 29, 30, 31, 32, 33, 34, 35, 36, 37, 38, 39, 40, 41] (by decide +kernel) (by decide +kernel)
set_option maxRecDepth 20000 in
theorem gX1_takes_X1_takesOfEdge : GoodIn wsX1_takes (wsV RX1 56 RX1 yX1_takesOfEdge wsX1_takesOfEdge) := goodIn_app (goodIn_of _ (by decide +kernel)) ggX1_takes_X1_takesOfEdge
theorem dX1_takes_0 : decode cX1_takes 0 = .ok (.iload_n 2, 1) := by decide +kernel
theorem dX1_takes_1 : decode cX1_takes 1 = .ok (.bipush 48, 2) := by decide +kernel
theorem dX1_takes_3 : decode cX1_takes 3 = .ok (.isub, 1) := by decide +kernel
theorem dX1_takes_4 : decode cX1_takes 4 = .ok (.istore_n 3, 1) := by decide +kernel
theorem dX1_takes_5 : decode cX1_takes 5 = .ok (.iload_n 1, 1) := by decide +kernel
theorem dX1_takes_6 : decode cX1_takes 6 = .ok (.tableswitch 127 0 4 #[34, 46, 68, 79, 106], 34) := by decide +kernel
theorem dX1_takes_40 : decode cX1_takes 40 = .ok (.iload_n 2, 1) := by decide +kernel
theorem dX1_takes_41 : decode cX1_takes 41 = .ok (.bipush 78, 2) := by decide +kernel
theorem dX1_takes_43 : decode cX1_takes 43 = .ok (.if_icmp .ne 7, 3) := by decide +kernel
theorem dX1_takes_46 : decode cX1_takes 46 = .ok (.iconst 1, 1) := by decide +kernel
theorem dX1_takes_47 : decode cX1_takes 47 = .ok (.goto 4, 3) := by decide +kernel
theorem dX1_takes_50 : decode cX1_takes 50 = .ok (.iconst 0, 1) := by decide +kernel
theorem dX1_takes_51 : decode cX1_takes 51 = .ok (.ireturn, 1) := by decide +kernel
theorem dX1_takes_52 : decode cX1_takes 52 = .ok (.aload_n 0, 1) := by decide +kernel
theorem dX1_takes_53 : decode cX1_takes 53 = .ok (.iload_n 3, 1) := by decide +kernel
theorem dX1_takes_54 : decode cX1_takes 54 = .ok (.putfield 9, 3) := by decide +kernel
theorem dX1_takes_57 : decode cX1_takes 57 = .ok (.iload_n 3, 1) := by decide +kernel
theorem dX1_takes_58 : decode cX1_takes 58 = .ok (.iconst 2, 1) := by decide +kernel
theorem dX1_takes_59 : decode cX1_takes 59 = .ok (.if_icmp .lt 13, 3) := by decide +kernel
theorem dX1_takes_62 : decode cX1_takes 62 = .ok (.iload_n 3, 1) := by decide +kernel
theorem dX1_takes_63 : decode cX1_takes 63 = .ok (.bipush 8, 2) := by decide +kernel
theorem dX1_takes_65 : decode cX1_takes 65 = .ok (.if_icmp .gt 7, 3) := by decide +kernel
theorem dX1_takes_68 : decode cX1_takes 68 = .ok (.iconst 1, 1) := by decide +kernel
theorem dX1_takes_69 : decode cX1_takes 69 = .ok (.goto 4, 3) := by decide +kernel
theorem dX1_takes_72 : decode cX1_takes 72 = .ok (.iconst 0, 1) := by decide +kernel
theorem dX1_takes_73 : decode cX1_takes 73 = .ok (.ireturn, 1) := by decide +kernel
theorem dX1_takes_74 : decode cX1_takes 74 = .ok (.aload_n 0, 1) := by decide +kernel
theorem dX1_takes_75 : decode cX1_takes 75 = .ok (.iload_n 3, 1) := by decide +kernel
theorem dX1_takes_76 : decode cX1_takes 76 = .ok (.putfield 15, 3) := by decide +kernel
theorem dX1_takes_79 : decode cX1_takes 79 = .ok (.aload_n 0, 1) := by decide +kernel
theorem dX1_takes_80 : decode cX1_takes 80 = .ok (.iload_n 3, 1) := by decide +kernel
theorem dX1_takes_81 : decode cX1_takes 81 = .ok (.invokevirtual 52, 3) := by decide +kernel
theorem dX1_takes_84 : decode cX1_takes 84 = .ok (.ireturn, 1) := by decide +kernel
theorem dX1_takes_85 : decode cX1_takes 85 = .ok (.aload_n 0, 1) := by decide +kernel
theorem dX1_takes_86 : decode cX1_takes 86 = .ok (.iload_n 3, 1) := by decide +kernel
theorem dX1_takes_87 : decode cX1_takes 87 = .ok (.putfield 18, 3) := by decide +kernel
theorem dX1_takes_90 : decode cX1_takes 90 = .ok (.aload_n 0, 1) := by decide +kernel
theorem dX1_takes_91 : decode cX1_takes 91 = .ok (.iload_n 3, 1) := by decide +kernel
theorem dX1_takes_92 : decode cX1_takes 92 = .ok (.invokevirtual 52, 3) := by decide +kernel
theorem dX1_takes_95 : decode cX1_takes 95 = .ok (.ifCond .eq 15, 3) := by decide +kernel
theorem dX1_takes_98 : decode cX1_takes 98 = .ok (.iload_n 3, 1) := by decide +kernel
theorem dX1_takes_99 : decode cX1_takes 99 = .ok (.aload_n 0, 1) := by decide +kernel
theorem dX1_takes_100 : decode cX1_takes 100 = .ok (.getfield 15, 3) := by decide +kernel
theorem dX1_takes_103 : decode cX1_takes 103 = .ok (.if_icmp .eq 7, 3) := by decide +kernel
theorem dX1_takes_106 : decode cX1_takes 106 = .ok (.iconst 1, 1) := by decide +kernel
theorem dX1_takes_107 : decode cX1_takes 107 = .ok (.goto 4, 3) := by decide +kernel
theorem dX1_takes_110 : decode cX1_takes 110 = .ok (.iconst 0, 1) := by decide +kernel
theorem dX1_takes_111 : decode cX1_takes 111 = .ok (.ireturn, 1) := by decide +kernel
theorem dX1_takes_112 : decode cX1_takes 112 = .ok (.aload_n 0, 1) := by decide +kernel
theorem dX1_takes_113 : decode cX1_takes 113 = .ok (.iload_n 3, 1) := by decide +kernel
theorem dX1_takes_114 : decode cX1_takes 114 = .ok (.putfield 21, 3) := by decide +kernel
theorem dX1_takes_117 : decode cX1_takes 117 = .ok (.iload_n 3, 1) := by decide +kernel
theorem dX1_takes_118 : decode cX1_takes 118 = .ok (.iconst 1, 1) := by decide +kernel
theorem dX1_takes_119 : decode cX1_takes 119 = .ok (.if_icmp .lt 12, 3) := by decide +kernel
theorem dX1_takes_122 : decode cX1_takes 122 = .ok (.iload_n 3, 1) := by decide +kernel
theorem dX1_takes_123 : decode cX1_takes 123 = .ok (.iconst 4, 1) := by decide +kernel
theorem dX1_takes_124 : decode cX1_takes 124 = .ok (.if_icmp .gt 7, 3) := by decide +kernel
theorem dX1_takes_127 : decode cX1_takes 127 = .ok (.iconst 1, 1) := by decide +kernel
theorem dX1_takes_128 : decode cX1_takes 128 = .ok (.goto 4, 3) := by decide +kernel
theorem dX1_takes_131 : decode cX1_takes 131 = .ok (.iconst 0, 1) := by decide +kernel
theorem dX1_takes_132 : decode cX1_takes 132 = .ok (.ireturn, 1) := by decide +kernel
theorem dX1_takes_133 : decode cX1_takes 133 = .ok (.aload_n 0, 1) := by decide +kernel
theorem dX1_takes_134 : decode cX1_takes 134 = .ok (.iload_n 1, 1) := by decide +kernel
theorem dX1_takes_135 : decode cX1_takes 135 = .ok (.iconst 5, 1) := by decide +kernel
theorem dX1_takes_136 : decode cX1_takes 136 = .ok (.isub, 1) := by decide +kernel
theorem dX1_takes_137 : decode cX1_takes 137 = .ok (.iconst 3, 1) := by decide +kernel
theorem dX1_takes_138 : decode cX1_takes 138 = .ok (.irem, 1) := by decide +kernel
theorem dX1_takes_139 : decode cX1_takes 139 = .ok (.iload_n 2, 1) := by decide +kernel
theorem dX1_takes_140 : decode cX1_takes 140 = .ok (.invokevirtual 56, 3) := by decide +kernel
theorem dX1_takes_143 : decode cX1_takes 143 = .ok (.ireturn, 1) := by decide +kernel
set_option maxRecDepth 20000 in
theorem ggX1_takesOfEdge_X1_isPlace : GoodIn wsX1_takesOfEdge wsX1_isPlace := goodIn_r _ [9, 2, 26, 27, 28, 29, 30, 31, 32, 33, 34] (by decide +kernel) (by decide +kernel)
set_option maxRecDepth 20000 in
theorem gX1_takesOfEdge_X1_isPlace : GoodIn wsX1_takesOfEdge (wsV RX1 52 RX1 yX1_isPlace wsX1_isPlace) := goodIn_app (goodIn_of _ (by decide +kernel)) ggX1_takesOfEdge_X1_isPlace
set_option maxRecDepth 20000 in
theorem ggX1_takesOfEdge_J6_bitCount_0f7a4 : GoodIn wsX1_takesOfEdge wsJ6_bitCount_0f7a4 := goodIn_r _ [13, 14, 15, 16] (by decide +kernel) (by decide +kernel)
set_option maxRecDepth 20000 in
theorem gX1_takesOfEdge_J6_bitCount_0f7a4 : GoodIn wsX1_takesOfEdge (va_wsS RX1 60 yJ6_bitCount_0f7a4 wsJ6_bitCount_0f7a4) := goodIn_app (goodIn_of _ (by decide +kernel)) ggX1_takesOfEdge_J6_bitCount_0f7a4
set_option maxRecDepth 20000 in
theorem ggX1_takesOfEdge_X1_addEdge : GoodIn wsX1_takesOfEdge wsX1_addEdge := goodIn_r _ [20, 1, 4, 21, 22, 23, 24, 25, 26, 27, 28, 29, 30, 31, 32, 33, 34] (by decide +kernel) (by decide +kernel)
set_option maxRecDepth 20000 in
theorem gX1_takesOfEdge_X1_addEdge : GoodIn wsX1_takesOfEdge (wsV RX1 66 RX1 yX1_addEdge wsX1_addEdge) := goodIn_app (goodIn_of _ (by decide +kernel)) ggX1_takesOfEdge_X1_addEdge
theorem dX1_takesOfEdge_0 : decode cX1_takesOfEdge 0 = .ok (.iload_n 2, 1) := by decide +kernel
theorem dX1_takesOfEdge_1 : decode cX1_takesOfEdge 1 = .ok (.bipush 48, 2) := by decide +kernel
theorem dX1_takesOfEdge_3 : decode cX1_takesOfEdge 3 = .ok (.isub, 1) := by decide +kernel
theorem dX1_takesOfEdge_4 : decode cX1_takesOfEdge 4 = .ok (.istore_n 3, 1) := by decide +kernel
theorem dX1_takesOfEdge_5 : decode cX1_takesOfEdge 5 = .ok (.iload_n 1, 1) := by decide +kernel
theorem dX1_takesOfEdge_6 : decode cX1_takesOfEdge 6 = .ok (.ifCond .ne 44, 3) := by decide +kernel
theorem dX1_takesOfEdge_9 : decode cX1_takesOfEdge 9 = .ok (.iload_n 2, 1) := by decide +kernel
theorem dX1_takesOfEdge_10 : decode cX1_takesOfEdge 10 = .ok (.bipush 101, 2) := by decide +kernel
theorem dX1_takesOfEdge_12 : decode cX1_takesOfEdge 12 = .ok (.if_icmp .ne 36, 3) := by decide +kernel
theorem dX1_takesOfEdge_15 : decode cX1_takesOfEdge 15 = .ok (.aload_n 0, 1) := by decide +kernel
theorem dX1_takesOfEdge_16 : decode cX1_takesOfEdge 16 = .ok (.getfield 24, 3) := by decide +kernel
theorem dX1_takesOfEdge_19 : decode cX1_takesOfEdge 19 = .ok (.bipush 10, 2) := by decide +kernel
theorem dX1_takesOfEdge_21 : decode cX1_takesOfEdge 21 = .ok (.if_icmp .ge 27, 3) := by decide +kernel
theorem dX1_takesOfEdge_24 : decode cX1_takesOfEdge 24 = .ok (.aload_n 0, 1) := by decide +kernel
theorem dX1_takesOfEdge_25 : decode cX1_takesOfEdge 25 = .ok (.getfield 24, 3) := by decide +kernel
theorem dX1_takesOfEdge_28 : decode cX1_takesOfEdge 28 = .ok (.aload_n 0, 1) := by decide +kernel
theorem dX1_takesOfEdge_29 : decode cX1_takesOfEdge 29 = .ok (.getfield 9, 3) := by decide +kernel
theorem dX1_takesOfEdge_32 : decode cX1_takesOfEdge 32 = .ok (.aload_n 0, 1) := by decide +kernel
theorem dX1_takesOfEdge_33 : decode cX1_takesOfEdge 33 = .ok (.getfield 9, 3) := by decide +kernel
theorem dX1_takesOfEdge_36 : decode cX1_takesOfEdge 36 = .ok (.iconst 1, 1) := by decide +kernel
theorem dX1_takesOfEdge_37 : decode cX1_takesOfEdge 37 = .ok (.isub, 1) := by decide +kernel
theorem dX1_takesOfEdge_38 : decode cX1_takesOfEdge 38 = .ok (.imul, 1) := by decide +kernel
theorem dX1_takesOfEdge_39 : decode cX1_takesOfEdge 39 = .ok (.iconst 2, 1) := by decide +kernel
theorem dX1_takesOfEdge_40 : decode cX1_takesOfEdge 40 = .ok (.idiv, 1) := by decide +kernel
theorem dX1_takesOfEdge_41 : decode cX1_takesOfEdge 41 = .ok (.if_icmp .ge 7, 3) := by decide +kernel
theorem dX1_takesOfEdge_44 : decode cX1_takesOfEdge 44 = .ok (.iconst 1, 1) := by decide +kernel
theorem dX1_takesOfEdge_45 : decode cX1_takesOfEdge 45 = .ok (.goto 4, 3) := by decide +kernel
theorem dX1_takesOfEdge_48 : decode cX1_takesOfEdge 48 = .ok (.iconst 0, 1) := by decide +kernel
theorem dX1_takesOfEdge_49 : decode cX1_takesOfEdge 49 = .ok (.ireturn, 1) := by decide +kernel
theorem dX1_takesOfEdge_50 : decode cX1_takesOfEdge 50 = .ok (.aload_n 0, 1) := by decide +kernel
theorem dX1_takesOfEdge_51 : decode cX1_takesOfEdge 51 = .ok (.iload_n 3, 1) := by decide +kernel
theorem dX1_takesOfEdge_52 : decode cX1_takesOfEdge 52 = .ok (.invokevirtual 52, 3) := by decide +kernel
theorem dX1_takesOfEdge_55 : decode cX1_takesOfEdge 55 = .ok (.ifCond .ne 5, 3) := by decide +kernel
theorem dX1_takesOfEdge_58 : decode cX1_takesOfEdge 58 = .ok (.iconst 0, 1) := by decide +kernel
theorem dX1_takesOfEdge_59 : decode cX1_takesOfEdge 59 = .ok (.ireturn, 1) := by decide +kernel
theorem dX1_takesOfEdge_60 : decode cX1_takesOfEdge 60 = .ok (.iload_n 1, 1) := by decide +kernel
theorem dX1_takesOfEdge_61 : decode cX1_takesOfEdge 61 = .ok (.iconst 1, 1) := by decide +kernel
theorem dX1_takesOfEdge_62 : decode cX1_takesOfEdge 62 = .ok (.if_icmp .ne 32, 3) := by decide +kernel
theorem dX1_takesOfEdge_65 : decode cX1_takesOfEdge 65 = .ok (.aload_n 0, 1) := by decide +kernel
theorem dX1_takesOfEdge_66 : decode cX1_takesOfEdge 66 = .ok (.iload_n 3, 1) := by decide +kernel
theorem dX1_takesOfEdge_67 : decode cX1_takesOfEdge 67 = .ok (.putfield 34, 3) := by decide +kernel
theorem dX1_takesOfEdge_70 : decode cX1_takesOfEdge 70 = .ok (.aload_n 0, 1) := by decide +kernel
theorem dX1_takesOfEdge_71 : decode cX1_takesOfEdge 71 = .ok (.getfield 37, 3) := by decide +kernel
theorem dX1_takesOfEdge_74 : decode cX1_takesOfEdge 74 = .ok (.iload_n 3, 1) := by decide +kernel
theorem dX1_takesOfEdge_75 : decode cX1_takesOfEdge 75 = .ok (.iaload, 1) := by decide +kernel
theorem dX1_takesOfEdge_76 : decode cX1_takesOfEdge 76 = .ok (.invokestatic 60, 3) := by decide +kernel
theorem dX1_takesOfEdge_79 : decode cX1_takesOfEdge 79 = .ok (.aload_n 0, 1) := by decide +kernel
theorem dX1_takesOfEdge_80 : decode cX1_takesOfEdge 80 = .ok (.getfield 9, 3) := by decide +kernel
theorem dX1_takesOfEdge_83 : decode cX1_takesOfEdge 83 = .ok (.iconst 1, 1) := by decide +kernel
theorem dX1_takesOfEdge_84 : decode cX1_takesOfEdge 84 = .ok (.isub, 1) := by decide +kernel
theorem dX1_takesOfEdge_85 : decode cX1_takesOfEdge 85 = .ok (.if_icmp .ge 7, 3) := by decide +kernel
theorem dX1_takesOfEdge_88 : decode cX1_takesOfEdge 88 = .ok (.iconst 1, 1) := by decide +kernel
theorem dX1_takesOfEdge_89 : decode cX1_takesOfEdge 89 = .ok (.goto 4, 3) := by decide +kernel
theorem dX1_takesOfEdge_92 : decode cX1_takesOfEdge 92 = .ok (.iconst 0, 1) := by decide +kernel
theorem dX1_takesOfEdge_93 : decode cX1_takesOfEdge 93 = .ok (.ireturn, 1) := by decide +kernel
theorem dX1_takesOfEdge_94 : decode cX1_takesOfEdge 94 = .ok (.aload_n 0, 1) := by decide +kernel
theorem dX1_takesOfEdge_95 : decode cX1_takesOfEdge 95 = .ok (.aload_n 0, 1) := by decide +kernel
theorem dX1_takesOfEdge_96 : decode cX1_takesOfEdge 96 = .ok (.getfield 34, 3) := by decide +kernel
theorem dX1_takesOfEdge_99 : decode cX1_takesOfEdge 99 = .ok (.iload_n 3, 1) := by decide +kernel
theorem dX1_takesOfEdge_100 : decode cX1_takesOfEdge 100 = .ok (.invokevirtual 66, 3) := by decide +kernel
theorem dX1_takesOfEdge_103 : decode cX1_takesOfEdge 103 = .ok (.ireturn, 1) := by decide +kernel
set_option maxRecDepth 20000 in
theorem ggX1_addEdge_X5_holds : GoodIn wsX1_addEdge wsX5_holds := goodIn_r _ [7] (by decide +kernel) (by decide +kernel)
set_option maxRecDepth 20000 in
theorem gX1_addEdge_X5_holds_n69 : GoodIn wsX1_addEdge (wsX5_holds) := ggX1_addEdge_X5_holds
theorem dX1_addEdge_0 : decode cX1_addEdge 0 = .ok (.iload_n 1, 1) := by decide +kernel
theorem dX1_addEdge_1 : decode cX1_addEdge 1 = .ok (.iload_n 2, 1) := by decide +kernel
theorem dX1_addEdge_2 : decode cX1_addEdge 2 = .ok (.if_icmp .eq 25, 3) := by decide +kernel
theorem dX1_addEdge_5 : decode cX1_addEdge 5 = .ok (.aload_n 0, 1) := by decide +kernel
theorem dX1_addEdge_6 : decode cX1_addEdge 6 = .ok (.getfield 24, 3) := by decide +kernel
theorem dX1_addEdge_9 : decode cX1_addEdge 9 = .ok (.bipush 10, 2) := by decide +kernel
theorem dX1_addEdge_11 : decode cX1_addEdge 11 = .ok (.if_icmp .ge 16, 3) := by decide +kernel
theorem dX1_addEdge_14 : decode cX1_addEdge 14 = .ok (.aload_n 0, 1) := by decide +kernel
theorem dX1_addEdge_15 : decode cX1_addEdge 15 = .ok (.getfield 37, 3) := by decide +kernel
theorem dX1_addEdge_18 : decode cX1_addEdge 18 = .ok (.iload_n 1, 1) := by decide +kernel
theorem dX1_addEdge_19 : decode cX1_addEdge 19 = .ok (.iaload, 1) := by decide +kernel
theorem dX1_addEdge_20 : decode cX1_addEdge 20 = .ok (.iload_n 2, 1) := by decide +kernel
theorem dX1_addEdge_21 : decode cX1_addEdge 21 = .ok (.invokestatic 69, 3) := by decide +kernel
theorem dX1_addEdge_24 : decode cX1_addEdge 24 = .ok (.ifCond .eq 5, 3) := by decide +kernel
theorem dX1_addEdge_27 : decode cX1_addEdge 27 = .ok (.iconst 0, 1) := by decide +kernel
theorem dX1_addEdge_28 : decode cX1_addEdge 28 = .ok (.ireturn, 1) := by decide +kernel
theorem dX1_addEdge_29 : decode cX1_addEdge 29 = .ok (.aload_n 0, 1) := by decide +kernel
theorem dX1_addEdge_30 : decode cX1_addEdge 30 = .ok (.getfield 27, 3) := by decide +kernel
theorem dX1_addEdge_33 : decode cX1_addEdge 33 = .ok (.aload_n 0, 1) := by decide +kernel
theorem dX1_addEdge_34 : decode cX1_addEdge 34 = .ok (.getfield 24, 3) := by decide +kernel
theorem dX1_addEdge_37 : decode cX1_addEdge 37 = .ok (.iconst 1, 1) := by decide +kernel
theorem dX1_addEdge_38 : decode cX1_addEdge 38 = .ok (.iload_n 1, 1) := by decide +kernel
theorem dX1_addEdge_39 : decode cX1_addEdge 39 = .ok (.ishl, 1) := by decide +kernel
theorem dX1_addEdge_40 : decode cX1_addEdge 40 = .ok (.iconst 1, 1) := by decide +kernel
theorem dX1_addEdge_41 : decode cX1_addEdge 41 = .ok (.iload_n 2, 1) := by decide +kernel
theorem dX1_addEdge_42 : decode cX1_addEdge 42 = .ok (.ishl, 1) := by decide +kernel
theorem dX1_addEdge_43 : decode cX1_addEdge 43 = .ok (.ior, 1) := by decide +kernel
theorem dX1_addEdge_44 : decode cX1_addEdge 44 = .ok (.iastore, 1) := by decide +kernel
theorem dX1_addEdge_45 : decode cX1_addEdge 45 = .ok (.aload_n 0, 1) := by decide +kernel
theorem dX1_addEdge_46 : decode cX1_addEdge 46 = .ok (.getfield 31, 3) := by decide +kernel
theorem dX1_addEdge_49 : decode cX1_addEdge 49 = .ok (.iload_n 1, 1) := by decide +kernel
theorem dX1_addEdge_50 : decode cX1_addEdge 50 = .ok (.dup2, 1) := by decide +kernel
theorem dX1_addEdge_51 : decode cX1_addEdge 51 = .ok (.iaload, 1) := by decide +kernel
theorem dX1_addEdge_52 : decode cX1_addEdge 52 = .ok (.iconst 1, 1) := by decide +kernel
theorem dX1_addEdge_53 : decode cX1_addEdge 53 = .ok (.aload_n 0, 1) := by decide +kernel
theorem dX1_addEdge_54 : decode cX1_addEdge 54 = .ok (.getfield 24, 3) := by decide +kernel
theorem dX1_addEdge_57 : decode cX1_addEdge 57 = .ok (.ishl, 1) := by decide +kernel
theorem dX1_addEdge_58 : decode cX1_addEdge 58 = .ok (.ior, 1) := by decide +kernel
theorem dX1_addEdge_59 : decode cX1_addEdge 59 = .ok (.iastore, 1) := by decide +kernel
theorem dX1_addEdge_60 : decode cX1_addEdge 60 = .ok (.aload_n 0, 1) := by decide +kernel
theorem dX1_addEdge_61 : decode cX1_addEdge 61 = .ok (.getfield 31, 3) := by decide +kernel
theorem dX1_addEdge_64 : decode cX1_addEdge 64 = .ok (.iload_n 2, 1) := by decide +kernel
theorem dX1_addEdge_65 : decode cX1_addEdge 65 = .ok (.dup2, 1) := by decide +kernel
theorem dX1_addEdge_66 : decode cX1_addEdge 66 = .ok (.iaload, 1) := by decide +kernel
theorem dX1_addEdge_67 : decode cX1_addEdge 67 = .ok (.iconst 1, 1) := by decide +kernel
theorem dX1_addEdge_68 : decode cX1_addEdge 68 = .ok (.aload_n 0, 1) := by decide +kernel
theorem dX1_addEdge_69 : decode cX1_addEdge 69 = .ok (.getfield 24, 3) := by decide +kernel
theorem dX1_addEdge_72 : decode cX1_addEdge 72 = .ok (.ishl, 1) := by decide +kernel
theorem dX1_addEdge_73 : decode cX1_addEdge 73 = .ok (.ior, 1) := by decide +kernel
theorem dX1_addEdge_74 : decode cX1_addEdge 74 = .ok (.iastore, 1) := by decide +kernel
theorem dX1_addEdge_75 : decode cX1_addEdge 75 = .ok (.aload_n 0, 1) := by decide +kernel
theorem dX1_addEdge_76 : decode cX1_addEdge 76 = .ok (.getfield 37, 3) := by decide +kernel
theorem dX1_addEdge_79 : decode cX1_addEdge 79 = .ok (.iload_n 1, 1) := by decide +kernel
theorem dX1_addEdge_80 : decode cX1_addEdge 80 = .ok (.dup2, 1) := by decide +kernel
theorem dX1_addEdge_81 : decode cX1_addEdge 81 = .ok (.iaload, 1) := by decide +kernel
theorem dX1_addEdge_82 : decode cX1_addEdge 82 = .ok (.iconst 1, 1) := by decide +kernel
theorem dX1_addEdge_83 : decode cX1_addEdge 83 = .ok (.iload_n 2, 1) := by decide +kernel
theorem dX1_addEdge_84 : decode cX1_addEdge 84 = .ok (.ishl, 1) := by decide +kernel
theorem dX1_addEdge_85 : decode cX1_addEdge 85 = .ok (.ior, 1) := by decide +kernel
theorem dX1_addEdge_86 : decode cX1_addEdge 86 = .ok (.iastore, 1) := by decide +kernel
theorem dX1_addEdge_87 : decode cX1_addEdge 87 = .ok (.aload_n 0, 1) := by decide +kernel
theorem dX1_addEdge_88 : decode cX1_addEdge 88 = .ok (.getfield 37, 3) := by decide +kernel
theorem dX1_addEdge_91 : decode cX1_addEdge 91 = .ok (.iload_n 2, 1) := by decide +kernel
theorem dX1_addEdge_92 : decode cX1_addEdge 92 = .ok (.dup2, 1) := by decide +kernel
theorem dX1_addEdge_93 : decode cX1_addEdge 93 = .ok (.iaload, 1) := by decide +kernel
theorem dX1_addEdge_94 : decode cX1_addEdge 94 = .ok (.iconst 1, 1) := by decide +kernel
theorem dX1_addEdge_95 : decode cX1_addEdge 95 = .ok (.iload_n 1, 1) := by decide +kernel
theorem dX1_addEdge_96 : decode cX1_addEdge 96 = .ok (.ishl, 1) := by decide +kernel
theorem dX1_addEdge_97 : decode cX1_addEdge 97 = .ok (.ior, 1) := by decide +kernel
theorem dX1_addEdge_98 : decode cX1_addEdge 98 = .ok (.iastore, 1) := by decide +kernel
theorem dX1_addEdge_99 : decode cX1_addEdge 99 = .ok (.aload_n 0, 1) := by decide +kernel
theorem dX1_addEdge_100 : decode cX1_addEdge 100 = .ok (.dup, 1) := by decide +kernel
theorem dX1_addEdge_101 : decode cX1_addEdge 101 = .ok (.getfield 24, 3) := by decide +kernel
theorem dX1_addEdge_104 : decode cX1_addEdge 104 = .ok (.iconst 1, 1) := by decide +kernel
theorem dX1_addEdge_105 : decode cX1_addEdge 105 = .ok (.iadd, 1) := by decide +kernel
theorem dX1_addEdge_106 : decode cX1_addEdge 106 = .ok (.putfield 24, 3) := by decide +kernel
theorem dX1_addEdge_109 : decode cX1_addEdge 109 = .ok (.iconst 1, 1) := by decide +kernel
theorem dX1_addEdge_110 : decode cX1_addEdge 110 = .ok (.ireturn, 1) := by decide +kernel
theorem dX1_isPlace_0 : decode cX1_isPlace 0 = .ok (.iload_n 1, 1) := by decide +kernel
theorem dX1_isPlace_1 : decode cX1_isPlace 1 = .ok (.ifCond .lt 21, 3) := by decide +kernel
theorem dX1_isPlace_4 : decode cX1_isPlace 4 = .ok (.iload_n 1, 1) := by decide +kernel
theorem dX1_isPlace_5 : decode cX1_isPlace 5 = .ok (.aload_n 0, 1) := by decide +kernel
theorem dX1_isPlace_6 : decode cX1_isPlace 6 = .ok (.getfield 9, 3) := by decide +kernel
theorem dX1_isPlace_9 : decode cX1_isPlace 9 = .ok (.if_icmp .ge 13, 3) := by decide +kernel
theorem dX1_isPlace_12 : decode cX1_isPlace 12 = .ok (.iload_n 1, 1) := by decide +kernel
theorem dX1_isPlace_13 : decode cX1_isPlace 13 = .ok (.bipush 8, 2) := by decide +kernel
theorem dX1_isPlace_15 : decode cX1_isPlace 15 = .ok (.if_icmp .ge 7, 3) := by decide +kernel
theorem dX1_isPlace_18 : decode cX1_isPlace 18 = .ok (.iconst 1, 1) := by decide +kernel
theorem dX1_isPlace_19 : decode cX1_isPlace 19 = .ok (.goto 4, 3) := by decide +kernel
theorem dX1_isPlace_22 : decode cX1_isPlace 22 = .ok (.iconst 0, 1) := by decide +kernel
theorem dX1_isPlace_23 : decode cX1_isPlace 23 = .ok (.ireturn, 1) := by decide +kernel
theorem dX1_isEdge_0 : decode cX1_isEdge 0 = .ok (.iload_n 1, 1) := by decide +kernel
theorem dX1_isEdge_1 : decode cX1_isEdge 1 = .ok (.ifCond .lt 15, 3) := by decide +kernel
theorem dX1_isEdge_4 : decode cX1_isEdge 4 = .ok (.iload_n 1, 1) := by decide +kernel
theorem dX1_isEdge_5 : decode cX1_isEdge 5 = .ok (.aload_n 0, 1) := by decide +kernel
theorem dX1_isEdge_6 : decode cX1_isEdge 6 = .ok (.getfield 24, 3) := by decide +kernel
theorem dX1_isEdge_9 : decode cX1_isEdge 9 = .ok (.if_icmp .ge 7, 3) := by decide +kernel
theorem dX1_isEdge_12 : decode cX1_isEdge 12 = .ok (.iconst 1, 1) := by decide +kernel
theorem dX1_isEdge_13 : decode cX1_isEdge 13 = .ok (.goto 4, 3) := by decide +kernel
theorem dX1_isEdge_16 : decode cX1_isEdge 16 = .ok (.iconst 0, 1) := by decide +kernel
theorem dX1_isEdge_17 : decode cX1_isEdge 17 = .ok (.ireturn, 1) := by decide +kernel
set_option maxRecDepth 20000 in
theorem ggX1_lesserEnd_X1_isEdge : GoodIn wsX1_lesserEnd wsX1_isEdge := goodIn_r _ [6, 7, 11, 12, 13, 14, 15, 16, 17, 18, 19] (by decide +kernel) (by decide +kernel)
set_option maxRecDepth 20000 in
theorem gX1_lesserEnd_X1_isEdge : GoodIn wsX1_lesserEnd (wsV RX1 72 RX1 yX1_isEdge wsX1_isEdge) := goodIn_app (goodIn_of _ (by decide +kernel)) ggX1_lesserEnd_X1_isEdge
set_option maxRecDepth 20000 in
theorem ggX1_lesserEnd_X5_least : GoodIn wsX1_lesserEnd wsX5_least := goodIn_r _ [10] (by decide +kernel) (by decide +kernel)
set_option maxRecDepth 20000 in
theorem gX1_lesserEnd_X5_least_n75 : GoodIn wsX1_lesserEnd (wsX5_least) := ggX1_lesserEnd_X5_least
theorem dX1_lesserEnd_0 : decode cX1_lesserEnd 0 = .ok (.aload_n 0, 1) := by decide +kernel
theorem dX1_lesserEnd_1 : decode cX1_lesserEnd 1 = .ok (.iload_n 1, 1) := by decide +kernel
theorem dX1_lesserEnd_2 : decode cX1_lesserEnd 2 = .ok (.invokevirtual 72, 3) := by decide +kernel
theorem dX1_lesserEnd_5 : decode cX1_lesserEnd 5 = .ok (.ifCond .eq 15, 3) := by decide +kernel
theorem dX1_lesserEnd_8 : decode cX1_lesserEnd 8 = .ok (.aload_n 0, 1) := by decide +kernel
theorem dX1_lesserEnd_9 : decode cX1_lesserEnd 9 = .ok (.getfield 27, 3) := by decide +kernel
theorem dX1_lesserEnd_12 : decode cX1_lesserEnd 12 = .ok (.iload_n 1, 1) := by decide +kernel
theorem dX1_lesserEnd_13 : decode cX1_lesserEnd 13 = .ok (.iaload, 1) := by decide +kernel
theorem dX1_lesserEnd_14 : decode cX1_lesserEnd 14 = .ok (.invokestatic 75, 3) := by decide +kernel
theorem dX1_lesserEnd_17 : decode cX1_lesserEnd 17 = .ok (.goto 5, 3) := by decide +kernel
theorem dX1_lesserEnd_20 : decode cX1_lesserEnd 20 = .ok (.bipush (-9), 2) := by decide +kernel
theorem dX1_lesserEnd_22 : decode cX1_lesserEnd 22 = .ok (.ireturn, 1) := by decide +kernel
set_option maxRecDepth 20000 in
theorem ggX1_greaterEnd_X1_isEdge : GoodIn wsX1_greaterEnd wsX1_isEdge := goodIn_r _ [5, 6, 19, 20, 21, 22, 23, 24, 25, 26, 27] (by decide +kernel) (by decide +kernel)
set_option maxRecDepth 20000 in
theorem gX1_greaterEnd_X1_isEdge : GoodIn wsX1_greaterEnd (wsV RX1 72 RX1 yX1_isEdge wsX1_isEdge) := goodIn_app (goodIn_of _ (by decide +kernel)) ggX1_greaterEnd_X1_isEdge
set_option maxRecDepth 20000 in
theorem ggX1_greaterEnd_X1_lesserEnd : GoodIn wsX1_greaterEnd wsX1_lesserEnd := goodIn_r _ [10, 11, 1, 2, 3, 4, 5, 6, 12, 13, 14, 19, 20, 21, 22, 23, 24, 25, 26, 27] (by decide +kernel) (by decide +kernel)
set_option maxRecDepth 20000 in
theorem gX1_greaterEnd_X1_lesserEnd : GoodIn wsX1_greaterEnd (wsV RX1 78 RX1 yX1_lesserEnd wsX1_lesserEnd) := goodIn_app (goodIn_of _ (by decide +kernel)) ggX1_greaterEnd_X1_lesserEnd
set_option maxRecDepth 20000 in
theorem ggX1_greaterEnd_X1_otherEnd : GoodIn wsX1_greaterEnd wsX1_otherEnd := goodIn_r _ [18, 11, 1, 2, 3, 4, 5, 6, 12, 13, 14, 19, 20, 21, 22, 23, 24, 25, 26, 27] (by decide +kernel) (by decide +kernel)
set_option maxRecDepth 20000 in
theorem gX1_greaterEnd_X1_otherEnd : GoodIn wsX1_greaterEnd (wsV RX1 81 RX1 yX1_otherEnd wsX1_otherEnd) := goodIn_app (goodIn_of _ (by decide +kernel)) ggX1_greaterEnd_X1_otherEnd
theorem dX1_greaterEnd_0 : decode cX1_greaterEnd 0 = .ok (.aload_n 0, 1) := by decide +kernel
theorem dX1_greaterEnd_1 : decode cX1_greaterEnd 1 = .ok (.iload_n 1, 1) := by decide +kernel
theorem dX1_greaterEnd_2 : decode cX1_greaterEnd 2 = .ok (.invokevirtual 72, 3) := by decide +kernel
theorem dX1_greaterEnd_5 : decode cX1_greaterEnd 5 = .ok (.ifCond .eq 16, 3) := by decide +kernel
theorem dX1_greaterEnd_8 : decode cX1_greaterEnd 8 = .ok (.aload_n 0, 1) := by decide +kernel
theorem dX1_greaterEnd_9 : decode cX1_greaterEnd 9 = .ok (.iload_n 1, 1) := by decide +kernel
theorem dX1_greaterEnd_10 : decode cX1_greaterEnd 10 = .ok (.aload_n 0, 1) := by decide +kernel
theorem dX1_greaterEnd_11 : decode cX1_greaterEnd 11 = .ok (.iload_n 1, 1) := by decide +kernel
theorem dX1_greaterEnd_12 : decode cX1_greaterEnd 12 = .ok (.invokevirtual 78, 3) := by decide +kernel
theorem dX1_greaterEnd_15 : decode cX1_greaterEnd 15 = .ok (.invokevirtual 81, 3) := by decide +kernel
theorem dX1_greaterEnd_18 : decode cX1_greaterEnd 18 = .ok (.goto 5, 3) := by decide +kernel
theorem dX1_greaterEnd_21 : decode cX1_greaterEnd 21 = .ok (.bipush (-9), 2) := by decide +kernel
theorem dX1_greaterEnd_23 : decode cX1_greaterEnd 23 = .ok (.ireturn, 1) := by decide +kernel
set_option maxRecDepth 20000 in
theorem ggX1_otherEnd_X1_isEdge : GoodIn wsX1_otherEnd wsX1_isEdge := goodIn_r _ [6, 7, 11, 12, 13, 14, 15, 16, 17, 18, 19] (by decide +kernel) (by decide +kernel)
set_option maxRecDepth 20000 in
theorem gX1_otherEnd_X1_isEdge : GoodIn wsX1_otherEnd (wsV RX1 72 RX1 yX1_isEdge wsX1_isEdge) := goodIn_app (goodIn_of _ (by decide +kernel)) ggX1_otherEnd_X1_isEdge
set_option maxRecDepth 20000 in
theorem ggX1_otherEnd_X5_least : GoodIn wsX1_otherEnd wsX5_least := goodIn_r _ [10] (by decide +kernel) (by decide +kernel)
set_option maxRecDepth 20000 in
theorem gX1_otherEnd_X5_least_n75 : GoodIn wsX1_otherEnd (wsX5_least) := ggX1_otherEnd_X5_least
theorem dX1_otherEnd_0 : decode cX1_otherEnd 0 = .ok (.aload_n 0, 1) := by decide +kernel
theorem dX1_otherEnd_1 : decode cX1_otherEnd 1 = .ok (.iload_n 1, 1) := by decide +kernel
theorem dX1_otherEnd_2 : decode cX1_otherEnd 2 = .ok (.invokevirtual 72, 3) := by decide +kernel
theorem dX1_otherEnd_5 : decode cX1_otherEnd 5 = .ok (.ifCond .eq 21, 3) := by decide +kernel
theorem dX1_otherEnd_8 : decode cX1_otherEnd 8 = .ok (.aload_n 0, 1) := by decide +kernel
theorem dX1_otherEnd_9 : decode cX1_otherEnd 9 = .ok (.getfield 27, 3) := by decide +kernel
theorem dX1_otherEnd_12 : decode cX1_otherEnd 12 = .ok (.iload_n 1, 1) := by decide +kernel
theorem dX1_otherEnd_13 : decode cX1_otherEnd 13 = .ok (.iaload, 1) := by decide +kernel
theorem dX1_otherEnd_14 : decode cX1_otherEnd 14 = .ok (.iconst 1, 1) := by decide +kernel
theorem dX1_otherEnd_15 : decode cX1_otherEnd 15 = .ok (.iload_n 2, 1) := by decide +kernel
theorem dX1_otherEnd_16 : decode cX1_otherEnd 16 = .ok (.ishl, 1) := by decide +kernel
theorem dX1_otherEnd_17 : decode cX1_otherEnd 17 = .ok (.iconst (-1), 1) := by decide +kernel
theorem dX1_otherEnd_18 : decode cX1_otherEnd 18 = .ok (.ixor, 1) := by decide +kernel
theorem dX1_otherEnd_19 : decode cX1_otherEnd 19 = .ok (.iand, 1) := by decide +kernel
theorem dX1_otherEnd_20 : decode cX1_otherEnd 20 = .ok (.invokestatic 75, 3) := by decide +kernel
theorem dX1_otherEnd_23 : decode cX1_otherEnd 23 = .ok (.goto 5, 3) := by decide +kernel
theorem dX1_otherEnd_26 : decode cX1_otherEnd 26 = .ok (.bipush (-9), 2) := by decide +kernel
theorem dX1_otherEnd_28 : decode cX1_otherEnd 28 = .ok (.ireturn, 1) := by decide +kernel
theorem dX1_edgesFrom_0 : decode cX1_edgesFrom 0 = .ok (.iload_n 1, 1) := by decide +kernel
theorem dX1_edgesFrom_1 : decode cX1_edgesFrom 1 = .ok (.ifCond .lt 18, 3) := by decide +kernel
theorem dX1_edgesFrom_4 : decode cX1_edgesFrom 4 = .ok (.iload_n 1, 1) := by decide +kernel
theorem dX1_edgesFrom_5 : decode cX1_edgesFrom 5 = .ok (.bipush 8, 2) := by decide +kernel
theorem dX1_edgesFrom_7 : decode cX1_edgesFrom 7 = .ok (.if_icmp .ge 12, 3) := by decide +kernel
theorem dX1_edgesFrom_10 : decode cX1_edgesFrom 10 = .ok (.aload_n 0, 1) := by decide +kernel
theorem dX1_edgesFrom_11 : decode cX1_edgesFrom 11 = .ok (.getfield 31, 3) := by decide +kernel
theorem dX1_edgesFrom_14 : decode cX1_edgesFrom 14 = .ok (.iload_n 1, 1) := by decide +kernel
theorem dX1_edgesFrom_15 : decode cX1_edgesFrom 15 = .ok (.iaload, 1) := by decide +kernel
theorem dX1_edgesFrom_16 : decode cX1_edgesFrom 16 = .ok (.goto 4, 3) := by decide +kernel
theorem dX1_edgesFrom_19 : decode cX1_edgesFrom 19 = .ok (.iconst 0, 1) := by decide +kernel
theorem dX1_edgesFrom_20 : decode cX1_edgesFrom 20 = .ok (.ireturn, 1) := by decide +kernel
theorem dX1_allEdges_0 : decode cX1_allEdges 0 = .ok (.iconst 1, 1) := by decide +kernel
theorem dX1_allEdges_1 : decode cX1_allEdges 1 = .ok (.aload_n 0, 1) := by decide +kernel
theorem dX1_allEdges_2 : decode cX1_allEdges 2 = .ok (.getfield 24, 3) := by decide +kernel
theorem dX1_allEdges_5 : decode cX1_allEdges 5 = .ok (.ishl, 1) := by decide +kernel
theorem dX1_allEdges_6 : decode cX1_allEdges 6 = .ok (.iconst 1, 1) := by decide +kernel
theorem dX1_allEdges_7 : decode cX1_allEdges 7 = .ok (.isub, 1) := by decide +kernel
theorem dX1_allEdges_8 : decode cX1_allEdges 8 = .ok (.ireturn, 1) := by decide +kernel
theorem dX1_edgesAtAny_0 : decode cX1_edgesAtAny 0 = .ok (.iconst 0, 1) := by decide +kernel
theorem dX1_edgesAtAny_1 : decode cX1_edgesAtAny 1 = .ok (.istore_n 2, 1) := by decide +kernel
theorem dX1_edgesAtAny_2 : decode cX1_edgesAtAny 2 = .ok (.iconst 0, 1) := by decide +kernel
theorem dX1_edgesAtAny_3 : decode cX1_edgesAtAny 3 = .ok (.istore_n 3, 1) := by decide +kernel
theorem dX1_edgesAtAny_4 : decode cX1_edgesAtAny 4 = .ok (.iload_n 3, 1) := by decide +kernel
theorem dX1_edgesAtAny_5 : decode cX1_edgesAtAny 5 = .ok (.bipush 8, 2) := by decide +kernel
theorem dX1_edgesAtAny_7 : decode cX1_edgesAtAny 7 = .ok (.if_icmp .ge 26, 3) := by decide +kernel
theorem dX1_edgesAtAny_10 : decode cX1_edgesAtAny 10 = .ok (.iload_n 1, 1) := by decide +kernel
theorem dX1_edgesAtAny_11 : decode cX1_edgesAtAny 11 = .ok (.iload_n 3, 1) := by decide +kernel
theorem dX1_edgesAtAny_12 : decode cX1_edgesAtAny 12 = .ok (.ishr, 1) := by decide +kernel
theorem dX1_edgesAtAny_13 : decode cX1_edgesAtAny 13 = .ok (.iconst 1, 1) := by decide +kernel
theorem dX1_edgesAtAny_14 : decode cX1_edgesAtAny 14 = .ok (.iand, 1) := by decide +kernel
theorem dX1_edgesAtAny_15 : decode cX1_edgesAtAny 15 = .ok (.ifCond .eq 12, 3) := by decide +kernel
theorem dX1_edgesAtAny_18 : decode cX1_edgesAtAny 18 = .ok (.iload_n 2, 1) := by decide +kernel
theorem dX1_edgesAtAny_19 : decode cX1_edgesAtAny 19 = .ok (.aload_n 0, 1) := by decide +kernel
theorem dX1_edgesAtAny_20 : decode cX1_edgesAtAny 20 = .ok (.getfield 31, 3) := by decide +kernel
theorem dX1_edgesAtAny_23 : decode cX1_edgesAtAny 23 = .ok (.iload_n 3, 1) := by decide +kernel
theorem dX1_edgesAtAny_24 : decode cX1_edgesAtAny 24 = .ok (.iaload, 1) := by decide +kernel
theorem dX1_edgesAtAny_25 : decode cX1_edgesAtAny 25 = .ok (.ior, 1) := by decide +kernel
theorem dX1_edgesAtAny_26 : decode cX1_edgesAtAny 26 = .ok (.istore_n 2, 1) := by decide +kernel
theorem dX1_edgesAtAny_27 : decode cX1_edgesAtAny 27 = .ok (.iinc 3 1, 3) := by decide +kernel
theorem dX1_edgesAtAny_30 : decode cX1_edgesAtAny 30 = .ok (.goto (-26), 3) := by decide +kernel
theorem dX1_edgesAtAny_33 : decode cX1_edgesAtAny 33 = .ok (.iload_n 2, 1) := by decide +kernel
theorem dX1_edgesAtAny_34 : decode cX1_edgesAtAny 34 = .ok (.ireturn, 1) := by decide +kernel
theorem dX1_endsOf_0 : decode cX1_endsOf 0 = .ok (.iconst 0, 1) := by decide +kernel
theorem dX1_endsOf_1 : decode cX1_endsOf 1 = .ok (.istore_n 2, 1) := by decide +kernel
theorem dX1_endsOf_2 : decode cX1_endsOf 2 = .ok (.iconst 0, 1) := by decide +kernel
theorem dX1_endsOf_3 : decode cX1_endsOf 3 = .ok (.istore_n 3, 1) := by decide +kernel
theorem dX1_endsOf_4 : decode cX1_endsOf 4 = .ok (.iload_n 3, 1) := by decide +kernel
theorem dX1_endsOf_5 : decode cX1_endsOf 5 = .ok (.aload_n 0, 1) := by decide +kernel
theorem dX1_endsOf_6 : decode cX1_endsOf 6 = .ok (.getfield 24, 3) := by decide +kernel
theorem dX1_endsOf_9 : decode cX1_endsOf 9 = .ok (.if_icmp .ge 26, 3) := by decide +kernel
theorem dX1_endsOf_12 : decode cX1_endsOf 12 = .ok (.iload_n 1, 1) := by decide +kernel
theorem dX1_endsOf_13 : decode cX1_endsOf 13 = .ok (.iload_n 3, 1) := by decide +kernel
theorem dX1_endsOf_14 : decode cX1_endsOf 14 = .ok (.ishr, 1) := by decide +kernel
theorem dX1_endsOf_15 : decode cX1_endsOf 15 = .ok (.iconst 1, 1) := by decide +kernel
theorem dX1_endsOf_16 : decode cX1_endsOf 16 = .ok (.iand, 1) := by decide +kernel
theorem dX1_endsOf_17 : decode cX1_endsOf 17 = .ok (.ifCond .eq 12, 3) := by decide +kernel
theorem dX1_endsOf_20 : decode cX1_endsOf 20 = .ok (.iload_n 2, 1) := by decide +kernel
theorem dX1_endsOf_21 : decode cX1_endsOf 21 = .ok (.aload_n 0, 1) := by decide +kernel
theorem dX1_endsOf_22 : decode cX1_endsOf 22 = .ok (.getfield 27, 3) := by decide +kernel
theorem dX1_endsOf_25 : decode cX1_endsOf 25 = .ok (.iload_n 3, 1) := by decide +kernel
theorem dX1_endsOf_26 : decode cX1_endsOf 26 = .ok (.iaload, 1) := by decide +kernel
theorem dX1_endsOf_27 : decode cX1_endsOf 27 = .ok (.ior, 1) := by decide +kernel
theorem dX1_endsOf_28 : decode cX1_endsOf 28 = .ok (.istore_n 2, 1) := by decide +kernel
theorem dX1_endsOf_29 : decode cX1_endsOf 29 = .ok (.iinc 3 1, 3) := by decide +kernel
theorem dX1_endsOf_32 : decode cX1_endsOf 32 = .ok (.goto (-28), 3) := by decide +kernel
theorem dX1_endsOf_35 : decode cX1_endsOf 35 = .ok (.iload_n 2, 1) := by decide +kernel
theorem dX1_endsOf_36 : decode cX1_endsOf 36 = .ok (.ireturn, 1) := by decide +kernel
theorem dX1_widened_0 : decode cX1_widened 0 = .ok (.iload_n 1, 1) := by decide +kernel
theorem dX1_widened_1 : decode cX1_widened 1 = .ok (.istore_n 3, 1) := by decide +kernel
theorem dX1_widened_2 : decode cX1_widened 2 = .ok (.iconst 0, 1) := by decide +kernel
theorem dX1_widened_3 : decode cX1_widened 3 = .ok (.istore 4, 2) := by decide +kernel
theorem dX1_widened_5 : decode cX1_widened 5 = .ok (.iload 4, 2) := by decide +kernel
theorem dX1_widened_7 : decode cX1_widened 7 = .ok (.aload_n 0, 1) := by decide +kernel
theorem dX1_widened_8 : decode cX1_widened 8 = .ok (.getfield 24, 3) := by decide +kernel
theorem dX1_widened_11 : decode cX1_widened 11 = .ok (.if_icmp .ge 40, 3) := by decide +kernel
theorem dX1_widened_14 : decode cX1_widened 14 = .ok (.iload_n 2, 1) := by decide +kernel
theorem dX1_widened_15 : decode cX1_widened 15 = .ok (.iload 4, 2) := by decide +kernel
theorem dX1_widened_17 : decode cX1_widened 17 = .ok (.ishr, 1) := by decide +kernel
theorem dX1_widened_18 : decode cX1_widened 18 = .ok (.iconst 1, 1) := by decide +kernel
theorem dX1_widened_19 : decode cX1_widened 19 = .ok (.iand, 1) := by decide +kernel
theorem dX1_widened_20 : decode cX1_widened 20 = .ok (.ifCond .eq 25, 3) := by decide +kernel
theorem dX1_widened_23 : decode cX1_widened 23 = .ok (.aload_n 0, 1) := by decide +kernel
theorem dX1_widened_24 : decode cX1_widened 24 = .ok (.getfield 27, 3) := by decide +kernel
theorem dX1_widened_27 : decode cX1_widened 27 = .ok (.iload 4, 2) := by decide +kernel
theorem dX1_widened_29 : decode cX1_widened 29 = .ok (.iaload, 1) := by decide +kernel
theorem dX1_widened_30 : decode cX1_widened 30 = .ok (.iload_n 1, 1) := by decide +kernel
theorem dX1_widened_31 : decode cX1_widened 31 = .ok (.iand, 1) := by decide +kernel
theorem dX1_widened_32 : decode cX1_widened 32 = .ok (.ifCond .eq 13, 3) := by decide +kernel
theorem dX1_widened_35 : decode cX1_widened 35 = .ok (.iload_n 3, 1) := by decide +kernel
theorem dX1_widened_36 : decode cX1_widened 36 = .ok (.aload_n 0, 1) := by decide +kernel
theorem dX1_widened_37 : decode cX1_widened 37 = .ok (.getfield 27, 3) := by decide +kernel
theorem dX1_widened_40 : decode cX1_widened 40 = .ok (.iload 4, 2) := by decide +kernel
theorem dX1_widened_42 : decode cX1_widened 42 = .ok (.iaload, 1) := by decide +kernel
theorem dX1_widened_43 : decode cX1_widened 43 = .ok (.ior, 1) := by decide +kernel
theorem dX1_widened_44 : decode cX1_widened 44 = .ok (.istore_n 3, 1) := by decide +kernel
theorem dX1_widened_45 : decode cX1_widened 45 = .ok (.iinc 4 1, 3) := by decide +kernel
theorem dX1_widened_48 : decode cX1_widened 48 = .ok (.goto (-43), 3) := by decide +kernel
theorem dX1_widened_51 : decode cX1_widened 51 = .ok (.iload_n 3, 1) := by decide +kernel
theorem dX1_widened_52 : decode cX1_widened 52 = .ok (.ireturn, 1) := by decide +kernel
theorem dX2_init_0 : decode cX2_init 0 = .ok (.aload_n 0, 1) := by decide +kernel
theorem dX2_init_1 : decode cX2_init 1 = .ok (.invokespecial 3, 3) := by decide +kernel
theorem dX2_init_4 : decode cX2_init 4 = .ok (.aload_n 0, 1) := by decide +kernel
theorem dX2_init_5 : decode cX2_init 5 = .ok (.bipush 6, 2) := by decide +kernel
theorem dX2_init_7 : decode cX2_init 7 = .ok (.newarray .int, 2) := by decide +kernel
theorem dX2_init_9 : decode cX2_init 9 = .ok (.putfield 9, 3) := by decide +kernel
theorem dX2_init_12 : decode cX2_init 12 = .ok (.aload_n 0, 1) := by decide +kernel
theorem dX2_init_13 : decode cX2_init 13 = .ok (.bipush 6, 2) := by decide +kernel
theorem dX2_init_15 : decode cX2_init 15 = .ok (.newarray .int, 2) := by decide +kernel
theorem dX2_init_17 : decode cX2_init 17 = .ok (.putfield 15, 3) := by decide +kernel
theorem dX2_init_20 : decode cX2_init 20 = .ok (.aload_n 0, 1) := by decide +kernel
theorem dX2_init_21 : decode cX2_init 21 = .ok (.iconst 0, 1) := by decide +kernel
theorem dX2_init_22 : decode cX2_init 22 = .ok (.putfield 18, 3) := by decide +kernel
theorem dX2_init_25 : decode cX2_init 25 = .ok (.return_, 1) := by decide +kernel
theorem dX2_add_0 : decode cX2_add 0 = .ok (.aload_n 0, 1) := by decide +kernel
theorem dX2_add_1 : decode cX2_add 1 = .ok (.getfield 18, 3) := by decide +kernel
theorem dX2_add_4 : decode cX2_add 4 = .ok (.bipush 6, 2) := by decide +kernel
theorem dX2_add_6 : decode cX2_add 6 = .ok (.if_icmp .ge 33, 3) := by decide +kernel
theorem dX2_add_9 : decode cX2_add 9 = .ok (.aload_n 0, 1) := by decide +kernel
theorem dX2_add_10 : decode cX2_add 10 = .ok (.getfield 9, 3) := by decide +kernel
theorem dX2_add_13 : decode cX2_add 13 = .ok (.aload_n 0, 1) := by decide +kernel
theorem dX2_add_14 : decode cX2_add 14 = .ok (.getfield 18, 3) := by decide +kernel
theorem dX2_add_17 : decode cX2_add 17 = .ok (.iload_n 1, 1) := by decide +kernel
theorem dX2_add_18 : decode cX2_add 18 = .ok (.iastore, 1) := by decide +kernel
theorem dX2_add_19 : decode cX2_add 19 = .ok (.aload_n 0, 1) := by decide +kernel
theorem dX2_add_20 : decode cX2_add 20 = .ok (.getfield 15, 3) := by decide +kernel
theorem dX2_add_23 : decode cX2_add 23 = .ok (.aload_n 0, 1) := by decide +kernel
theorem dX2_add_24 : decode cX2_add 24 = .ok (.getfield 18, 3) := by decide +kernel
theorem dX2_add_27 : decode cX2_add 27 = .ok (.iload_n 2, 1) := by decide +kernel
theorem dX2_add_28 : decode cX2_add 28 = .ok (.iastore, 1) := by decide +kernel
theorem dX2_add_29 : decode cX2_add 29 = .ok (.aload_n 0, 1) := by decide +kernel
theorem dX2_add_30 : decode cX2_add 30 = .ok (.dup, 1) := by decide +kernel
theorem dX2_add_31 : decode cX2_add 31 = .ok (.getfield 18, 3) := by decide +kernel
theorem dX2_add_34 : decode cX2_add 34 = .ok (.iconst 1, 1) := by decide +kernel
theorem dX2_add_35 : decode cX2_add 35 = .ok (.iadd, 1) := by decide +kernel
theorem dX2_add_36 : decode cX2_add 36 = .ok (.putfield 18, 3) := by decide +kernel
theorem dX2_add_39 : decode cX2_add 39 = .ok (.aload_n 0, 1) := by decide +kernel
theorem dX2_add_40 : decode cX2_add 40 = .ok (.getfield 18, 3) := by decide +kernel
theorem dX2_add_43 : decode cX2_add 43 = .ok (.ireturn, 1) := by decide +kernel
theorem dX2_clear_0 : decode cX2_clear 0 = .ok (.aload_n 0, 1) := by decide +kernel
theorem dX2_clear_1 : decode cX2_clear 1 = .ok (.getfield 18, 3) := by decide +kernel
theorem dX2_clear_4 : decode cX2_clear 4 = .ok (.istore_n 1, 1) := by decide +kernel
theorem dX2_clear_5 : decode cX2_clear 5 = .ok (.aload_n 0, 1) := by decide +kernel
theorem dX2_clear_6 : decode cX2_clear 6 = .ok (.iconst 0, 1) := by decide +kernel
theorem dX2_clear_7 : decode cX2_clear 7 = .ok (.putfield 18, 3) := by decide +kernel
theorem dX2_clear_10 : decode cX2_clear 10 = .ok (.iload_n 1, 1) := by decide +kernel
theorem dX2_clear_11 : decode cX2_clear 11 = .ok (.ireturn, 1) := by decide +kernel
theorem dX2_mostRounds_0 : decode cX2_mostRounds 0 = .ok (.iconst 0, 1) := by decide +kernel
theorem dX2_mostRounds_1 : decode cX2_mostRounds 1 = .ok (.istore_n 1, 1) := by decide +kernel
theorem dX2_mostRounds_2 : decode cX2_mostRounds 2 = .ok (.iconst 0, 1) := by decide +kernel
theorem dX2_mostRounds_3 : decode cX2_mostRounds 3 = .ok (.istore_n 2, 1) := by decide +kernel
theorem dX2_mostRounds_4 : decode cX2_mostRounds 4 = .ok (.iload_n 2, 1) := by decide +kernel
theorem dX2_mostRounds_5 : decode cX2_mostRounds 5 = .ok (.aload_n 0, 1) := by decide +kernel
theorem dX2_mostRounds_6 : decode cX2_mostRounds 6 = .ok (.getfield 18, 3) := by decide +kernel
theorem dX2_mostRounds_9 : decode cX2_mostRounds 9 = .ok (.if_icmp .ge 20, 3) := by decide +kernel
theorem dX2_mostRounds_12 : decode cX2_mostRounds 12 = .ok (.iload_n 1, 1) := by decide +kernel
theorem dX2_mostRounds_13 : decode cX2_mostRounds 13 = .ok (.aload_n 0, 1) := by decide +kernel
theorem dX2_mostRounds_14 : decode cX2_mostRounds 14 = .ok (.getfield 9, 3) := by decide +kernel
theorem dX2_mostRounds_17 : decode cX2_mostRounds 17 = .ok (.iload_n 2, 1) := by decide +kernel
theorem dX2_mostRounds_18 : decode cX2_mostRounds 18 = .ok (.iaload, 1) := by decide +kernel
theorem dX2_mostRounds_19 : decode cX2_mostRounds 19 = .ok (.invokestatic 22, 3) := by decide +kernel
theorem dX2_mostRounds_22 : decode cX2_mostRounds 22 = .ok (.istore_n 1, 1) := by decide +kernel
theorem dX2_mostRounds_23 : decode cX2_mostRounds 23 = .ok (.iinc 2 1, 3) := by decide +kernel
theorem dX2_mostRounds_26 : decode cX2_mostRounds 26 = .ok (.goto (-22), 3) := by decide +kernel
theorem dX2_mostRounds_29 : decode cX2_mostRounds 29 = .ok (.iload_n 1, 1) := by decide +kernel
theorem dX2_mostRounds_30 : decode cX2_mostRounds 30 = .ok (.ireturn, 1) := by decide +kernel
theorem dX2_speaksAgainst_0 : decode cX2_speaksAgainst 0 = .ok (.iconst 0, 1) := by decide +kernel
theorem dX2_speaksAgainst_1 : decode cX2_speaksAgainst 1 = .ok (.istore_n 3, 1) := by decide +kernel
theorem dX2_speaksAgainst_2 : decode cX2_speaksAgainst 2 = .ok (.iload_n 3, 1) := by decide +kernel
theorem dX2_speaksAgainst_3 : decode cX2_speaksAgainst 3 = .ok (.aload_n 0, 1) := by decide +kernel
theorem dX2_speaksAgainst_4 : decode cX2_speaksAgainst 4 = .ok (.getfield 18, 3) := by decide +kernel
theorem dX2_speaksAgainst_7 : decode cX2_speaksAgainst 7 = .ok (.if_icmp .ge 31, 3) := by decide +kernel
theorem dX2_speaksAgainst_10 : decode cX2_speaksAgainst 10 = .ok (.aload_n 0, 1) := by decide +kernel
theorem dX2_speaksAgainst_11 : decode cX2_speaksAgainst 11 = .ok (.getfield 9, 3) := by decide +kernel
theorem dX2_speaksAgainst_14 : decode cX2_speaksAgainst 14 = .ok (.iload_n 3, 1) := by decide +kernel
theorem dX2_speaksAgainst_15 : decode cX2_speaksAgainst 15 = .ok (.iaload, 1) := by decide +kernel
theorem dX2_speaksAgainst_16 : decode cX2_speaksAgainst 16 = .ok (.iload_n 1, 1) := by decide +kernel
theorem dX2_speaksAgainst_17 : decode cX2_speaksAgainst 17 = .ok (.if_icmp .ne 15, 3) := by decide +kernel
theorem dX2_speaksAgainst_20 : decode cX2_speaksAgainst 20 = .ok (.aload_n 0, 1) := by decide +kernel
theorem dX2_speaksAgainst_21 : decode cX2_speaksAgainst 21 = .ok (.getfield 15, 3) := by decide +kernel
theorem dX2_speaksAgainst_24 : decode cX2_speaksAgainst 24 = .ok (.iload_n 3, 1) := by decide +kernel
theorem dX2_speaksAgainst_25 : decode cX2_speaksAgainst 25 = .ok (.iaload, 1) := by decide +kernel
theorem dX2_speaksAgainst_26 : decode cX2_speaksAgainst 26 = .ok (.iload_n 2, 1) := by decide +kernel
theorem dX2_speaksAgainst_27 : decode cX2_speaksAgainst 27 = .ok (.if_icmp .eq 5, 3) := by decide +kernel
theorem dX2_speaksAgainst_30 : decode cX2_speaksAgainst 30 = .ok (.iconst 1, 1) := by decide +kernel
theorem dX2_speaksAgainst_31 : decode cX2_speaksAgainst 31 = .ok (.ireturn, 1) := by decide +kernel
theorem dX2_speaksAgainst_32 : decode cX2_speaksAgainst 32 = .ok (.iinc 3 1, 3) := by decide +kernel
theorem dX2_speaksAgainst_35 : decode cX2_speaksAgainst 35 = .ok (.goto (-33), 3) := by decide +kernel
theorem dX2_speaksAgainst_38 : decode cX2_speaksAgainst 38 = .ok (.iconst 0, 1) := by decide +kernel
theorem dX2_speaksAgainst_39 : decode cX2_speaksAgainst 39 = .ok (.ireturn, 1) := by decide +kernel
set_option maxRecDepth 20000 in
theorem ggX3_init_X3_begin : GoodIn wsX3_init wsX3_begin := goodIn_r _ [18, 19, 20, 21, 22, 7, 8, 5, 13, 6, 9, 10, 11, 12, 23, 24, 25, 26, 27, 28, 29, 30, 31, 32, 33, 34, 35, 36, 37, 38, 39, 40, 41, 42, 43, 44, 45, 46, 47, 48, 49, 50] (by decide +kernel) (by decide +kernel)
set_option maxRecDepth 20000 in
theorem gX3_init_X3_begin : GoodIn wsX3_init (wsV RX3 45 RX3 yX3_begin wsX3_begin) := goodIn_app (goodIn_of _ (by decide +kernel)) ggX3_init_X3_begin
theorem dX3_init_0 : decode cX3_init 0 = .ok (.aload_n 0, 1) := by decide +kernel
theorem dX3_init_1 : decode cX3_init 1 = .ok (.invokespecial 3, 3) := by decide +kernel
theorem dX3_init_4 : decode cX3_init 4 = .ok (.aload_n 0, 1) := by decide +kernel
theorem dX3_init_5 : decode cX3_init 5 = .ok (.iconst 4, 1) := by decide +kernel
theorem dX3_init_6 : decode cX3_init 6 = .ok (.newarray .int, 2) := by decide +kernel
theorem dX3_init_8 : decode cX3_init 8 = .ok (.putfield 9, 3) := by decide +kernel
theorem dX3_init_11 : decode cX3_init 11 = .ok (.aload_n 0, 1) := by decide +kernel
theorem dX3_init_12 : decode cX3_init 12 = .ok (.iconst 4, 1) := by decide +kernel
theorem dX3_init_13 : decode cX3_init 13 = .ok (.newarray .int, 2) := by decide +kernel
theorem dX3_init_15 : decode cX3_init 15 = .ok (.putfield 15, 3) := by decide +kernel
theorem dX3_init_18 : decode cX3_init 18 = .ok (.aload_n 0, 1) := by decide +kernel
theorem dX3_init_19 : decode cX3_init 19 = .ok (.iconst 0, 1) := by decide +kernel
theorem dX3_init_20 : decode cX3_init 20 = .ok (.putfield 18, 3) := by decide +kernel
theorem dX3_init_23 : decode cX3_init 23 = .ok (.aload_n 0, 1) := by decide +kernel
theorem dX3_init_24 : decode cX3_init 24 = .ok (.iconst 0, 1) := by decide +kernel
theorem dX3_init_25 : decode cX3_init 25 = .ok (.putfield 22, 3) := by decide +kernel
theorem dX3_init_28 : decode cX3_init 28 = .ok (.aload_n 0, 1) := by decide +kernel
theorem dX3_init_29 : decode cX3_init 29 = .ok (.iconst 0, 1) := by decide +kernel
theorem dX3_init_30 : decode cX3_init 30 = .ok (.putfield 25, 3) := by decide +kernel
theorem dX3_init_33 : decode cX3_init 33 = .ok (.aload_n 0, 1) := by decide +kernel
theorem dX3_init_34 : decode cX3_init 34 = .ok (.iconst 0, 1) := by decide +kernel
theorem dX3_init_35 : decode cX3_init 35 = .ok (.putfield 28, 3) := by decide +kernel
theorem dX3_init_38 : decode cX3_init 38 = .ok (.aload_n 0, 1) := by decide +kernel
theorem dX3_init_39 : decode cX3_init 39 = .ok (.iconst 0, 1) := by decide +kernel
theorem dX3_init_40 : decode cX3_init 40 = .ok (.putfield 31, 3) := by decide +kernel
theorem dX3_init_43 : decode cX3_init 43 = .ok (.aload_n 0, 1) := by decide +kernel
theorem dX3_init_44 : decode cX3_init 44 = .ok (.iconst 0, 1) := by decide +kernel
theorem dX3_init_45 : decode cX3_init 45 = .ok (.putfield 34, 3) := by decide +kernel
theorem dX3_init_48 : decode cX3_init 48 = .ok (.aload_n 0, 1) := by decide +kernel
theorem dX3_init_49 : decode cX3_init 49 = .ok (.aload_n 1, 1) := by decide +kernel
theorem dX3_init_50 : decode cX3_init 50 = .ok (.putfield 37, 3) := by decide +kernel
theorem dX3_init_53 : decode cX3_init 53 = .ok (.aload_n 0, 1) := by decide +kernel
theorem dX3_init_54 : decode cX3_init 54 = .ok (.aload_n 1, 1) := by decide +kernel
theorem dX3_init_55 : decode cX3_init 55 = .ok (.getfield 41, 3) := by decide +kernel
theorem dX3_init_58 : decode cX3_init 58 = .ok (.aload_n 1, 1) := by decide +kernel
theorem dX3_init_59 : decode cX3_init 59 = .ok (.getfield 44, 3) := by decide +kernel
theorem dX3_init_62 : decode cX3_init 62 = .ok (.invokevirtual 45, 3) := by decide +kernel
theorem dX3_init_65 : decode cX3_init 65 = .ok (.return_, 1) := by decide +kernel
set_option maxRecDepth 20000 in
theorem ggX3_begin_J7_fill_53178 : GoodIn wsX3_begin wsJ7_fill_53178 := goodIn_r _ [17] (by decide +kernel) (by decide +kernel)
set_option maxRecDepth 20000 in
theorem gX3_begin_J7_fill_53178 : GoodIn wsX3_begin (va_wsS RX3 58 yJ7_fill_53178 wsJ7_fill_53178) := goodIn_app (goodIn_of _ (by decide +kernel)) ggX3_begin_J7_fill_53178
set_option maxRecDepth 20000 in
theorem ggX3_begin_X1_allEdges : GoodIn wsX3_begin wsX1_allEdges := goodIn_r _ [22, 23, 33, 34, 35, 36, 37, 38, 39, 40, 41] (by decide +kernel) (by decide +kernel)
set_option maxRecDepth 20000 in
theorem gX3_begin_X1_allEdges : GoodIn wsX3_begin (wsV RX3 64 RX1 yX1_allEdges wsX1_allEdges) := goodIn_app (goodIn_of _ (by decide +kernel)) ggX3_begin_X1_allEdges
theorem dX3_begin_0 : decode cX3_begin 0 = .ok (.aload_n 0, 1) := by decide +kernel
theorem dX3_begin_1 : decode cX3_begin 1 = .ok (.iload_n 1, 1) := by decide +kernel
theorem dX3_begin_2 : decode cX3_begin 2 = .ok (.iconst 4, 1) := by decide +kernel
theorem dX3_begin_3 : decode cX3_begin 3 = .ok (.invokestatic 49, 3) := by decide +kernel
theorem dX3_begin_6 : decode cX3_begin 6 = .ok (.putfield 18, 3) := by decide +kernel
theorem dX3_begin_9 : decode cX3_begin 9 = .ok (.aload_n 0, 1) := by decide +kernel
theorem dX3_begin_10 : decode cX3_begin 10 = .ok (.iload_n 2, 1) := by decide +kernel
theorem dX3_begin_11 : decode cX3_begin 11 = .ok (.putfield 22, 3) := by decide +kernel
theorem dX3_begin_14 : decode cX3_begin 14 = .ok (.aload_n 0, 1) := by decide +kernel
theorem dX3_begin_15 : decode cX3_begin 15 = .ok (.getfield 9, 3) := by decide +kernel
theorem dX3_begin_18 : decode cX3_begin 18 = .ok (.aload_n 0, 1) := by decide +kernel
theorem dX3_begin_19 : decode cX3_begin 19 = .ok (.getfield 37, 3) := by decide +kernel
theorem dX3_begin_22 : decode cX3_begin 22 = .ok (.getfield 55, 3) := by decide +kernel
theorem dX3_begin_25 : decode cX3_begin 25 = .ok (.invokestatic 58, 3) := by decide +kernel
theorem dX3_begin_28 : decode cX3_begin 28 = .ok (.aload_n 0, 1) := by decide +kernel
theorem dX3_begin_29 : decode cX3_begin 29 = .ok (.getfield 15, 3) := by decide +kernel
theorem dX3_begin_32 : decode cX3_begin 32 = .ok (.bipush (-9), 2) := by decide +kernel
theorem dX3_begin_34 : decode cX3_begin 34 = .ok (.invokestatic 58, 3) := by decide +kernel
theorem dX3_begin_37 : decode cX3_begin 37 = .ok (.aload_n 0, 1) := by decide +kernel
theorem dX3_begin_38 : decode cX3_begin 38 = .ok (.iconst 0, 1) := by decide +kernel
theorem dX3_begin_39 : decode cX3_begin 39 = .ok (.putfield 25, 3) := by decide +kernel
theorem dX3_begin_42 : decode cX3_begin 42 = .ok (.aload_n 0, 1) := by decide +kernel
theorem dX3_begin_43 : decode cX3_begin 43 = .ok (.aload_n 0, 1) := by decide +kernel
theorem dX3_begin_44 : decode cX3_begin 44 = .ok (.getfield 37, 3) := by decide +kernel
theorem dX3_begin_47 : decode cX3_begin 47 = .ok (.invokevirtual 64, 3) := by decide +kernel
theorem dX3_begin_50 : decode cX3_begin 50 = .ok (.putfield 28, 3) := by decide +kernel
theorem dX3_begin_53 : decode cX3_begin 53 = .ok (.aload_n 0, 1) := by decide +kernel
theorem dX3_begin_54 : decode cX3_begin 54 = .ok (.iconst 0, 1) := by decide +kernel
theorem dX3_begin_55 : decode cX3_begin 55 = .ok (.putfield 31, 3) := by decide +kernel
theorem dX3_begin_58 : decode cX3_begin 58 = .ok (.aload_n 0, 1) := by decide +kernel
theorem dX3_begin_59 : decode cX3_begin 59 = .ok (.iconst 1, 1) := by decide +kernel
theorem dX3_begin_60 : decode cX3_begin 60 = .ok (.aload_n 0, 1) := by decide +kernel
theorem dX3_begin_61 : decode cX3_begin 61 = .ok (.getfield 37, 3) := by decide +kernel
theorem dX3_begin_64 : decode cX3_begin 64 = .ok (.getfield 55, 3) := by decide +kernel
theorem dX3_begin_67 : decode cX3_begin 67 = .ok (.ishl, 1) := by decide +kernel
theorem dX3_begin_68 : decode cX3_begin 68 = .ok (.putfield 34, 3) := by decide +kernel
theorem dX3_begin_71 : decode cX3_begin 71 = .ok (.return_, 1) := by decide +kernel
theorem dX3_become_0 : decode cX3_become 0 = .ok (.iconst 0, 1) := by decide +kernel
theorem dX3_become_1 : decode cX3_become 1 = .ok (.istore_n 2, 1) := by decide +kernel
theorem dX3_become_2 : decode cX3_become 2 = .ok (.iload_n 2, 1) := by decide +kernel
theorem dX3_become_3 : decode cX3_become 3 = .ok (.iconst 4, 1) := by decide +kernel
theorem dX3_become_4 : decode cX3_become 4 = .ok (.if_icmp .ge 33, 3) := by decide +kernel
theorem dX3_become_7 : decode cX3_become 7 = .ok (.aload_n 0, 1) := by decide +kernel
theorem dX3_become_8 : decode cX3_become 8 = .ok (.getfield 9, 3) := by decide +kernel
theorem dX3_become_11 : decode cX3_become 11 = .ok (.iload_n 2, 1) := by decide +kernel
theorem dX3_become_12 : decode cX3_become 12 = .ok (.aload_n 1, 1) := by decide +kernel
theorem dX3_become_13 : decode cX3_become 13 = .ok (.getfield 9, 3) := by decide +kernel
theorem dX3_become_16 : decode cX3_become 16 = .ok (.iload_n 2, 1) := by decide +kernel
theorem dX3_become_17 : decode cX3_become 17 = .ok (.iaload, 1) := by decide +kernel
theorem dX3_become_18 : decode cX3_become 18 = .ok (.iastore, 1) := by decide +kernel
theorem dX3_become_19 : decode cX3_become 19 = .ok (.aload_n 0, 1) := by decide +kernel
theorem dX3_become_20 : decode cX3_become 20 = .ok (.getfield 15, 3) := by decide +kernel
theorem dX3_become_23 : decode cX3_become 23 = .ok (.iload_n 2, 1) := by decide +kernel
theorem dX3_become_24 : decode cX3_become 24 = .ok (.aload_n 1, 1) := by decide +kernel
theorem dX3_become_25 : decode cX3_become 25 = .ok (.getfield 15, 3) := by decide +kernel
theorem dX3_become_28 : decode cX3_become 28 = .ok (.iload_n 2, 1) := by decide +kernel
theorem dX3_become_29 : decode cX3_become 29 = .ok (.iaload, 1) := by decide +kernel
theorem dX3_become_30 : decode cX3_become 30 = .ok (.iastore, 1) := by decide +kernel
theorem dX3_become_31 : decode cX3_become 31 = .ok (.iinc 2 1, 3) := by decide +kernel
theorem dX3_become_34 : decode cX3_become 34 = .ok (.goto (-32), 3) := by decide +kernel
theorem dX3_become_37 : decode cX3_become 37 = .ok (.aload_n 0, 1) := by decide +kernel
theorem dX3_become_38 : decode cX3_become 38 = .ok (.aload_n 1, 1) := by decide +kernel
theorem dX3_become_39 : decode cX3_become 39 = .ok (.getfield 18, 3) := by decide +kernel
theorem dX3_become_42 : decode cX3_become 42 = .ok (.putfield 18, 3) := by decide +kernel
theorem dX3_become_45 : decode cX3_become 45 = .ok (.aload_n 0, 1) := by decide +kernel
theorem dX3_become_46 : decode cX3_become 46 = .ok (.aload_n 1, 1) := by decide +kernel
theorem dX3_become_47 : decode cX3_become 47 = .ok (.getfield 22, 3) := by decide +kernel
theorem dX3_become_50 : decode cX3_become 50 = .ok (.putfield 22, 3) := by decide +kernel
theorem dX3_become_53 : decode cX3_become 53 = .ok (.aload_n 0, 1) := by decide +kernel
theorem dX3_become_54 : decode cX3_become 54 = .ok (.aload_n 1, 1) := by decide +kernel
theorem dX3_become_55 : decode cX3_become 55 = .ok (.getfield 25, 3) := by decide +kernel
theorem dX3_become_58 : decode cX3_become 58 = .ok (.putfield 25, 3) := by decide +kernel
theorem dX3_become_61 : decode cX3_become 61 = .ok (.aload_n 0, 1) := by decide +kernel
theorem dX3_become_62 : decode cX3_become 62 = .ok (.aload_n 1, 1) := by decide +kernel
theorem dX3_become_63 : decode cX3_become 63 = .ok (.getfield 28, 3) := by decide +kernel
theorem dX3_become_66 : decode cX3_become 66 = .ok (.putfield 28, 3) := by decide +kernel
theorem dX3_become_69 : decode cX3_become 69 = .ok (.aload_n 0, 1) := by decide +kernel
theorem dX3_become_70 : decode cX3_become 70 = .ok (.aload_n 1, 1) := by decide +kernel
theorem dX3_become_71 : decode cX3_become 71 = .ok (.getfield 31, 3) := by decide +kernel
theorem dX3_become_74 : decode cX3_become 74 = .ok (.putfield 31, 3) := by decide +kernel
theorem dX3_become_77 : decode cX3_become 77 = .ok (.aload_n 0, 1) := by decide +kernel
theorem dX3_become_78 : decode cX3_become 78 = .ok (.aload_n 1, 1) := by decide +kernel
theorem dX3_become_79 : decode cX3_become 79 = .ok (.getfield 34, 3) := by decide +kernel
theorem dX3_become_82 : decode cX3_become 82 = .ok (.putfield 34, 3) := by decide +kernel
theorem dX3_become_85 : decode cX3_become 85 = .ok (.return_, 1) := by decide +kernel
set_option maxRecDepth 20000 in
theorem ggX3_suppose_X3_become : GoodIn wsX3_suppose wsX3_become := goodIn_r _ [6, 7, 8, 9, 1, 10, 11, 12, 13, 14, 15, 16, 17, 18, 19, 20, 21, 22] (by decide +kernel) (by decide +kernel)
set_option maxRecDepth 20000 in
theorem gX3_suppose_X3_become : GoodIn wsX3_suppose (wsV RX3 68 RX3 yX3_become wsX3_become) := goodIn_app (goodIn_of _ (by decide +kernel)) ggX3_suppose_X3_become
theorem dX3_suppose_0 : decode cX3_suppose 0 = .ok (.aload_n 0, 1) := by decide +kernel
theorem dX3_suppose_1 : decode cX3_suppose 1 = .ok (.aload_n 1, 1) := by decide +kernel
theorem dX3_suppose_2 : decode cX3_suppose 2 = .ok (.invokevirtual 68, 3) := by decide +kernel
theorem dX3_suppose_5 : decode cX3_suppose 5 = .ok (.aload_n 0, 1) := by decide +kernel
theorem dX3_suppose_6 : decode cX3_suppose 6 = .ok (.iload_n 2, 1) := by decide +kernel
theorem dX3_suppose_7 : decode cX3_suppose 7 = .ok (.putfield 22, 3) := by decide +kernel
theorem dX3_suppose_10 : decode cX3_suppose 10 = .ok (.return_, 1) := by decide +kernel
theorem dX3_isSearcher_0 : decode cX3_isSearcher 0 = .ok (.iload_n 1, 1) := by decide +kernel
theorem dX3_isSearcher_1 : decode cX3_isSearcher 1 = .ok (.ifCond .lt 15, 3) := by decide +kernel
theorem dX3_isSearcher_4 : decode cX3_isSearcher 4 = .ok (.iload_n 1, 1) := by decide +kernel
theorem dX3_isSearcher_5 : decode cX3_isSearcher 5 = .ok (.aload_n 0, 1) := by decide +kernel
theorem dX3_isSearcher_6 : decode cX3_isSearcher 6 = .ok (.getfield 18, 3) := by decide +kernel
theorem dX3_isSearcher_9 : decode cX3_isSearcher 9 = .ok (.if_icmp .ge 7, 3) := by decide +kernel
theorem dX3_isSearcher_12 : decode cX3_isSearcher 12 = .ok (.iconst 1, 1) := by decide +kernel
theorem dX3_isSearcher_13 : decode cX3_isSearcher 13 = .ok (.goto 4, 3) := by decide +kernel
theorem dX3_isSearcher_16 : decode cX3_isSearcher 16 = .ok (.iconst 0, 1) := by decide +kernel
theorem dX3_isSearcher_17 : decode cX3_isSearcher 17 = .ok (.ireturn, 1) := by decide +kernel
set_option maxRecDepth 20000 in
theorem ggX3_lives_X3_isSearcher : GoodIn wsX3_lives wsX3_isSearcher := goodIn_r _ [6, 7, 8, 9, 10, 11, 12, 13, 14, 15, 16] (by decide +kernel) (by decide +kernel)
set_option maxRecDepth 20000 in
theorem gX3_lives_X3_isSearcher : GoodIn wsX3_lives (wsV RX3 72 RX3 yX3_isSearcher wsX3_isSearcher) := goodIn_app (goodIn_of _ (by decide +kernel)) ggX3_lives_X3_isSearcher
theorem dX3_lives_0 : decode cX3_lives 0 = .ok (.aload_n 0, 1) := by decide +kernel
theorem dX3_lives_1 : decode cX3_lives 1 = .ok (.iload_n 1, 1) := by decide +kernel
theorem dX3_lives_2 : decode cX3_lives 2 = .ok (.invokevirtual 72, 3) := by decide +kernel
theorem dX3_lives_5 : decode cX3_lives 5 = .ok (.ifCond .eq 18, 3) := by decide +kernel
theorem dX3_lives_8 : decode cX3_lives 8 = .ok (.aload_n 0, 1) := by decide +kernel
theorem dX3_lives_9 : decode cX3_lives 9 = .ok (.getfield 9, 3) := by decide +kernel
theorem dX3_lives_12 : decode cX3_lives 12 = .ok (.iload_n 1, 1) := by decide +kernel
theorem dX3_lives_13 : decode cX3_lives 13 = .ok (.iaload, 1) := by decide +kernel
theorem dX3_lives_14 : decode cX3_lives 14 = .ok (.bipush (-9), 2) := by decide +kernel
theorem dX3_lives_16 : decode cX3_lives 16 = .ok (.if_icmp .eq 7, 3) := by decide +kernel
theorem dX3_lives_19 : decode cX3_lives 19 = .ok (.iconst 1, 1) := by decide +kernel
theorem dX3_lives_20 : decode cX3_lives 20 = .ok (.goto 4, 3) := by decide +kernel
theorem dX3_lives_23 : decode cX3_lives 23 = .ok (.iconst 0, 1) := by decide +kernel
theorem dX3_lives_24 : decode cX3_lives 24 = .ok (.ireturn, 1) := by decide +kernel
set_option maxRecDepth 20000 in
theorem ggX3_placeOf_X3_isSearcher : GoodIn wsX3_placeOf wsX3_isSearcher := goodIn_r _ [6, 7, 8, 9, 10, 11, 12, 13, 14, 15, 16] (by decide +kernel) (by decide +kernel)
set_option maxRecDepth 20000 in
theorem gX3_placeOf_X3_isSearcher : GoodIn wsX3_placeOf (wsV RX3 72 RX3 yX3_isSearcher wsX3_isSearcher) := goodIn_app (goodIn_of _ (by decide +kernel)) ggX3_placeOf_X3_isSearcher
theorem dX3_placeOf_0 : decode cX3_placeOf 0 = .ok (.aload_n 0, 1) := by decide +kernel
theorem dX3_placeOf_1 : decode cX3_placeOf 1 = .ok (.iload_n 1, 1) := by decide +kernel
theorem dX3_placeOf_2 : decode cX3_placeOf 2 = .ok (.invokevirtual 72, 3) := by decide +kernel
theorem dX3_placeOf_5 : decode cX3_placeOf 5 = .ok (.ifCond .eq 12, 3) := by decide +kernel
theorem dX3_placeOf_8 : decode cX3_placeOf 8 = .ok (.aload_n 0, 1) := by decide +kernel
theorem dX3_placeOf_9 : decode cX3_placeOf 9 = .ok (.getfield 9, 3) := by decide +kernel
theorem dX3_placeOf_12 : decode cX3_placeOf 12 = .ok (.iload_n 1, 1) := by decide +kernel
theorem dX3_placeOf_13 : decode cX3_placeOf 13 = .ok (.iaload, 1) := by decide +kernel
theorem dX3_placeOf_14 : decode cX3_placeOf 14 = .ok (.goto 5, 3) := by decide +kernel
theorem dX3_placeOf_17 : decode cX3_placeOf 17 = .ok (.bipush (-9), 2) := by decide +kernel
theorem dX3_placeOf_19 : decode cX3_placeOf 19 = .ok (.ireturn, 1) := by decide +kernel
set_option maxRecDepth 20000 in
theorem ggX3_wayOutOf_X3_isSearcher : GoodIn wsX3_wayOutOf wsX3_isSearcher := goodIn_r _ [6, 7, 8, 9, 10, 11, 12, 13, 14, 15, 16] (by decide +kernel) (by decide +kernel)
set_option maxRecDepth 20000 in
theorem gX3_wayOutOf_X3_isSearcher : GoodIn wsX3_wayOutOf (wsV RX3 72 RX3 yX3_isSearcher wsX3_isSearcher) := goodIn_app (goodIn_of _ (by decide +kernel)) ggX3_wayOutOf_X3_isSearcher
theorem dX3_wayOutOf_0 : decode cX3_wayOutOf 0 = .ok (.aload_n 0, 1) := by decide +kernel
theorem dX3_wayOutOf_1 : decode cX3_wayOutOf 1 = .ok (.iload_n 1, 1) := by decide +kernel
theorem dX3_wayOutOf_2 : decode cX3_wayOutOf 2 = .ok (.invokevirtual 72, 3) := by decide +kernel
theorem dX3_wayOutOf_5 : decode cX3_wayOutOf 5 = .ok (.ifCond .eq 12, 3) := by decide +kernel
theorem dX3_wayOutOf_8 : decode cX3_wayOutOf 8 = .ok (.aload_n 0, 1) := by decide +kernel
theorem dX3_wayOutOf_9 : decode cX3_wayOutOf 9 = .ok (.getfield 15, 3) := by decide +kernel
theorem dX3_wayOutOf_12 : decode cX3_wayOutOf 12 = .ok (.iload_n 1, 1) := by decide +kernel
theorem dX3_wayOutOf_13 : decode cX3_wayOutOf 13 = .ok (.iaload, 1) := by decide +kernel
theorem dX3_wayOutOf_14 : decode cX3_wayOutOf 14 = .ok (.goto 5, 3) := by decide +kernel
theorem dX3_wayOutOf_17 : decode cX3_wayOutOf 17 = .ok (.bipush (-9), 2) := by decide +kernel
theorem dX3_wayOutOf_19 : decode cX3_wayOutOf 19 = .ok (.ireturn, 1) := by decide +kernel
theorem dX3_livingOnes_0 : decode cX3_livingOnes 0 = .ok (.iconst 0, 1) := by decide +kernel
theorem dX3_livingOnes_1 : decode cX3_livingOnes 1 = .ok (.istore_n 1, 1) := by decide +kernel
theorem dX3_livingOnes_2 : decode cX3_livingOnes 2 = .ok (.iconst 0, 1) := by decide +kernel
theorem dX3_livingOnes_3 : decode cX3_livingOnes 3 = .ok (.istore_n 2, 1) := by decide +kernel
theorem dX3_livingOnes_4 : decode cX3_livingOnes 4 = .ok (.iload_n 2, 1) := by decide +kernel
theorem dX3_livingOnes_5 : decode cX3_livingOnes 5 = .ok (.aload_n 0, 1) := by decide +kernel
theorem dX3_livingOnes_6 : decode cX3_livingOnes 6 = .ok (.getfield 18, 3) := by decide +kernel
theorem dX3_livingOnes_9 : decode cX3_livingOnes 9 = .ok (.if_icmp .ge 26, 3) := by decide +kernel
theorem dX3_livingOnes_12 : decode cX3_livingOnes 12 = .ok (.aload_n 0, 1) := by decide +kernel
theorem dX3_livingOnes_13 : decode cX3_livingOnes 13 = .ok (.getfield 9, 3) := by decide +kernel
theorem dX3_livingOnes_16 : decode cX3_livingOnes 16 = .ok (.iload_n 2, 1) := by decide +kernel
theorem dX3_livingOnes_17 : decode cX3_livingOnes 17 = .ok (.iaload, 1) := by decide +kernel
theorem dX3_livingOnes_18 : decode cX3_livingOnes 18 = .ok (.bipush (-9), 2) := by decide +kernel
theorem dX3_livingOnes_20 : decode cX3_livingOnes 20 = .ok (.if_icmp .eq 9, 3) := by decide +kernel
theorem dX3_livingOnes_23 : decode cX3_livingOnes 23 = .ok (.iload_n 1, 1) := by decide +kernel
theorem dX3_livingOnes_24 : decode cX3_livingOnes 24 = .ok (.iconst 1, 1) := by decide +kernel
theorem dX3_livingOnes_25 : decode cX3_livingOnes 25 = .ok (.iload_n 2, 1) := by decide +kernel
theorem dX3_livingOnes_26 : decode cX3_livingOnes 26 = .ok (.ishl, 1) := by decide +kernel
theorem dX3_livingOnes_27 : decode cX3_livingOnes 27 = .ok (.ior, 1) := by decide +kernel
theorem dX3_livingOnes_28 : decode cX3_livingOnes 28 = .ok (.istore_n 1, 1) := by decide +kernel
theorem dX3_livingOnes_29 : decode cX3_livingOnes 29 = .ok (.iinc 2 1, 3) := by decide +kernel
theorem dX3_livingOnes_32 : decode cX3_livingOnes 32 = .ok (.goto (-28), 3) := by decide +kernel
theorem dX3_livingOnes_35 : decode cX3_livingOnes 35 = .ok (.iload_n 1, 1) := by decide +kernel
theorem dX3_livingOnes_36 : decode cX3_livingOnes 36 = .ok (.ireturn, 1) := by decide +kernel
set_option maxRecDepth 20000 in
theorem ggX3_living_X3_livingOnes : GoodIn wsX3_living wsX3_livingOnes := goodIn_r _ [5, 6, 7, 15, 16, 17, 18, 19, 20, 21, 22, 23] (by decide +kernel) (by decide +kernel)
set_option maxRecDepth 20000 in
theorem gX3_living_X3_livingOnes : GoodIn wsX3_living (wsV RX3 76 RX3 yX3_livingOnes wsX3_livingOnes) := goodIn_app (goodIn_of _ (by decide +kernel)) ggX3_living_X3_livingOnes
set_option maxRecDepth 20000 in
theorem ggX3_living_J6_bitCount_0f7a4 : GoodIn wsX3_living wsJ6_bitCount_0f7a4 := goodIn_r _ [11, 12, 13, 14] (by decide +kernel) (by decide +kernel)
set_option maxRecDepth 20000 in
theorem gX3_living_J6_bitCount_0f7a4 : GoodIn wsX3_living (va_wsS RX3 79 yJ6_bitCount_0f7a4 wsJ6_bitCount_0f7a4) := goodIn_app (goodIn_of _ (by decide +kernel)) ggX3_living_J6_bitCount_0f7a4
theorem dX3_living_0 : decode cX3_living 0 = .ok (.aload_n 0, 1) := by decide +kernel
theorem dX3_living_1 : decode cX3_living 1 = .ok (.invokevirtual 76, 3) := by decide +kernel
theorem dX3_living_4 : decode cX3_living 4 = .ok (.invokestatic 79, 3) := by decide +kernel
theorem dX3_living_7 : decode cX3_living 7 = .ok (.ireturn, 1) := by decide +kernel
set_option maxRecDepth 20000 in
theorem ggX3_stateOf_X5_holds : GoodIn wsX3_stateOf wsX5_holds := goodIn_r _ [5] (by decide +kernel) (by decide +kernel)
set_option maxRecDepth 20000 in
theorem gX3_stateOf_X5_holds_n85 : GoodIn wsX3_stateOf (wsX5_holds) := ggX3_stateOf_X5_holds
theorem dX3_stateOf_0 : decode cX3_stateOf 0 = .ok (.aload_n 0, 1) := by decide +kernel
theorem dX3_stateOf_1 : decode cX3_stateOf 1 = .ok (.getfield 28, 3) := by decide +kernel
theorem dX3_stateOf_4 : decode cX3_stateOf 4 = .ok (.iload_n 1, 1) := by decide +kernel
theorem dX3_stateOf_5 : decode cX3_stateOf 5 = .ok (.invokestatic 85, 3) := by decide +kernel
theorem dX3_stateOf_8 : decode cX3_stateOf 8 = .ok (.ifCond .eq 5, 3) := by decide +kernel
theorem dX3_stateOf_11 : decode cX3_stateOf 11 = .ok (.iconst 0, 1) := by decide +kernel
theorem dX3_stateOf_12 : decode cX3_stateOf 12 = .ok (.ireturn, 1) := by decide +kernel
theorem dX3_stateOf_13 : decode cX3_stateOf 13 = .ok (.aload_n 0, 1) := by decide +kernel
theorem dX3_stateOf_14 : decode cX3_stateOf 14 = .ok (.getfield 31, 3) := by decide +kernel
theorem dX3_stateOf_17 : decode cX3_stateOf 17 = .ok (.iload_n 1, 1) := by decide +kernel
theorem dX3_stateOf_18 : decode cX3_stateOf 18 = .ok (.invokestatic 85, 3) := by decide +kernel
theorem dX3_stateOf_21 : decode cX3_stateOf 21 = .ok (.ifCond .eq 7, 3) := by decide +kernel
theorem dX3_stateOf_24 : decode cX3_stateOf 24 = .ok (.iconst 2, 1) := by decide +kernel
theorem dX3_stateOf_25 : decode cX3_stateOf 25 = .ok (.goto 4, 3) := by decide +kernel
theorem dX3_stateOf_28 : decode cX3_stateOf 28 = .ok (.iconst 1, 1) := by decide +kernel
theorem dX3_stateOf_29 : decode cX3_stateOf 29 = .ok (.ireturn, 1) := by decide +kernel
theorem dX3_whoIsOutThrough_0 : decode cX3_whoIsOutThrough 0 = .ok (.iconst 0, 1) := by decide +kernel
theorem dX3_whoIsOutThrough_1 : decode cX3_whoIsOutThrough 1 = .ok (.istore_n 2, 1) := by decide +kernel
theorem dX3_whoIsOutThrough_2 : decode cX3_whoIsOutThrough 2 = .ok (.iload_n 2, 1) := by decide +kernel
theorem dX3_whoIsOutThrough_3 : decode cX3_whoIsOutThrough 3 = .ok (.aload_n 0, 1) := by decide +kernel
theorem dX3_whoIsOutThrough_4 : decode cX3_whoIsOutThrough 4 = .ok (.getfield 18, 3) := by decide +kernel
theorem dX3_whoIsOutThrough_7 : decode cX3_whoIsOutThrough 7 = .ok (.if_icmp .ge 21, 3) := by decide +kernel
theorem dX3_whoIsOutThrough_10 : decode cX3_whoIsOutThrough 10 = .ok (.aload_n 0, 1) := by decide +kernel
theorem dX3_whoIsOutThrough_11 : decode cX3_whoIsOutThrough 11 = .ok (.getfield 15, 3) := by decide +kernel
theorem dX3_whoIsOutThrough_14 : decode cX3_whoIsOutThrough 14 = .ok (.iload_n 2, 1) := by decide +kernel
theorem dX3_whoIsOutThrough_15 : decode cX3_whoIsOutThrough 15 = .ok (.iaload, 1) := by decide +kernel
theorem dX3_whoIsOutThrough_16 : decode cX3_whoIsOutThrough 16 = .ok (.iload_n 1, 1) := by decide +kernel
theorem dX3_whoIsOutThrough_17 : decode cX3_whoIsOutThrough 17 = .ok (.if_icmp .ne 5, 3) := by decide +kernel
theorem dX3_whoIsOutThrough_20 : decode cX3_whoIsOutThrough 20 = .ok (.iload_n 2, 1) := by decide +kernel
theorem dX3_whoIsOutThrough_21 : decode cX3_whoIsOutThrough 21 = .ok (.ireturn, 1) := by decide +kernel
theorem dX3_whoIsOutThrough_22 : decode cX3_whoIsOutThrough 22 = .ok (.iinc 2 1, 3) := by decide +kernel
theorem dX3_whoIsOutThrough_25 : decode cX3_whoIsOutThrough 25 = .ok (.goto (-23), 3) := by decide +kernel
theorem dX3_whoIsOutThrough_28 : decode cX3_whoIsOutThrough 28 = .ok (.bipush (-9), 2) := by decide +kernel
theorem dX3_whoIsOutThrough_30 : decode cX3_whoIsOutThrough 30 = .ok (.ireturn, 1) := by decide +kernel
theorem dX3_mayBe_0 : decode cX3_mayBe 0 = .ok (.iconst 1, 1) := by decide +kernel
theorem dX3_mayBe_1 : decode cX3_mayBe 1 = .ok (.aload_n 0, 1) := by decide +kernel
theorem dX3_mayBe_2 : decode cX3_mayBe 2 = .ok (.getfield 37, 3) := by decide +kernel
theorem dX3_mayBe_5 : decode cX3_mayBe 5 = .ok (.getfield 89, 3) := by decide +kernel
theorem dX3_mayBe_8 : decode cX3_mayBe 8 = .ok (.ishl, 1) := by decide +kernel
theorem dX3_mayBe_9 : decode cX3_mayBe 9 = .ok (.iconst 1, 1) := by decide +kernel
theorem dX3_mayBe_10 : decode cX3_mayBe 10 = .ok (.isub, 1) := by decide +kernel
theorem dX3_mayBe_11 : decode cX3_mayBe 11 = .ok (.aload_n 0, 1) := by decide +kernel
theorem dX3_mayBe_12 : decode cX3_mayBe 12 = .ok (.getfield 34, 3) := by decide +kernel
theorem dX3_mayBe_15 : decode cX3_mayBe 15 = .ok (.iconst (-1), 1) := by decide +kernel
theorem dX3_mayBe_16 : decode cX3_mayBe 16 = .ok (.ixor, 1) := by decide +kernel
theorem dX3_mayBe_17 : decode cX3_mayBe 17 = .ok (.iand, 1) := by decide +kernel
theorem dX3_mayBe_18 : decode cX3_mayBe 18 = .ok (.ireturn, 1) := by decide +kernel
set_option maxRecDepth 20000 in
theorem ggX3_isKnown_X3_mayBe : GoodIn wsX3_isKnown wsX3_mayBe := goodIn_r _ [5, 6, 7, 15, 16, 17, 18, 19, 20, 21, 22, 23, 24, 25, 26, 27, 28, 29, 30, 31, 32] (by decide +kernel) (by decide +kernel)
set_option maxRecDepth 20000 in
theorem gX3_isKnown_X3_mayBe : GoodIn wsX3_isKnown (wsV RX3 92 RX3 yX3_mayBe wsX3_mayBe) := goodIn_app (goodIn_of _ (by decide +kernel)) ggX3_isKnown_X3_mayBe
set_option maxRecDepth 20000 in
theorem ggX3_isKnown_J6_bitCount_0f7a4 : GoodIn wsX3_isKnown wsJ6_bitCount_0f7a4 := goodIn_r _ [11, 12, 13, 14] (by decide +kernel) (by decide +kernel)
set_option maxRecDepth 20000 in
theorem gX3_isKnown_J6_bitCount_0f7a4 : GoodIn wsX3_isKnown (va_wsS RX3 79 yJ6_bitCount_0f7a4 wsJ6_bitCount_0f7a4) := goodIn_app (goodIn_of _ (by decide +kernel)) ggX3_isKnown_J6_bitCount_0f7a4
theorem dX3_isKnown_0 : decode cX3_isKnown 0 = .ok (.aload_n 0, 1) := by decide +kernel
theorem dX3_isKnown_1 : decode cX3_isKnown 1 = .ok (.invokevirtual 92, 3) := by decide +kernel
theorem dX3_isKnown_4 : decode cX3_isKnown 4 = .ok (.invokestatic 79, 3) := by decide +kernel
theorem dX3_isKnown_7 : decode cX3_isKnown 7 = .ok (.iconst 1, 1) := by decide +kernel
theorem dX3_isKnown_8 : decode cX3_isKnown 8 = .ok (.if_icmp .ne 7, 3) := by decide +kernel
theorem dX3_isKnown_11 : decode cX3_isKnown 11 = .ok (.iconst 1, 1) := by decide +kernel
theorem dX3_isKnown_12 : decode cX3_isKnown 12 = .ok (.goto 4, 3) := by decide +kernel
theorem dX3_isKnown_15 : decode cX3_isKnown 15 = .ok (.iconst 0, 1) := by decide +kernel
theorem dX3_isKnown_16 : decode cX3_isKnown 16 = .ok (.ireturn, 1) := by decide +kernel
set_option maxRecDepth 20000 in
theorem ggX3_isKnownAt_X3_isKnown : GoodIn wsX3_isKnownAt wsX3_isKnown := goodIn_r _ [5, 6, 7, 8, 4, 9, 10, 11, 12, 13, 14, 15, 16, 17, 18, 22, 23, 24, 25, 26, 27, 28, 29, 30, 31, 32, 33, 34, 35, 36, 37, 38, 39] (by decide +kernel) (by decide +kernel)
set_option maxRecDepth 20000 in
theorem gX3_isKnownAt_X3_isKnown : GoodIn wsX3_isKnownAt (wsV RX3 95 RX3 yX3_isKnown wsX3_isKnown) := goodIn_app (goodIn_of _ (by decide +kernel)) ggX3_isKnownAt_X3_isKnown
set_option maxRecDepth 20000 in
theorem ggX3_isKnownAt_X3_mayBe : GoodIn wsX3_isKnownAt wsX3_mayBe := goodIn_r _ [9, 10, 11, 22, 23, 24, 25, 26, 27, 28, 29, 30, 31, 32, 33, 34, 35, 36, 37, 38, 39] (by decide +kernel) (by decide +kernel)
set_option maxRecDepth 20000 in
theorem gX3_isKnownAt_X3_mayBe : GoodIn wsX3_isKnownAt (wsV RX3 92 RX3 yX3_mayBe wsX3_mayBe) := goodIn_app (goodIn_of _ (by decide +kernel)) ggX3_isKnownAt_X3_mayBe
set_option maxRecDepth 20000 in
theorem ggX3_isKnownAt_X5_holds : GoodIn wsX3_isKnownAt wsX5_holds := goodIn_r _ [21] (by decide +kernel) (by decide +kernel)
set_option maxRecDepth 20000 in
theorem gX3_isKnownAt_X5_holds_n85 : GoodIn wsX3_isKnownAt (wsX5_holds) := ggX3_isKnownAt_X5_holds
theorem dX3_isKnownAt_0 : decode cX3_isKnownAt 0 = .ok (.aload_n 0, 1) := by decide +kernel
theorem dX3_isKnownAt_1 : decode cX3_isKnownAt 1 = .ok (.invokevirtual 95, 3) := by decide +kernel
theorem dX3_isKnownAt_4 : decode cX3_isKnownAt 4 = .ok (.ifCond .eq 18, 3) := by decide +kernel
theorem dX3_isKnownAt_7 : decode cX3_isKnownAt 7 = .ok (.aload_n 0, 1) := by decide +kernel
theorem dX3_isKnownAt_8 : decode cX3_isKnownAt 8 = .ok (.invokevirtual 92, 3) := by decide +kernel
theorem dX3_isKnownAt_11 : decode cX3_isKnownAt 11 = .ok (.iload_n 1, 1) := by decide +kernel
theorem dX3_isKnownAt_12 : decode cX3_isKnownAt 12 = .ok (.invokestatic 85, 3) := by decide +kernel
theorem dX3_isKnownAt_15 : decode cX3_isKnownAt 15 = .ok (.ifCond .eq 7, 3) := by decide +kernel
theorem dX3_isKnownAt_18 : decode cX3_isKnownAt 18 = .ok (.iconst 1, 1) := by decide +kernel
theorem dX3_isKnownAt_19 : decode cX3_isKnownAt 19 = .ok (.goto 4, 3) := by decide +kernel
theorem dX3_isKnownAt_22 : decode cX3_isKnownAt 22 = .ok (.iconst 0, 1) := by decide +kernel
theorem dX3_isKnownAt_23 : decode cX3_isKnownAt 23 = .ok (.ireturn, 1) := by decide +kernel
set_option maxRecDepth 20000 in
theorem ggX3_fated_X3_mayBe : GoodIn wsX3_fated wsX3_mayBe := goodIn_r _ [7, 8, 9, 10, 11, 12, 13, 14, 15, 16, 17, 18, 19, 20, 21, 22, 23, 24, 25, 26, 27] (by decide +kernel) (by decide +kernel)
set_option maxRecDepth 20000 in
theorem gX3_fated_X3_mayBe : GoodIn wsX3_fated (wsV RX3 92 RX3 yX3_mayBe wsX3_mayBe) := goodIn_app (goodIn_of _ (by decide +kernel)) ggX3_fated_X3_mayBe
theorem dX3_fated_0 : decode cX3_fated 0 = .ok (.aload_n 0, 1) := by decide +kernel
theorem dX3_fated_1 : decode cX3_fated 1 = .ok (.invokevirtual 92, 3) := by decide +kernel
theorem dX3_fated_4 : decode cX3_fated 4 = .ok (.istore_n 1, 1) := by decide +kernel
theorem dX3_fated_5 : decode cX3_fated 5 = .ok (.iconst 0, 1) := by decide +kernel
theorem dX3_fated_6 : decode cX3_fated 6 = .ok (.istore_n 2, 1) := by decide +kernel
theorem dX3_fated_7 : decode cX3_fated 7 = .ok (.iload_n 2, 1) := by decide +kernel
theorem dX3_fated_8 : decode cX3_fated 8 = .ok (.aload_n 0, 1) := by decide +kernel
theorem dX3_fated_9 : decode cX3_fated 9 = .ok (.getfield 18, 3) := by decide +kernel
theorem dX3_fated_12 : decode cX3_fated 12 = .ok (.if_icmp .ge 33, 3) := by decide +kernel
theorem dX3_fated_15 : decode cX3_fated 15 = .ok (.aload_n 0, 1) := by decide +kernel
theorem dX3_fated_16 : decode cX3_fated 16 = .ok (.getfield 9, 3) := by decide +kernel
theorem dX3_fated_19 : decode cX3_fated 19 = .ok (.iload_n 2, 1) := by decide +kernel
theorem dX3_fated_20 : decode cX3_fated 20 = .ok (.iaload, 1) := by decide +kernel
theorem dX3_fated_21 : decode cX3_fated 21 = .ok (.bipush (-9), 2) := by decide +kernel
theorem dX3_fated_23 : decode cX3_fated 23 = .ok (.if_icmp .eq 16, 3) := by decide +kernel
theorem dX3_fated_26 : decode cX3_fated 26 = .ok (.iload_n 1, 1) := by decide +kernel
theorem dX3_fated_27 : decode cX3_fated 27 = .ok (.iconst 1, 1) := by decide +kernel
theorem dX3_fated_28 : decode cX3_fated 28 = .ok (.aload_n 0, 1) := by decide +kernel
theorem dX3_fated_29 : decode cX3_fated 29 = .ok (.getfield 9, 3) := by decide +kernel
theorem dX3_fated_32 : decode cX3_fated 32 = .ok (.iload_n 2, 1) := by decide +kernel
theorem dX3_fated_33 : decode cX3_fated 33 = .ok (.iaload, 1) := by decide +kernel
theorem dX3_fated_34 : decode cX3_fated 34 = .ok (.ishl, 1) := by decide +kernel
theorem dX3_fated_35 : decode cX3_fated 35 = .ok (.iconst (-1), 1) := by decide +kernel
theorem dX3_fated_36 : decode cX3_fated 36 = .ok (.ixor, 1) := by decide +kernel
theorem dX3_fated_37 : decode cX3_fated 37 = .ok (.iand, 1) := by decide +kernel
theorem dX3_fated_38 : decode cX3_fated 38 = .ok (.istore_n 1, 1) := by decide +kernel
theorem dX3_fated_39 : decode cX3_fated 39 = .ok (.iinc 2 1, 3) := by decide +kernel
theorem dX3_fated_42 : decode cX3_fated 42 = .ok (.goto (-35), 3) := by decide +kernel
theorem dX3_fated_45 : decode cX3_fated 45 = .ok (.iload_n 1, 1) := by decide +kernel
theorem dX3_fated_46 : decode cX3_fated 46 = .ok (.ireturn, 1) := by decide +kernel
theorem dX3_addSearcher_0 : decode cX3_addSearcher 0 = .ok (.aload_n 0, 1) := by decide +kernel
theorem dX3_addSearcher_1 : decode cX3_addSearcher 1 = .ok (.getfield 18, 3) := by decide +kernel
theorem dX3_addSearcher_4 : decode cX3_addSearcher 4 = .ok (.istore_n 1, 1) := by decide +kernel
theorem dX3_addSearcher_5 : decode cX3_addSearcher 5 = .ok (.iload_n 1, 1) := by decide +kernel
theorem dX3_addSearcher_6 : decode cX3_addSearcher 6 = .ok (.iconst 4, 1) := by decide +kernel
theorem dX3_addSearcher_7 : decode cX3_addSearcher 7 = .ok (.if_icmp .ge 34, 3) := by decide +kernel
theorem dX3_addSearcher_10 : decode cX3_addSearcher 10 = .ok (.aload_n 0, 1) := by decide +kernel
theorem dX3_addSearcher_11 : decode cX3_addSearcher 11 = .ok (.getfield 9, 3) := by decide +kernel
theorem dX3_addSearcher_14 : decode cX3_addSearcher 14 = .ok (.iload_n 1, 1) := by decide +kernel
theorem dX3_addSearcher_15 : decode cX3_addSearcher 15 = .ok (.aload_n 0, 1) := by decide +kernel
theorem dX3_addSearcher_16 : decode cX3_addSearcher 16 = .ok (.getfield 37, 3) := by decide +kernel
theorem dX3_addSearcher_19 : decode cX3_addSearcher 19 = .ok (.getfield 55, 3) := by decide +kernel
theorem dX3_addSearcher_22 : decode cX3_addSearcher 22 = .ok (.iastore, 1) := by decide +kernel
theorem dX3_addSearcher_23 : decode cX3_addSearcher 23 = .ok (.aload_n 0, 1) := by decide +kernel
theorem dX3_addSearcher_24 : decode cX3_addSearcher 24 = .ok (.getfield 15, 3) := by decide +kernel
theorem dX3_addSearcher_27 : decode cX3_addSearcher 27 = .ok (.iload_n 1, 1) := by decide +kernel
theorem dX3_addSearcher_28 : decode cX3_addSearcher 28 = .ok (.bipush (-9), 2) := by decide +kernel
theorem dX3_addSearcher_30 : decode cX3_addSearcher 30 = .ok (.iastore, 1) := by decide +kernel
theorem dX3_addSearcher_31 : decode cX3_addSearcher 31 = .ok (.aload_n 0, 1) := by decide +kernel
theorem dX3_addSearcher_32 : decode cX3_addSearcher 32 = .ok (.dup, 1) := by decide +kernel
theorem dX3_addSearcher_33 : decode cX3_addSearcher 33 = .ok (.getfield 18, 3) := by decide +kernel
theorem dX3_addSearcher_36 : decode cX3_addSearcher 36 = .ok (.iconst 1, 1) := by decide +kernel
theorem dX3_addSearcher_37 : decode cX3_addSearcher 37 = .ok (.iadd, 1) := by decide +kernel
theorem dX3_addSearcher_38 : decode cX3_addSearcher 38 = .ok (.putfield 18, 3) := by decide +kernel
theorem dX3_addSearcher_41 : decode cX3_addSearcher 41 = .ok (.iload_n 1, 1) := by decide +kernel
theorem dX3_addSearcher_42 : decode cX3_addSearcher 42 = .ok (.ireturn, 1) := by decide +kernel
set_option maxRecDepth 20000 in
theorem ggX3_openEdges_X3_lives : GoodIn wsX3_openEdges wsX3_lives := goodIn_r _ [10, 4, 11, 12, 13, 9, 14, 15, 41, 42, 43, 44, 45, 46, 47, 48, 49] (by decide +kernel) (by decide +kernel)
set_option maxRecDepth 20000 in
theorem gX3_openEdges_X3_lives : GoodIn wsX3_openEdges (wsV RX3 99 RX3 yX3_lives wsX3_lives) := goodIn_app (goodIn_of _ (by decide +kernel)) ggX3_openEdges_X3_lives
set_option maxRecDepth 20000 in
theorem ggX3_openEdges_X3_isKnown : GoodIn wsX3_openEdges wsX3_isKnown := goodIn_r _ [19, 20, 21, 22, 9, 23, 3, 24, 25, 26, 27, 28, 29, 30, 31, 41, 42, 43, 44, 45, 46, 47, 48, 49, 50, 51, 52, 53, 54, 55, 56, 57, 58] (by decide +kernel) (by decide +kernel)
set_option maxRecDepth 20000 in
theorem gX3_openEdges_X3_isKnown : GoodIn wsX3_openEdges (wsV RX3 95 RX3 yX3_isKnown wsX3_isKnown) := goodIn_app (goodIn_of _ (by decide +kernel)) ggX3_openEdges_X3_isKnown
set_option maxRecDepth 20000 in
theorem ggX3_openEdges_X3_mayBe : GoodIn wsX3_openEdges wsX3_mayBe := goodIn_r _ [23, 3, 24, 41, 42, 43, 44, 45, 46, 47, 48, 49, 50, 51, 52, 53, 54, 55, 56, 57, 58] (by decide +kernel) (by decide +kernel)
set_option maxRecDepth 20000 in
theorem gX3_openEdges_X3_mayBe : GoodIn wsX3_openEdges (wsV RX3 92 RX3 yX3_mayBe wsX3_mayBe) := goodIn_app (goodIn_of _ (by decide +kernel)) ggX3_openEdges_X3_mayBe
set_option maxRecDepth 20000 in
theorem ggX3_openEdges_X5_least : GoodIn wsX3_openEdges wsX5_least := goodIn_r _ [34] (by decide +kernel) (by decide +kernel)
set_option maxRecDepth 20000 in
theorem gX3_openEdges_X5_least_n102 : GoodIn wsX3_openEdges (wsX5_least) := ggX3_openEdges_X5_least
set_option maxRecDepth 20000 in
theorem ggX3_openEdges_X1_edgesFrom : GoodIn wsX3_openEdges wsX1_edgesFrom := goodIn_r _ [39, 40, 50, 51, 52, 53, 54, 55, 56, 57, 58] (by decide +kernel) (by decide +kernel)
set_option maxRecDepth 20000 in
theorem gX3_openEdges_X1_edgesFrom : GoodIn wsX3_openEdges (wsV RX3 105 RX1 yX1_edgesFrom wsX1_edgesFrom) := goodIn_app (goodIn_of _ (by decide +kernel)) ggX3_openEdges_X1_edgesFrom
theorem dX3_openEdges_0 : decode cX3_openEdges 0 = .ok (.aload_n 0, 1) := by decide +kernel
theorem dX3_openEdges_1 : decode cX3_openEdges 1 = .ok (.iload_n 1, 1) := by decide +kernel
theorem dX3_openEdges_2 : decode cX3_openEdges 2 = .ok (.invokevirtual 99, 3) := by decide +kernel
theorem dX3_openEdges_5 : decode cX3_openEdges 5 = .ok (.ifCond .ne 5, 3) := by decide +kernel
theorem dX3_openEdges_8 : decode cX3_openEdges 8 = .ok (.iconst 0, 1) := by decide +kernel
theorem dX3_openEdges_9 : decode cX3_openEdges 9 = .ok (.ireturn, 1) := by decide +kernel
theorem dX3_openEdges_10 : decode cX3_openEdges 10 = .ok (.aload_n 0, 1) := by decide +kernel
theorem dX3_openEdges_11 : decode cX3_openEdges 11 = .ok (.getfield 15, 3) := by decide +kernel
theorem dX3_openEdges_14 : decode cX3_openEdges 14 = .ok (.iload_n 1, 1) := by decide +kernel
theorem dX3_openEdges_15 : decode cX3_openEdges 15 = .ok (.iaload, 1) := by decide +kernel
theorem dX3_openEdges_16 : decode cX3_openEdges 16 = .ok (.bipush (-9), 2) := by decide +kernel
theorem dX3_openEdges_18 : decode cX3_openEdges 18 = .ok (.if_icmp .eq 12, 3) := by decide +kernel
theorem dX3_openEdges_21 : decode cX3_openEdges 21 = .ok (.iconst 1, 1) := by decide +kernel
theorem dX3_openEdges_22 : decode cX3_openEdges 22 = .ok (.aload_n 0, 1) := by decide +kernel
theorem dX3_openEdges_23 : decode cX3_openEdges 23 = .ok (.getfield 15, 3) := by decide +kernel
theorem dX3_openEdges_26 : decode cX3_openEdges 26 = .ok (.iload_n 1, 1) := by decide +kernel
theorem dX3_openEdges_27 : decode cX3_openEdges 27 = .ok (.iaload, 1) := by decide +kernel
theorem dX3_openEdges_28 : decode cX3_openEdges 28 = .ok (.ishl, 1) := by decide +kernel
theorem dX3_openEdges_29 : decode cX3_openEdges 29 = .ok (.ireturn, 1) := by decide +kernel
theorem dX3_openEdges_30 : decode cX3_openEdges 30 = .ok (.aload_n 0, 1) := by decide +kernel
theorem dX3_openEdges_31 : decode cX3_openEdges 31 = .ok (.invokevirtual 95, 3) := by decide +kernel
theorem dX3_openEdges_34 : decode cX3_openEdges 34 = .ok (.ifCond .eq 27, 3) := by decide +kernel
theorem dX3_openEdges_37 : decode cX3_openEdges 37 = .ok (.aload_n 0, 1) := by decide +kernel
theorem dX3_openEdges_38 : decode cX3_openEdges 38 = .ok (.getfield 28, 3) := by decide +kernel
theorem dX3_openEdges_41 : decode cX3_openEdges 41 = .ok (.aload_n 0, 1) := by decide +kernel
theorem dX3_openEdges_42 : decode cX3_openEdges 42 = .ok (.getfield 37, 3) := by decide +kernel
theorem dX3_openEdges_45 : decode cX3_openEdges 45 = .ok (.aload_n 0, 1) := by decide +kernel
theorem dX3_openEdges_46 : decode cX3_openEdges 46 = .ok (.invokevirtual 92, 3) := by decide +kernel
theorem dX3_openEdges_49 : decode cX3_openEdges 49 = .ok (.invokestatic 102, 3) := by decide +kernel
theorem dX3_openEdges_52 : decode cX3_openEdges 52 = .ok (.invokevirtual 105, 3) := by decide +kernel
theorem dX3_openEdges_55 : decode cX3_openEdges 55 = .ok (.iconst (-1), 1) := by decide +kernel
theorem dX3_openEdges_56 : decode cX3_openEdges 56 = .ok (.ixor, 1) := by decide +kernel
theorem dX3_openEdges_57 : decode cX3_openEdges 57 = .ok (.iand, 1) := by decide +kernel
theorem dX3_openEdges_58 : decode cX3_openEdges 58 = .ok (.goto 7, 3) := by decide +kernel
theorem dX3_openEdges_61 : decode cX3_openEdges 61 = .ok (.aload_n 0, 1) := by decide +kernel
theorem dX3_openEdges_62 : decode cX3_openEdges 62 = .ok (.getfield 28, 3) := by decide +kernel
theorem dX3_openEdges_65 : decode cX3_openEdges 65 = .ok (.istore_n 2, 1) := by decide +kernel
theorem dX3_openEdges_66 : decode cX3_openEdges 66 = .ok (.aload_n 0, 1) := by decide +kernel
theorem dX3_openEdges_67 : decode cX3_openEdges 67 = .ok (.getfield 37, 3) := by decide +kernel
theorem dX3_openEdges_70 : decode cX3_openEdges 70 = .ok (.aload_n 0, 1) := by decide +kernel
theorem dX3_openEdges_71 : decode cX3_openEdges 71 = .ok (.getfield 9, 3) := by decide +kernel
theorem dX3_openEdges_74 : decode cX3_openEdges 74 = .ok (.iload_n 1, 1) := by decide +kernel
theorem dX3_openEdges_75 : decode cX3_openEdges 75 = .ok (.iaload, 1) := by decide +kernel
theorem dX3_openEdges_76 : decode cX3_openEdges 76 = .ok (.invokevirtual 105, 3) := by decide +kernel
theorem dX3_openEdges_79 : decode cX3_openEdges 79 = .ok (.aload_n 0, 1) := by decide +kernel
theorem dX3_openEdges_80 : decode cX3_openEdges 80 = .ok (.getfield 31, 3) := by decide +kernel
theorem dX3_openEdges_83 : decode cX3_openEdges 83 = .ok (.iload_n 2, 1) := by decide +kernel
theorem dX3_openEdges_84 : decode cX3_openEdges 84 = .ok (.ior, 1) := by decide +kernel
theorem dX3_openEdges_85 : decode cX3_openEdges 85 = .ok (.iand, 1) := by decide +kernel
theorem dX3_openEdges_86 : decode cX3_openEdges 86 = .ok (.ireturn, 1) := by decide +kernel
set_option maxRecDepth 20000 in
theorem ggX3_canGo_X1_isEdge : GoodIn wsX3_canGo wsX1_isEdge := goodIn_r _ [6, 7, 61, 62, 63, 64, 65, 66, 67, 68, 69] (by decide +kernel) (by decide +kernel)
set_option maxRecDepth 20000 in
theorem gX3_canGo_X1_isEdge : GoodIn wsX3_canGo (wsV RX3 108 RX1 yX1_isEdge wsX1_isEdge) := goodIn_app (goodIn_of _ (by decide +kernel)) ggX3_canGo_X1_isEdge
set_option maxRecDepth 20000 in
theorem ggX3_canGo_X3_openEdges : GoodIn wsX3_canGo wsX3_openEdges := goodIn_r _ [12, 13, 14, 1, 15, 16, 17, 18, 19, 11, 20, 21, 22, 23, 24, 25, 26, 27, 28, 29, 30, 31, 32, 33, 34, 35, 36, 37, 38, 39, 40, 41, 42, 43, 44, 45, 46, 47, 5, 48, 49, 52, 53, 54, 55, 56, 57, 58, 59, 60, 61, 62, 63, 64, 65, 66, 67, 68, 69] (by decide +kernel) (by decide +kernel)
set_option maxRecDepth 20000 in
theorem gX3_canGo_X3_openEdges : GoodIn wsX3_canGo (wsV RX3 111 RX3 yX3_openEdges wsX3_openEdges) := goodIn_app (goodIn_of _ (by decide +kernel)) ggX3_canGo_X3_openEdges
set_option maxRecDepth 20000 in
theorem ggX3_canGo_X5_holds : GoodIn wsX3_canGo wsX5_holds := goodIn_r _ [51] (by decide +kernel) (by decide +kernel)
set_option maxRecDepth 20000 in
theorem gX3_canGo_X5_holds_n85 : GoodIn wsX3_canGo (wsX5_holds) := ggX3_canGo_X5_holds
theorem dX3_canGo_0 : decode cX3_canGo 0 = .ok (.aload_n 0, 1) := by decide +kernel
theorem dX3_canGo_1 : decode cX3_canGo 1 = .ok (.getfield 37, 3) := by decide +kernel
theorem dX3_canGo_4 : decode cX3_canGo 4 = .ok (.iload_n 2, 1) := by decide +kernel
theorem dX3_canGo_5 : decode cX3_canGo 5 = .ok (.invokevirtual 108, 3) := by decide +kernel
theorem dX3_canGo_8 : decode cX3_canGo 8 = .ok (.ifCond .eq 19, 3) := by decide +kernel
theorem dX3_canGo_11 : decode cX3_canGo 11 = .ok (.aload_n 0, 1) := by decide +kernel
theorem dX3_canGo_12 : decode cX3_canGo 12 = .ok (.iload_n 1, 1) := by decide +kernel
theorem dX3_canGo_13 : decode cX3_canGo 13 = .ok (.invokevirtual 111, 3) := by decide +kernel
theorem dX3_canGo_16 : decode cX3_canGo 16 = .ok (.iload_n 2, 1) := by decide +kernel
theorem dX3_canGo_17 : decode cX3_canGo 17 = .ok (.invokestatic 85, 3) := by decide +kernel
theorem dX3_canGo_20 : decode cX3_canGo 20 = .ok (.ifCond .eq 7, 3) := by decide +kernel
theorem dX3_canGo_23 : decode cX3_canGo 23 = .ok (.iconst 1, 1) := by decide +kernel
theorem dX3_canGo_24 : decode cX3_canGo 24 = .ok (.goto 4, 3) := by decide +kernel
theorem dX3_canGo_27 : decode cX3_canGo 27 = .ok (.iconst 0, 1) := by decide +kernel
theorem dX3_canGo_28 : decode cX3_canGo 28 = .ok (.ireturn, 1) := by decide +kernel
set_option maxRecDepth 20000 in
theorem ggX3_goIfPossible_X3_canGo : GoodIn wsX3_goIfPossible wsX3_canGo := goodIn_r _ [5, 6, 7, 8, 9, 10, 11, 12, 13, 14, 15, 4, 16, 17, 18, 19, 20, 21, 22, 23, 24, 25, 26, 27, 28, 29, 30, 31, 32, 33, 34, 35, 36, 37, 38, 39, 40, 41, 42, 43, 44, 45, 46, 47, 48, 49, 50, 51, 52, 53, 54, 55, 76, 77, 78, 79, 80, 81, 82, 83, 84, 85, 86, 87, 88, 89, 90, 91, 92, 93] (by decide +kernel) (by decide +kernel)
set_option maxRecDepth 20000 in
theorem gX3_goIfPossible_X3_canGo : GoodIn wsX3_goIfPossible (wsV RX3 114 RX3 yX3_canGo wsX3_canGo) := goodIn_app (goodIn_of _ (by decide +kernel)) ggX3_goIfPossible_X3_canGo
set_option maxRecDepth 20000 in
theorem ggX3_goIfPossible_X3_go : GoodIn wsX3_goIfPossible wsX3_go := goodIn_r _ [59, 6, 19, 60, 17, 20, 21, 22, 23, 4, 24, 25, 26, 27, 28, 29, 61, 62, 63, 10, 64, 65, 66, 8, 9, 11, 12, 46, 47, 48, 67, 68, 69, 70, 38, 54, 55, 71, 72, 73, 74, 18, 75, 76, 77, 78, 79, 80, 81, 82, 83, 84, 85, 86, 87, 88, 89, 90, 91, 92, 93] (by decide +kernel) (by decide +kernel)
set_option maxRecDepth 20000 in
theorem gX3_goIfPossible_X3_go : GoodIn wsX3_goIfPossible (wsV RX3 117 RX3 yX3_go wsX3_go) := goodIn_app (goodIn_of _ (by decide +kernel)) ggX3_goIfPossible_X3_go
theorem dX3_goIfPossible_0 : decode cX3_goIfPossible 0 = .ok (.aload_n 0, 1) := by decide +kernel
theorem dX3_goIfPossible_1 : decode cX3_goIfPossible 1 = .ok (.iload_n 1, 1) := by decide +kernel
theorem dX3_goIfPossible_2 : decode cX3_goIfPossible 2 = .ok (.iload_n 2, 1) := by decide +kernel
theorem dX3_goIfPossible_3 : decode cX3_goIfPossible 3 = .ok (.invokevirtual 114, 3) := by decide +kernel
theorem dX3_goIfPossible_6 : decode cX3_goIfPossible 6 = .ok (.ifCond .ne 5, 3) := by decide +kernel
theorem dX3_goIfPossible_9 : decode cX3_goIfPossible 9 = .ok (.iconst 0, 1) := by decide +kernel
theorem dX3_goIfPossible_10 : decode cX3_goIfPossible 10 = .ok (.ireturn, 1) := by decide +kernel
theorem dX3_goIfPossible_11 : decode cX3_goIfPossible 11 = .ok (.aload_n 0, 1) := by decide +kernel
theorem dX3_goIfPossible_12 : decode cX3_goIfPossible 12 = .ok (.iload_n 1, 1) := by decide +kernel
theorem dX3_goIfPossible_13 : decode cX3_goIfPossible 13 = .ok (.iload_n 2, 1) := by decide +kernel
theorem dX3_goIfPossible_14 : decode cX3_goIfPossible 14 = .ok (.invokevirtual 117, 3) := by decide +kernel
theorem dX3_goIfPossible_17 : decode cX3_goIfPossible 17 = .ok (.iconst 1, 1) := by decide +kernel
theorem dX3_goIfPossible_18 : decode cX3_goIfPossible 18 = .ok (.ireturn, 1) := by decide +kernel
set_option maxRecDepth 20000 in
theorem ggX3_go_X3_lives : GoodIn wsX3_go wsX3_lives := goodIn_r _ [10, 2, 11, 12, 13, 9, 14, 15, 43, 44, 45, 46, 47, 48, 49, 50, 51] (by decide +kernel) (by decide +kernel)
set_option maxRecDepth 20000 in
theorem gX3_go_X3_lives : GoodIn wsX3_go (wsV RX3 99 RX3 yX3_lives wsX3_lives) := goodIn_app (goodIn_of _ (by decide +kernel)) ggX3_go_X3_lives
set_option maxRecDepth 20000 in
theorem ggX3_go_X1_otherEnd : GoodIn wsX3_go wsX1_otherEnd := goodIn_r _ [20, 21, 22, 23, 24, 19, 25, 26, 27, 28, 29, 52, 53, 54, 55, 56, 57, 58, 59, 60] (by decide +kernel) (by decide +kernel)
set_option maxRecDepth 20000 in
theorem gX3_go_X1_otherEnd : GoodIn wsX3_go (wsV RX3 120 RX1 yX1_otherEnd wsX1_otherEnd) := goodIn_app (goodIn_of _ (by decide +kernel)) ggX3_go_X1_otherEnd
set_option maxRecDepth 20000 in
theorem ggX3_go_X3_comeBack : GoodIn wsX3_go wsX3_comeBack := goodIn_r _ [33, 5, 34, 2, 4, 43, 44, 45, 46, 47, 48, 49, 50, 51] (by decide +kernel) (by decide +kernel)
set_option maxRecDepth 20000 in
theorem gX3_go_X3_comeBack : GoodIn wsX3_go (wsV RX3 123 RX3 yX3_comeBack wsX3_comeBack) := goodIn_app (goodIn_of _ (by decide +kernel)) ggX3_go_X3_comeBack
set_option maxRecDepth 20000 in
theorem ggX3_go_X5_holds : GoodIn wsX3_go wsX5_holds := goodIn_r _ [36] (by decide +kernel) (by decide +kernel)
set_option maxRecDepth 20000 in
theorem gX3_go_X5_holds_n85 : GoodIn wsX3_go (wsX5_holds) := ggX3_go_X5_holds
set_option maxRecDepth 20000 in
theorem ggX3_go_X3_goOut : GoodIn wsX3_go wsX3_goOut := goodIn_r _ [40, 41, 42, 2, 4, 43, 44, 45, 46, 47, 48, 49, 50, 51] (by decide +kernel) (by decide +kernel)
set_option maxRecDepth 20000 in
theorem gX3_go_X3_goOut : GoodIn wsX3_go (wsV RX3 127 RX3 yX3_goOut wsX3_goOut) := goodIn_app (goodIn_of _ (by decide +kernel)) ggX3_go_X3_goOut
theorem dX3_go_0 : decode cX3_go 0 = .ok (.aload_n 0, 1) := by decide +kernel
theorem dX3_go_1 : decode cX3_go 1 = .ok (.iload_n 1, 1) := by decide +kernel
theorem dX3_go_2 : decode cX3_go 2 = .ok (.invokevirtual 99, 3) := by decide +kernel
theorem dX3_go_5 : decode cX3_go 5 = .ok (.ifCond .ne 4, 3) := by decide +kernel
theorem dX3_go_8 : decode cX3_go 8 = .ok (.return_, 1) := by decide +kernel
theorem dX3_go_9 : decode cX3_go 9 = .ok (.aload_n 0, 1) := by decide +kernel
theorem dX3_go_10 : decode cX3_go 10 = .ok (.getfield 37, 3) := by decide +kernel
theorem dX3_go_13 : decode cX3_go 13 = .ok (.iload_n 2, 1) := by decide +kernel
theorem dX3_go_14 : decode cX3_go 14 = .ok (.aload_n 0, 1) := by decide +kernel
theorem dX3_go_15 : decode cX3_go 15 = .ok (.getfield 9, 3) := by decide +kernel
theorem dX3_go_18 : decode cX3_go 18 = .ok (.iload_n 1, 1) := by decide +kernel
theorem dX3_go_19 : decode cX3_go 19 = .ok (.iaload, 1) := by decide +kernel
theorem dX3_go_20 : decode cX3_go 20 = .ok (.invokevirtual 120, 3) := by decide +kernel
theorem dX3_go_23 : decode cX3_go 23 = .ok (.istore_n 3, 1) := by decide +kernel
theorem dX3_go_24 : decode cX3_go 24 = .ok (.aload_n 0, 1) := by decide +kernel
theorem dX3_go_25 : decode cX3_go 25 = .ok (.dup, 1) := by decide +kernel
theorem dX3_go_26 : decode cX3_go 26 = .ok (.getfield 25, 3) := by decide +kernel
theorem dX3_go_29 : decode cX3_go 29 = .ok (.iconst 1, 1) := by decide +kernel
theorem dX3_go_30 : decode cX3_go 30 = .ok (.iadd, 1) := by decide +kernel
theorem dX3_go_31 : decode cX3_go 31 = .ok (.putfield 25, 3) := by decide +kernel
theorem dX3_go_34 : decode cX3_go 34 = .ok (.aload_n 0, 1) := by decide +kernel
theorem dX3_go_35 : decode cX3_go 35 = .ok (.getfield 15, 3) := by decide +kernel
theorem dX3_go_38 : decode cX3_go 38 = .ok (.iload_n 1, 1) := by decide +kernel
theorem dX3_go_39 : decode cX3_go 39 = .ok (.iaload, 1) := by decide +kernel
theorem dX3_go_40 : decode cX3_go 40 = .ok (.bipush (-9), 2) := by decide +kernel
theorem dX3_go_42 : decode cX3_go 42 = .ok (.if_icmp .eq 13, 3) := by decide +kernel
theorem dX3_go_45 : decode cX3_go 45 = .ok (.aload_n 0, 1) := by decide +kernel
theorem dX3_go_46 : decode cX3_go 46 = .ok (.iload_n 1, 1) := by decide +kernel
theorem dX3_go_47 : decode cX3_go 47 = .ok (.iload_n 2, 1) := by decide +kernel
theorem dX3_go_48 : decode cX3_go 48 = .ok (.iload_n 3, 1) := by decide +kernel
theorem dX3_go_49 : decode cX3_go 49 = .ok (.invokevirtual 123, 3) := by decide +kernel
theorem dX3_go_52 : decode cX3_go 52 = .ok (.goto 31, 3) := by decide +kernel
theorem dX3_go_55 : decode cX3_go 55 = .ok (.aload_n 0, 1) := by decide +kernel
theorem dX3_go_56 : decode cX3_go 56 = .ok (.getfield 31, 3) := by decide +kernel
theorem dX3_go_59 : decode cX3_go 59 = .ok (.iload_n 2, 1) := by decide +kernel
theorem dX3_go_60 : decode cX3_go 60 = .ok (.invokestatic 85, 3) := by decide +kernel
theorem dX3_go_63 : decode cX3_go 63 = .ok (.ifCond .eq 13, 3) := by decide +kernel
theorem dX3_go_66 : decode cX3_go 66 = .ok (.aload_n 0, 1) := by decide +kernel
theorem dX3_go_67 : decode cX3_go 67 = .ok (.getfield 9, 3) := by decide +kernel
theorem dX3_go_70 : decode cX3_go 70 = .ok (.iload_n 1, 1) := by decide +kernel
theorem dX3_go_71 : decode cX3_go 71 = .ok (.iload_n 3, 1) := by decide +kernel
theorem dX3_go_72 : decode cX3_go 72 = .ok (.iastore, 1) := by decide +kernel
theorem dX3_go_73 : decode cX3_go 73 = .ok (.goto 10, 3) := by decide +kernel
theorem dX3_go_76 : decode cX3_go 76 = .ok (.aload_n 0, 1) := by decide +kernel
theorem dX3_go_77 : decode cX3_go 77 = .ok (.iload_n 1, 1) := by decide +kernel
theorem dX3_go_78 : decode cX3_go 78 = .ok (.iload_n 2, 1) := by decide +kernel
theorem dX3_go_79 : decode cX3_go 79 = .ok (.iload_n 3, 1) := by decide +kernel
theorem dX3_go_80 : decode cX3_go 80 = .ok (.invokevirtual 127, 3) := by decide +kernel
theorem dX3_go_83 : decode cX3_go 83 = .ok (.return_, 1) := by decide +kernel
theorem dX3_comeBack_0 : decode cX3_comeBack 0 = .ok (.aload_n 0, 1) := by decide +kernel
theorem dX3_comeBack_1 : decode cX3_comeBack 1 = .ok (.dup, 1) := by decide +kernel
theorem dX3_comeBack_2 : decode cX3_comeBack 2 = .ok (.getfield 31, 3) := by decide +kernel
theorem dX3_comeBack_5 : decode cX3_comeBack 5 = .ok (.iconst 1, 1) := by decide +kernel
theorem dX3_comeBack_6 : decode cX3_comeBack 6 = .ok (.iload_n 2, 1) := by decide +kernel
theorem dX3_comeBack_7 : decode cX3_comeBack 7 = .ok (.ishl, 1) := by decide +kernel
theorem dX3_comeBack_8 : decode cX3_comeBack 8 = .ok (.ior, 1) := by decide +kernel
theorem dX3_comeBack_9 : decode cX3_comeBack 9 = .ok (.putfield 31, 3) := by decide +kernel
theorem dX3_comeBack_12 : decode cX3_comeBack 12 = .ok (.aload_n 0, 1) := by decide +kernel
theorem dX3_comeBack_13 : decode cX3_comeBack 13 = .ok (.dup, 1) := by decide +kernel
theorem dX3_comeBack_14 : decode cX3_comeBack 14 = .ok (.getfield 34, 3) := by decide +kernel
theorem dX3_comeBack_17 : decode cX3_comeBack 17 = .ok (.iconst 1, 1) := by decide +kernel
theorem dX3_comeBack_18 : decode cX3_comeBack 18 = .ok (.aload_n 0, 1) := by decide +kernel
theorem dX3_comeBack_19 : decode cX3_comeBack 19 = .ok (.getfield 9, 3) := by decide +kernel
theorem dX3_comeBack_22 : decode cX3_comeBack 22 = .ok (.iload_n 1, 1) := by decide +kernel
theorem dX3_comeBack_23 : decode cX3_comeBack 23 = .ok (.iaload, 1) := by decide +kernel
theorem dX3_comeBack_24 : decode cX3_comeBack 24 = .ok (.ishl, 1) := by decide +kernel
theorem dX3_comeBack_25 : decode cX3_comeBack 25 = .ok (.iconst 1, 1) := by decide +kernel
theorem dX3_comeBack_26 : decode cX3_comeBack 26 = .ok (.iload_n 3, 1) := by decide +kernel
theorem dX3_comeBack_27 : decode cX3_comeBack 27 = .ok (.ishl, 1) := by decide +kernel
theorem dX3_comeBack_28 : decode cX3_comeBack 28 = .ok (.ior, 1) := by decide +kernel
theorem dX3_comeBack_29 : decode cX3_comeBack 29 = .ok (.ior, 1) := by decide +kernel
theorem dX3_comeBack_30 : decode cX3_comeBack 30 = .ok (.putfield 34, 3) := by decide +kernel
theorem dX3_comeBack_33 : decode cX3_comeBack 33 = .ok (.aload_n 0, 1) := by decide +kernel
theorem dX3_comeBack_34 : decode cX3_comeBack 34 = .ok (.getfield 9, 3) := by decide +kernel
theorem dX3_comeBack_37 : decode cX3_comeBack 37 = .ok (.iload_n 1, 1) := by decide +kernel
theorem dX3_comeBack_38 : decode cX3_comeBack 38 = .ok (.iload_n 3, 1) := by decide +kernel
theorem dX3_comeBack_39 : decode cX3_comeBack 39 = .ok (.iastore, 1) := by decide +kernel
theorem dX3_comeBack_40 : decode cX3_comeBack 40 = .ok (.aload_n 0, 1) := by decide +kernel
theorem dX3_comeBack_41 : decode cX3_comeBack 41 = .ok (.getfield 15, 3) := by decide +kernel
theorem dX3_comeBack_44 : decode cX3_comeBack 44 = .ok (.iload_n 1, 1) := by decide +kernel
theorem dX3_comeBack_45 : decode cX3_comeBack 45 = .ok (.bipush (-9), 2) := by decide +kernel
theorem dX3_comeBack_47 : decode cX3_comeBack 47 = .ok (.iastore, 1) := by decide +kernel
theorem dX3_comeBack_48 : decode cX3_comeBack 48 = .ok (.return_, 1) := by decide +kernel
theorem dX3_goOut_0 : decode cX3_goOut 0 = .ok (.aload_n 0, 1) := by decide +kernel
theorem dX3_goOut_1 : decode cX3_goOut 1 = .ok (.dup, 1) := by decide +kernel
theorem dX3_goOut_2 : decode cX3_goOut 2 = .ok (.getfield 28, 3) := by decide +kernel
theorem dX3_goOut_5 : decode cX3_goOut 5 = .ok (.iconst 1, 1) := by decide +kernel
theorem dX3_goOut_6 : decode cX3_goOut 6 = .ok (.iload_n 2, 1) := by decide +kernel
theorem dX3_goOut_7 : decode cX3_goOut 7 = .ok (.ishl, 1) := by decide +kernel
theorem dX3_goOut_8 : decode cX3_goOut 8 = .ok (.iconst (-1), 1) := by decide +kernel
theorem dX3_goOut_9 : decode cX3_goOut 9 = .ok (.ixor, 1) := by decide +kernel
theorem dX3_goOut_10 : decode cX3_goOut 10 = .ok (.iand, 1) := by decide +kernel
theorem dX3_goOut_11 : decode cX3_goOut 11 = .ok (.putfield 28, 3) := by decide +kernel
theorem dX3_goOut_14 : decode cX3_goOut 14 = .ok (.iload_n 3, 1) := by decide +kernel
theorem dX3_goOut_15 : decode cX3_goOut 15 = .ok (.aload_n 0, 1) := by decide +kernel
theorem dX3_goOut_16 : decode cX3_goOut 16 = .ok (.getfield 22, 3) := by decide +kernel
theorem dX3_goOut_19 : decode cX3_goOut 19 = .ok (.if_icmp .ne 14, 3) := by decide +kernel
theorem dX3_goOut_22 : decode cX3_goOut 22 = .ok (.aload_n 0, 1) := by decide +kernel
theorem dX3_goOut_23 : decode cX3_goOut 23 = .ok (.getfield 9, 3) := by decide +kernel
theorem dX3_goOut_26 : decode cX3_goOut 26 = .ok (.iload_n 1, 1) := by decide +kernel
theorem dX3_goOut_27 : decode cX3_goOut 27 = .ok (.bipush (-9), 2) := by decide +kernel
theorem dX3_goOut_29 : decode cX3_goOut 29 = .ok (.iastore, 1) := by decide +kernel
theorem dX3_goOut_30 : decode cX3_goOut 30 = .ok (.goto 17, 3) := by decide +kernel
theorem dX3_goOut_33 : decode cX3_goOut 33 = .ok (.aload_n 0, 1) := by decide +kernel
theorem dX3_goOut_34 : decode cX3_goOut 34 = .ok (.getfield 9, 3) := by decide +kernel
theorem dX3_goOut_37 : decode cX3_goOut 37 = .ok (.iload_n 1, 1) := by decide +kernel
theorem dX3_goOut_38 : decode cX3_goOut 38 = .ok (.iload_n 3, 1) := by decide +kernel
theorem dX3_goOut_39 : decode cX3_goOut 39 = .ok (.iastore, 1) := by decide +kernel
theorem dX3_goOut_40 : decode cX3_goOut 40 = .ok (.aload_n 0, 1) := by decide +kernel
theorem dX3_goOut_41 : decode cX3_goOut 41 = .ok (.getfield 15, 3) := by decide +kernel
theorem dX3_goOut_44 : decode cX3_goOut 44 = .ok (.iload_n 1, 1) := by decide +kernel
theorem dX3_goOut_45 : decode cX3_goOut 45 = .ok (.iload_n 2, 1) := by decide +kernel
theorem dX3_goOut_46 : decode cX3_goOut 46 = .ok (.iastore, 1) := by decide +kernel
theorem dX3_goOut_47 : decode cX3_goOut 47 = .ok (.return_, 1) := by decide +kernel
set_option maxRecDepth 20000 in
theorem ggX3_cautiousEdge_X3_lives : GoodIn wsX3_cautiousEdge wsX3_lives := goodIn_r _ [9, 3, 10, 11, 12, 8, 13, 14, 63, 64, 65, 66, 67, 68, 69, 70, 71] (by decide +kernel) (by decide +kernel)
set_option maxRecDepth 20000 in
theorem gX3_cautiousEdge_X3_lives : GoodIn wsX3_cautiousEdge (wsV RX3 99 RX3 yX3_lives wsX3_lives) := goodIn_app (goodIn_of _ (by decide +kernel)) ggX3_cautiousEdge_X3_lives
set_option maxRecDepth 20000 in
theorem ggX3_cautiousEdge_X3_isKnown : GoodIn wsX3_cautiousEdge wsX3_isKnown := goodIn_r _ [18, 19, 20, 21, 8, 22, 2, 23, 24, 25, 26, 27, 28, 29, 30, 63, 64, 65, 66, 67, 68, 69, 70, 71, 72, 73, 74, 75, 76, 77, 78, 79, 80] (by decide +kernel) (by decide +kernel)
set_option maxRecDepth 20000 in
theorem gX3_cautiousEdge_X3_isKnown : GoodIn wsX3_cautiousEdge (wsV RX3 95 RX3 yX3_isKnown wsX3_isKnown) := goodIn_app (goodIn_of _ (by decide +kernel)) ggX3_cautiousEdge_X3_isKnown
set_option maxRecDepth 20000 in
theorem ggX3_cautiousEdge_X1_edgesFrom : GoodIn wsX3_cautiousEdge wsX1_edgesFrom := goodIn_r _ [35, 36, 72, 73, 74, 75, 76, 77, 78, 79, 80] (by decide +kernel) (by decide +kernel)
set_option maxRecDepth 20000 in
theorem gX3_cautiousEdge_X1_edgesFrom : GoodIn wsX3_cautiousEdge (wsV RX3 105 RX1 yX1_edgesFrom wsX1_edgesFrom) := goodIn_app (goodIn_of _ (by decide +kernel)) ggX3_cautiousEdge_X1_edgesFrom
set_option maxRecDepth 20000 in
theorem ggX3_cautiousEdge_X5_least : GoodIn wsX3_cautiousEdge wsX5_least := goodIn_r _ [39] (by decide +kernel) (by decide +kernel)
set_option maxRecDepth 20000 in
theorem gX3_cautiousEdge_X5_least_n102 : GoodIn wsX3_cautiousEdge (wsX5_least) := ggX3_cautiousEdge_X5_least
set_option maxRecDepth 20000 in
theorem ggX3_cautiousEdge_X3_nearestUnseen : GoodIn wsX3_cautiousEdge wsX3_nearestUnseen := goodIn_r _ [43, 2, 4, 44, 45, 46, 47, 34, 48, 49, 50, 51, 52, 53, 54, 37, 38, 39, 63, 64, 65, 66, 67, 68, 69, 70, 71, 72, 73, 74, 75, 76, 77, 78, 79, 80] (by decide +kernel) (by decide +kernel)
set_option maxRecDepth 20000 in
theorem gX3_cautiousEdge_X3_nearestUnseen : GoodIn wsX3_cautiousEdge (wsV RX3 130 RX3 yX3_nearestUnseen wsX3_nearestUnseen) := goodIn_app (goodIn_of _ (by decide +kernel)) ggX3_cautiousEdge_X3_nearestUnseen
set_option maxRecDepth 20000 in
theorem ggX3_cautiousEdge_X3_edgeTowards : GoodIn wsX3_cautiousEdge wsX3_edgeTowards := goodIn_r _ [58, 2, 44, 31, 32, 33, 34, 35, 36, 59, 60, 61, 62, 37, 38, 39, 51, 52, 53, 54, 49, 50, 63, 64, 65, 66, 67, 68, 69, 70, 71, 72, 73, 74, 75, 76, 77, 78, 79, 80] (by decide +kernel) (by decide +kernel)
set_option maxRecDepth 20000 in
theorem gX3_cautiousEdge_X3_edgeTowards : GoodIn wsX3_cautiousEdge (wsV RX3 133 RX3 yX3_edgeTowards wsX3_edgeTowards) := goodIn_app (goodIn_of _ (by decide +kernel)) ggX3_cautiousEdge_X3_edgeTowards
theorem dX3_cautiousEdge_0 : decode cX3_cautiousEdge 0 = .ok (.aload_n 0, 1) := by decide +kernel
theorem dX3_cautiousEdge_1 : decode cX3_cautiousEdge 1 = .ok (.iload_n 1, 1) := by decide +kernel
theorem dX3_cautiousEdge_2 : decode cX3_cautiousEdge 2 = .ok (.invokevirtual 99, 3) := by decide +kernel
theorem dX3_cautiousEdge_5 : decode cX3_cautiousEdge 5 = .ok (.ifCond .ne 6, 3) := by decide +kernel
theorem dX3_cautiousEdge_8 : decode cX3_cautiousEdge 8 = .ok (.bipush (-9), 2) := by decide +kernel
theorem dX3_cautiousEdge_10 : decode cX3_cautiousEdge 10 = .ok (.ireturn, 1) := by decide +kernel
theorem dX3_cautiousEdge_11 : decode cX3_cautiousEdge 11 = .ok (.aload_n 0, 1) := by decide +kernel
theorem dX3_cautiousEdge_12 : decode cX3_cautiousEdge 12 = .ok (.getfield 15, 3) := by decide +kernel
theorem dX3_cautiousEdge_15 : decode cX3_cautiousEdge 15 = .ok (.iload_n 1, 1) := by decide +kernel
theorem dX3_cautiousEdge_16 : decode cX3_cautiousEdge 16 = .ok (.iaload, 1) := by decide +kernel
theorem dX3_cautiousEdge_17 : decode cX3_cautiousEdge 17 = .ok (.bipush (-9), 2) := by decide +kernel
theorem dX3_cautiousEdge_19 : decode cX3_cautiousEdge 19 = .ok (.if_icmp .eq 10, 3) := by decide +kernel
theorem dX3_cautiousEdge_22 : decode cX3_cautiousEdge 22 = .ok (.aload_n 0, 1) := by decide +kernel
theorem dX3_cautiousEdge_23 : decode cX3_cautiousEdge 23 = .ok (.getfield 15, 3) := by decide +kernel
theorem dX3_cautiousEdge_26 : decode cX3_cautiousEdge 26 = .ok (.iload_n 1, 1) := by decide +kernel
theorem dX3_cautiousEdge_27 : decode cX3_cautiousEdge 27 = .ok (.iaload, 1) := by decide +kernel
theorem dX3_cautiousEdge_28 : decode cX3_cautiousEdge 28 = .ok (.ireturn, 1) := by decide +kernel
theorem dX3_cautiousEdge_29 : decode cX3_cautiousEdge 29 = .ok (.aload_n 0, 1) := by decide +kernel
theorem dX3_cautiousEdge_30 : decode cX3_cautiousEdge 30 = .ok (.invokevirtual 95, 3) := by decide +kernel
theorem dX3_cautiousEdge_33 : decode cX3_cautiousEdge 33 = .ok (.ifCond .eq 6, 3) := by decide +kernel
theorem dX3_cautiousEdge_36 : decode cX3_cautiousEdge 36 = .ok (.bipush (-9), 2) := by decide +kernel
theorem dX3_cautiousEdge_38 : decode cX3_cautiousEdge 38 = .ok (.ireturn, 1) := by decide +kernel
theorem dX3_cautiousEdge_39 : decode cX3_cautiousEdge 39 = .ok (.aload_n 0, 1) := by decide +kernel
theorem dX3_cautiousEdge_40 : decode cX3_cautiousEdge 40 = .ok (.getfield 37, 3) := by decide +kernel
theorem dX3_cautiousEdge_43 : decode cX3_cautiousEdge 43 = .ok (.aload_n 0, 1) := by decide +kernel
theorem dX3_cautiousEdge_44 : decode cX3_cautiousEdge 44 = .ok (.getfield 9, 3) := by decide +kernel
theorem dX3_cautiousEdge_47 : decode cX3_cautiousEdge 47 = .ok (.iload_n 1, 1) := by decide +kernel
theorem dX3_cautiousEdge_48 : decode cX3_cautiousEdge 48 = .ok (.iaload, 1) := by decide +kernel
theorem dX3_cautiousEdge_49 : decode cX3_cautiousEdge 49 = .ok (.invokevirtual 105, 3) := by decide +kernel
theorem dX3_cautiousEdge_52 : decode cX3_cautiousEdge 52 = .ok (.aload_n 0, 1) := by decide +kernel
theorem dX3_cautiousEdge_53 : decode cX3_cautiousEdge 53 = .ok (.getfield 28, 3) := by decide +kernel
theorem dX3_cautiousEdge_56 : decode cX3_cautiousEdge 56 = .ok (.iand, 1) := by decide +kernel
theorem dX3_cautiousEdge_57 : decode cX3_cautiousEdge 57 = .ok (.istore_n 2, 1) := by decide +kernel
theorem dX3_cautiousEdge_58 : decode cX3_cautiousEdge 58 = .ok (.iload_n 2, 1) := by decide +kernel
theorem dX3_cautiousEdge_59 : decode cX3_cautiousEdge 59 = .ok (.ifCond .eq 8, 3) := by decide +kernel
theorem dX3_cautiousEdge_62 : decode cX3_cautiousEdge 62 = .ok (.iload_n 2, 1) := by decide +kernel
theorem dX3_cautiousEdge_63 : decode cX3_cautiousEdge 63 = .ok (.invokestatic 102, 3) := by decide +kernel
theorem dX3_cautiousEdge_66 : decode cX3_cautiousEdge 66 = .ok (.ireturn, 1) := by decide +kernel
theorem dX3_cautiousEdge_67 : decode cX3_cautiousEdge 67 = .ok (.aload_n 0, 1) := by decide +kernel
theorem dX3_cautiousEdge_68 : decode cX3_cautiousEdge 68 = .ok (.aload_n 0, 1) := by decide +kernel
theorem dX3_cautiousEdge_69 : decode cX3_cautiousEdge 69 = .ok (.getfield 9, 3) := by decide +kernel
theorem dX3_cautiousEdge_72 : decode cX3_cautiousEdge 72 = .ok (.iload_n 1, 1) := by decide +kernel
theorem dX3_cautiousEdge_73 : decode cX3_cautiousEdge 73 = .ok (.iaload, 1) := by decide +kernel
theorem dX3_cautiousEdge_74 : decode cX3_cautiousEdge 74 = .ok (.invokevirtual 130, 3) := by decide +kernel
theorem dX3_cautiousEdge_77 : decode cX3_cautiousEdge 77 = .ok (.istore_n 3, 1) := by decide +kernel
theorem dX3_cautiousEdge_78 : decode cX3_cautiousEdge 78 = .ok (.iload_n 3, 1) := by decide +kernel
theorem dX3_cautiousEdge_79 : decode cX3_cautiousEdge 79 = .ok (.bipush (-9), 2) := by decide +kernel
theorem dX3_cautiousEdge_81 : decode cX3_cautiousEdge 81 = .ok (.if_icmp .ne 8, 3) := by decide +kernel
theorem dX3_cautiousEdge_84 : decode cX3_cautiousEdge 84 = .ok (.bipush (-9), 2) := by decide +kernel
theorem dX3_cautiousEdge_86 : decode cX3_cautiousEdge 86 = .ok (.goto 14, 3) := by decide +kernel
theorem dX3_cautiousEdge_89 : decode cX3_cautiousEdge 89 = .ok (.aload_n 0, 1) := by decide +kernel
theorem dX3_cautiousEdge_90 : decode cX3_cautiousEdge 90 = .ok (.iload_n 3, 1) := by decide +kernel
theorem dX3_cautiousEdge_91 : decode cX3_cautiousEdge 91 = .ok (.aload_n 0, 1) := by decide +kernel
theorem dX3_cautiousEdge_92 : decode cX3_cautiousEdge 92 = .ok (.getfield 9, 3) := by decide +kernel
theorem dX3_cautiousEdge_95 : decode cX3_cautiousEdge 95 = .ok (.iload_n 1, 1) := by decide +kernel
theorem dX3_cautiousEdge_96 : decode cX3_cautiousEdge 96 = .ok (.iaload, 1) := by decide +kernel
theorem dX3_cautiousEdge_97 : decode cX3_cautiousEdge 97 = .ok (.invokevirtual 133, 3) := by decide +kernel
theorem dX3_cautiousEdge_100 : decode cX3_cautiousEdge 100 = .ok (.ireturn, 1) := by decide +kernel
set_option maxRecDepth 20000 in
theorem ggX3_nearestUnseen_X1_endsOf : GoodIn wsX3_nearestUnseen wsX1_endsOf := goodIn_r _ [8, 9, 10, 27, 28, 29, 30, 31, 32, 33, 34, 35] (by decide +kernel) (by decide +kernel)
set_option maxRecDepth 20000 in
theorem gX3_nearestUnseen_X1_endsOf : GoodIn wsX3_nearestUnseen (wsV RX3 136 RX1 yX1_endsOf wsX1_endsOf) := goodIn_app (goodIn_of _ (by decide +kernel)) ggX3_nearestUnseen_X1_endsOf
set_option maxRecDepth 20000 in
theorem ggX3_nearestUnseen_X1_widened : GoodIn wsX3_nearestUnseen wsX1_widened := goodIn_r _ [14, 9, 10, 27, 28, 29, 30, 31, 32, 33, 34, 35] (by decide +kernel) (by decide +kernel)
set_option maxRecDepth 20000 in
theorem gX3_nearestUnseen_X1_widened : GoodIn wsX3_nearestUnseen (wsV RX3 139 RX1 yX1_widened wsX1_widened) := goodIn_app (goodIn_of _ (by decide +kernel)) ggX3_nearestUnseen_X1_widened
set_option maxRecDepth 20000 in
theorem ggX3_nearestUnseen_X5_least : GoodIn wsX3_nearestUnseen wsX5_least := goodIn_r _ [17] (by decide +kernel) (by decide +kernel)
set_option maxRecDepth 20000 in
theorem gX3_nearestUnseen_X5_least_n102 : GoodIn wsX3_nearestUnseen (wsX5_least) := ggX3_nearestUnseen_X5_least
theorem dX3_nearestUnseen_0 : decode cX3_nearestUnseen 0 = .ok (.aload_n 0, 1) := by decide +kernel
theorem dX3_nearestUnseen_1 : decode cX3_nearestUnseen 1 = .ok (.getfield 37, 3) := by decide +kernel
theorem dX3_nearestUnseen_4 : decode cX3_nearestUnseen 4 = .ok (.aload_n 0, 1) := by decide +kernel
theorem dX3_nearestUnseen_5 : decode cX3_nearestUnseen 5 = .ok (.getfield 28, 3) := by decide +kernel
theorem dX3_nearestUnseen_8 : decode cX3_nearestUnseen 8 = .ok (.invokevirtual 136, 3) := by decide +kernel
theorem dX3_nearestUnseen_11 : decode cX3_nearestUnseen 11 = .ok (.istore_n 2, 1) := by decide +kernel
theorem dX3_nearestUnseen_12 : decode cX3_nearestUnseen 12 = .ok (.iconst 1, 1) := by decide +kernel
theorem dX3_nearestUnseen_13 : decode cX3_nearestUnseen 13 = .ok (.iload_n 1, 1) := by decide +kernel
theorem dX3_nearestUnseen_14 : decode cX3_nearestUnseen 14 = .ok (.ishl, 1) := by decide +kernel
theorem dX3_nearestUnseen_15 : decode cX3_nearestUnseen 15 = .ok (.istore_n 3, 1) := by decide +kernel
theorem dX3_nearestUnseen_16 : decode cX3_nearestUnseen 16 = .ok (.iconst 1, 1) := by decide +kernel
theorem dX3_nearestUnseen_17 : decode cX3_nearestUnseen 17 = .ok (.istore 4, 2) := by decide +kernel
theorem dX3_nearestUnseen_19 : decode cX3_nearestUnseen 19 = .ok (.iload 4, 2) := by decide +kernel
theorem dX3_nearestUnseen_21 : decode cX3_nearestUnseen 21 = .ok (.bipush 8, 2) := by decide +kernel
theorem dX3_nearestUnseen_23 : decode cX3_nearestUnseen 23 = .ok (.if_icmp .ge 50, 3) := by decide +kernel
theorem dX3_nearestUnseen_26 : decode cX3_nearestUnseen 26 = .ok (.aload_n 0, 1) := by decide +kernel
theorem dX3_nearestUnseen_27 : decode cX3_nearestUnseen 27 = .ok (.getfield 37, 3) := by decide +kernel
theorem dX3_nearestUnseen_30 : decode cX3_nearestUnseen 30 = .ok (.iload_n 3, 1) := by decide +kernel
theorem dX3_nearestUnseen_31 : decode cX3_nearestUnseen 31 = .ok (.aload_n 0, 1) := by decide +kernel
theorem dX3_nearestUnseen_32 : decode cX3_nearestUnseen 32 = .ok (.getfield 31, 3) := by decide +kernel
theorem dX3_nearestUnseen_35 : decode cX3_nearestUnseen 35 = .ok (.invokevirtual 139, 3) := by decide +kernel
theorem dX3_nearestUnseen_38 : decode cX3_nearestUnseen 38 = .ok (.istore 5, 2) := by decide +kernel
theorem dX3_nearestUnseen_40 : decode cX3_nearestUnseen 40 = .ok (.iload 5, 2) := by decide +kernel
theorem dX3_nearestUnseen_42 : decode cX3_nearestUnseen 42 = .ok (.iload_n 3, 1) := by decide +kernel
theorem dX3_nearestUnseen_43 : decode cX3_nearestUnseen 43 = .ok (.if_icmp .ne 6, 3) := by decide +kernel
theorem dX3_nearestUnseen_46 : decode cX3_nearestUnseen 46 = .ok (.bipush (-9), 2) := by decide +kernel
theorem dX3_nearestUnseen_48 : decode cX3_nearestUnseen 48 = .ok (.ireturn, 1) := by decide +kernel
theorem dX3_nearestUnseen_49 : decode cX3_nearestUnseen 49 = .ok (.iload 5, 2) := by decide +kernel
theorem dX3_nearestUnseen_51 : decode cX3_nearestUnseen 51 = .ok (.iload_n 2, 1) := by decide +kernel
theorem dX3_nearestUnseen_52 : decode cX3_nearestUnseen 52 = .ok (.iand, 1) := by decide +kernel
theorem dX3_nearestUnseen_53 : decode cX3_nearestUnseen 53 = .ok (.ifCond .eq 11, 3) := by decide +kernel
