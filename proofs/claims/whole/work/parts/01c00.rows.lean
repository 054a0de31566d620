set_option maxRecDepth 20000 in
theorem ggX0_init_X4_init : GoodIn wsX0_init wsX4_init := goodIn_r _ [10, 11, 2, 3, 12, 13, 14, 15, 16, 17, 18, 19] (by decide +kernel) (by decide +kernel)
set_option maxRecDepth 20000 in
theorem gX0_init_X4_init : GoodIn wsX0_init (wsX4_init) := ggX0_init_X4_init
theorem dX0_init_0 : decode cX0_init 0 = .ok (.aload_n 0, 1) := by decide +kernel
theorem dX0_init_1 : decode cX0_init 1 = .ok (.invokespecial 3, 3) := by decide +kernel
theorem dX0_init_4 : decode cX0_init 4 = .ok (.aload_n 0, 1) := by decide +kernel
theorem dX0_init_5 : decode cX0_init 5 = .ok (.new 9, 3) := by decide +kernel
theorem dX0_init_8 : decode cX0_init 8 = .ok (.dup, 1) := by decide +kernel
theorem dX0_init_9 : decode cX0_init 9 = .ok (.bipush 100, 2) := by decide +kernel
theorem dX0_init_11 : decode cX0_init 11 = .ok (.invokespecial 11, 3) := by decide +kernel
theorem dX0_init_14 : decode cX0_init 14 = .ok (.putfield 14, 3) := by decide +kernel
theorem dX0_init_17 : decode cX0_init 17 = .ok (.return_, 1) := by decide +kernel
set_option maxRecDepth 20000 in
theorem ggX1_init_X0_init : GoodIn wsX1_init wsX0_init := goodIn_r _ [9, 10, 2, 3, 11, 12, 13, 14, 15, 16, 17, 18, 19, 20, 21, 22, 23, 24, 32, 33, 29, 30, 31] (by decide +kernel) (by decide +kernel)
set_option maxRecDepth 20000 in
theorem gX1_init_X0_init_n17 : GoodIn wsX1_init (wsX0_init) := ggX1_init_X0_init
theorem dX1_init_0 : decode cX1_init 0 = .ok (.aload_n 0, 1) := by decide +kernel
theorem dX1_init_1 : decode cX1_init 1 = .ok (.invokespecial 3, 3) := by decide +kernel
theorem dX1_init_4 : decode cX1_init 4 = .ok (.aload_n 0, 1) := by decide +kernel
theorem dX1_init_5 : decode cX1_init 5 = .ok (.bipush 30, 2) := by decide +kernel
theorem dX1_init_7 : decode cX1_init 7 = .ok (.anewarray 9, 3) := by decide +kernel
theorem dX1_init_10 : decode cX1_init 10 = .ok (.putfield 11, 3) := by decide +kernel
theorem dX1_init_13 : decode cX1_init 13 = .ok (.iconst 0, 1) := by decide +kernel
theorem dX1_init_14 : decode cX1_init 14 = .ok (.istore_n 1, 1) := by decide +kernel
theorem dX1_init_15 : decode cX1_init 15 = .ok (.iload_n 1, 1) := by decide +kernel
theorem dX1_init_16 : decode cX1_init 16 = .ok (.bipush 30, 2) := by decide +kernel
theorem dX1_init_18 : decode cX1_init 18 = .ok (.if_icmp .ge 22, 3) := by decide +kernel
theorem dX1_init_21 : decode cX1_init 21 = .ok (.aload_n 0, 1) := by decide +kernel
theorem dX1_init_22 : decode cX1_init 22 = .ok (.getfield 11, 3) := by decide +kernel
theorem dX1_init_25 : decode cX1_init 25 = .ok (.iload_n 1, 1) := by decide +kernel
theorem dX1_init_26 : decode cX1_init 26 = .ok (.new 9, 3) := by decide +kernel
theorem dX1_init_29 : decode cX1_init 29 = .ok (.dup, 1) := by decide +kernel
theorem dX1_init_30 : decode cX1_init 30 = .ok (.invokespecial 17, 3) := by decide +kernel
theorem dX1_init_33 : decode cX1_init 33 = .ok (.aastore, 1) := by decide +kernel
theorem dX1_init_34 : decode cX1_init 34 = .ok (.iinc 1 1, 3) := by decide +kernel
theorem dX1_init_37 : decode cX1_init 37 = .ok (.goto (-22), 3) := by decide +kernel
theorem dX1_init_40 : decode cX1_init 40 = .ok (.return_, 1) := by decide +kernel
set_option maxRecDepth 20000 in
theorem ggX1_atIndex_J9_floorMod_7cf53 : GoodIn wsX1_atIndex wsJ9_floorMod_7cf53 := goodIn_r _ [6] (by decide +kernel) (by decide +kernel)
set_option maxRecDepth 20000 in
theorem gX1_atIndex_J9_floorMod_7cf53 : GoodIn wsX1_atIndex (va_wsS RX1 22 yJ9_floorMod_7cf53 wsJ9_floorMod_7cf53) := goodIn_app (goodIn_of _ (by decide +kernel)) ggX1_atIndex_J9_floorMod_7cf53
theorem dX1_atIndex_0 : decode cX1_atIndex 0 = .ok (.aload_n 0, 1) := by decide +kernel
theorem dX1_atIndex_1 : decode cX1_atIndex 1 = .ok (.getfield 11, 3) := by decide +kernel
theorem dX1_atIndex_4 : decode cX1_atIndex 4 = .ok (.aload_n 0, 1) := by decide +kernel
theorem dX1_atIndex_5 : decode cX1_atIndex 5 = .ok (.getfield 18, 3) := by decide +kernel
theorem dX1_atIndex_8 : decode cX1_atIndex 8 = .ok (.iload_n 1, 1) := by decide +kernel
theorem dX1_atIndex_9 : decode cX1_atIndex 9 = .ok (.iadd, 1) := by decide +kernel
theorem dX1_atIndex_10 : decode cX1_atIndex 10 = .ok (.bipush 30, 2) := by decide +kernel
theorem dX1_atIndex_12 : decode cX1_atIndex 12 = .ok (.invokestatic 22, 3) := by decide +kernel
theorem dX1_atIndex_15 : decode cX1_atIndex 15 = .ok (.aaload, 1) := by decide +kernel
theorem dX1_atIndex_16 : decode cX1_atIndex 16 = .ok (.areturn, 1) := by decide +kernel
set_option maxRecDepth 20000 in
theorem ggX1_begin_J9_floorMod_7cf53 : GoodIn wsX1_begin wsJ9_floorMod_7cf53 := goodIn_r _ [7] (by decide +kernel) (by decide +kernel)
set_option maxRecDepth 20000 in
theorem gX1_begin_J9_floorMod_7cf53 : GoodIn wsX1_begin (va_wsS RX1 22 yJ9_floorMod_7cf53 wsJ9_floorMod_7cf53) := goodIn_app (goodIn_of _ (by decide +kernel)) ggX1_begin_J9_floorMod_7cf53
set_option maxRecDepth 20000 in
theorem ggX1_begin_X1_atIndex : GoodIn wsX1_begin wsX1_atIndex := goodIn_r _ [12, 13, 3, 4, 5, 6, 7, 14, 15, 16, 17] (by decide +kernel) (by decide +kernel)
set_option maxRecDepth 20000 in
theorem gX1_begin_X1_atIndex : GoodIn wsX1_begin (wsV RX1 34 RX1 yX1_atIndex wsX1_atIndex) := goodIn_app (goodIn_of _ (by decide +kernel)) ggX1_begin_X1_atIndex
theorem dX1_begin_0 : decode cX1_begin 0 = .ok (.aload_n 0, 1) := by decide +kernel
theorem dX1_begin_1 : decode cX1_begin 1 = .ok (.iconst 0, 1) := by decide +kernel
theorem dX1_begin_2 : decode cX1_begin 2 = .ok (.putfield 28, 3) := by decide +kernel
theorem dX1_begin_5 : decode cX1_begin 5 = .ok (.aload_n 0, 1) := by decide +kernel
theorem dX1_begin_6 : decode cX1_begin 6 = .ok (.getfield 31, 3) := by decide +kernel
theorem dX1_begin_9 : decode cX1_begin 9 = .ok (.bipush 30, 2) := by decide +kernel
theorem dX1_begin_11 : decode cX1_begin 11 = .ok (.if_icmp .lt 24, 3) := by decide +kernel
theorem dX1_begin_14 : decode cX1_begin 14 = .ok (.aload_n 0, 1) := by decide +kernel
theorem dX1_begin_15 : decode cX1_begin 15 = .ok (.aload_n 0, 1) := by decide +kernel
theorem dX1_begin_16 : decode cX1_begin 16 = .ok (.getfield 18, 3) := by decide +kernel
theorem dX1_begin_19 : decode cX1_begin 19 = .ok (.iconst 1, 1) := by decide +kernel
theorem dX1_begin_20 : decode cX1_begin 20 = .ok (.iadd, 1) := by decide +kernel
theorem dX1_begin_21 : decode cX1_begin 21 = .ok (.bipush 30, 2) := by decide +kernel
theorem dX1_begin_23 : decode cX1_begin 23 = .ok (.invokestatic 22, 3) := by decide +kernel
theorem dX1_begin_26 : decode cX1_begin 26 = .ok (.putfield 18, 3) := by decide +kernel
theorem dX1_begin_29 : decode cX1_begin 29 = .ok (.aload_n 0, 1) := by decide +kernel
theorem dX1_begin_30 : decode cX1_begin 30 = .ok (.bipush 29, 2) := by decide +kernel
theorem dX1_begin_32 : decode cX1_begin 32 = .ok (.putfield 31, 3) := by decide +kernel
theorem dX1_begin_35 : decode cX1_begin 35 = .ok (.aload_n 0, 1) := by decide +kernel
theorem dX1_begin_36 : decode cX1_begin 36 = .ok (.dup, 1) := by decide +kernel
theorem dX1_begin_37 : decode cX1_begin 37 = .ok (.getfield 31, 3) := by decide +kernel
theorem dX1_begin_40 : decode cX1_begin 40 = .ok (.iconst 1, 1) := by decide +kernel
theorem dX1_begin_41 : decode cX1_begin 41 = .ok (.iadd, 1) := by decide +kernel
theorem dX1_begin_42 : decode cX1_begin 42 = .ok (.putfield 31, 3) := by decide +kernel
theorem dX1_begin_45 : decode cX1_begin 45 = .ok (.aload_n 0, 1) := by decide +kernel
theorem dX1_begin_46 : decode cX1_begin 46 = .ok (.aload_n 0, 1) := by decide +kernel
theorem dX1_begin_47 : decode cX1_begin 47 = .ok (.getfield 31, 3) := by decide +kernel
theorem dX1_begin_50 : decode cX1_begin 50 = .ok (.iconst 1, 1) := by decide +kernel
theorem dX1_begin_51 : decode cX1_begin 51 = .ok (.isub, 1) := by decide +kernel
theorem dX1_begin_52 : decode cX1_begin 52 = .ok (.invokevirtual 34, 3) := by decide +kernel
theorem dX1_begin_55 : decode cX1_begin 55 = .ok (.areturn, 1) := by decide +kernel
set_option maxRecDepth 20000 in
theorem ggX1_stepBack_X1_atIndex : GoodIn wsX1_stepBack wsX1_atIndex := goodIn_r _ [7, 8, 9, 10, 11, 12, 13, 14, 15, 16, 17] (by decide +kernel) (by decide +kernel)
set_option maxRecDepth 20000 in
theorem gX1_stepBack_X1_atIndex : GoodIn wsX1_stepBack (wsV RX1 34 RX1 yX1_atIndex wsX1_atIndex) := goodIn_app (goodIn_of _ (by decide +kernel)) ggX1_stepBack_X1_atIndex
theorem dX1_stepBack_0 : decode cX1_stepBack 0 = .ok (.aload_n 0, 1) := by decide +kernel
theorem dX1_stepBack_1 : decode cX1_stepBack 1 = .ok (.dup, 1) := by decide +kernel
theorem dX1_stepBack_2 : decode cX1_stepBack 2 = .ok (.getfield 31, 3) := by decide +kernel
theorem dX1_stepBack_5 : decode cX1_stepBack 5 = .ok (.iconst 1, 1) := by decide +kernel
theorem dX1_stepBack_6 : decode cX1_stepBack 6 = .ok (.isub, 1) := by decide +kernel
theorem dX1_stepBack_7 : decode cX1_stepBack 7 = .ok (.putfield 31, 3) := by decide +kernel
theorem dX1_stepBack_10 : decode cX1_stepBack 10 = .ok (.aload_n 0, 1) := by decide +kernel
theorem dX1_stepBack_11 : decode cX1_stepBack 11 = .ok (.dup, 1) := by decide +kernel
theorem dX1_stepBack_12 : decode cX1_stepBack 12 = .ok (.getfield 28, 3) := by decide +kernel
theorem dX1_stepBack_15 : decode cX1_stepBack 15 = .ok (.iconst 1, 1) := by decide +kernel
theorem dX1_stepBack_16 : decode cX1_stepBack 16 = .ok (.iadd, 1) := by decide +kernel
theorem dX1_stepBack_17 : decode cX1_stepBack 17 = .ok (.putfield 28, 3) := by decide +kernel
theorem dX1_stepBack_20 : decode cX1_stepBack 20 = .ok (.aload_n 0, 1) := by decide +kernel
theorem dX1_stepBack_21 : decode cX1_stepBack 21 = .ok (.aload_n 0, 1) := by decide +kernel
theorem dX1_stepBack_22 : decode cX1_stepBack 22 = .ok (.getfield 31, 3) := by decide +kernel
theorem dX1_stepBack_25 : decode cX1_stepBack 25 = .ok (.invokevirtual 34, 3) := by decide +kernel
theorem dX1_stepBack_28 : decode cX1_stepBack 28 = .ok (.areturn, 1) := by decide +kernel
set_option maxRecDepth 20000 in
theorem ggX1_stepForward_X1_atIndex : GoodIn wsX1_stepForward wsX1_atIndex := goodIn_r _ [7, 8, 9, 10, 11, 12, 13, 14, 15, 16, 17] (by decide +kernel) (by decide +kernel)
set_option maxRecDepth 20000 in
theorem gX1_stepForward_X1_atIndex : GoodIn wsX1_stepForward (wsV RX1 34 RX1 yX1_atIndex wsX1_atIndex) := goodIn_app (goodIn_of _ (by decide +kernel)) ggX1_stepForward_X1_atIndex
theorem dX1_stepForward_0 : decode cX1_stepForward 0 = .ok (.aload_n 0, 1) := by decide +kernel
theorem dX1_stepForward_1 : decode cX1_stepForward 1 = .ok (.dup, 1) := by decide +kernel
theorem dX1_stepForward_2 : decode cX1_stepForward 2 = .ok (.getfield 31, 3) := by decide +kernel
theorem dX1_stepForward_5 : decode cX1_stepForward 5 = .ok (.iconst 1, 1) := by decide +kernel
theorem dX1_stepForward_6 : decode cX1_stepForward 6 = .ok (.iadd, 1) := by decide +kernel
theorem dX1_stepForward_7 : decode cX1_stepForward 7 = .ok (.putfield 31, 3) := by decide +kernel
theorem dX1_stepForward_10 : decode cX1_stepForward 10 = .ok (.aload_n 0, 1) := by decide +kernel
theorem dX1_stepForward_11 : decode cX1_stepForward 11 = .ok (.dup, 1) := by decide +kernel
theorem dX1_stepForward_12 : decode cX1_stepForward 12 = .ok (.getfield 28, 3) := by decide +kernel
theorem dX1_stepForward_15 : decode cX1_stepForward 15 = .ok (.iconst 1, 1) := by decide +kernel
theorem dX1_stepForward_16 : decode cX1_stepForward 16 = .ok (.isub, 1) := by decide +kernel
theorem dX1_stepForward_17 : decode cX1_stepForward 17 = .ok (.putfield 28, 3) := by decide +kernel
theorem dX1_stepForward_20 : decode cX1_stepForward 20 = .ok (.aload_n 0, 1) := by decide +kernel
theorem dX1_stepForward_21 : decode cX1_stepForward 21 = .ok (.aload_n 0, 1) := by decide +kernel
theorem dX1_stepForward_22 : decode cX1_stepForward 22 = .ok (.getfield 31, 3) := by decide +kernel
theorem dX1_stepForward_25 : decode cX1_stepForward 25 = .ok (.iconst 1, 1) := by decide +kernel
theorem dX1_stepForward_26 : decode cX1_stepForward 26 = .ok (.isub, 1) := by decide +kernel
theorem dX1_stepForward_27 : decode cX1_stepForward 27 = .ok (.invokevirtual 34, 3) := by decide +kernel
theorem dX1_stepForward_30 : decode cX1_stepForward 30 = .ok (.areturn, 1) := by decide +kernel
set_option maxRecDepth 20000 in
theorem ggX2_init_X5_init : GoodIn wsX2_init wsX5_init := goodIn_r _ [11, 12, 2, 3, 13, 14, 15, 16, 17, 18, 19, 20, 21, 6, 22, 23, 24, 25, 26, 27, 28, 29, 30, 31, 32, 33, 34, 35, 36, 37, 38, 53, 54, 44, 45, 46, 47, 48, 49, 50, 51, 52, 55, 56, 57] (by decide +kernel) (by decide +kernel)
set_option maxRecDepth 20000 in
theorem gX2_init_X5_init_n21 : GoodIn wsX2_init (wsX5_init) := ggX2_init_X5_init
theorem dX2_init_0 : decode cX2_init 0 = .ok (.aload_n 0, 1) := by decide +kernel
theorem dX2_init_1 : decode cX2_init 1 = .ok (.invokespecial 3, 3) := by decide +kernel
theorem dX2_init_4 : decode cX2_init 4 = .ok (.aload_n 0, 1) := by decide +kernel
theorem dX2_init_5 : decode cX2_init 5 = .ok (.iconst 5, 1) := by decide +kernel
theorem dX2_init_6 : decode cX2_init 6 = .ok (.anewarray 9, 3) := by decide +kernel
theorem dX2_init_9 : decode cX2_init 9 = .ok (.putfield 11, 3) := by decide +kernel
theorem dX2_init_12 : decode cX2_init 12 = .ok (.aload_n 0, 1) := by decide +kernel
theorem dX2_init_13 : decode cX2_init 13 = .ok (.bipush 100, 2) := by decide +kernel
theorem dX2_init_15 : decode cX2_init 15 = .ok (.newarray .int, 2) := by decide +kernel
theorem dX2_init_17 : decode cX2_init 17 = .ok (.putfield 17, 3) := by decide +kernel
theorem dX2_init_20 : decode cX2_init 20 = .ok (.iconst 0, 1) := by decide +kernel
theorem dX2_init_21 : decode cX2_init 21 = .ok (.istore_n 1, 1) := by decide +kernel
theorem dX2_init_22 : decode cX2_init 22 = .ok (.iload_n 1, 1) := by decide +kernel
theorem dX2_init_23 : decode cX2_init 23 = .ok (.iconst 5, 1) := by decide +kernel
theorem dX2_init_24 : decode cX2_init 24 = .ok (.if_icmp .ge 22, 3) := by decide +kernel
theorem dX2_init_27 : decode cX2_init 27 = .ok (.aload_n 0, 1) := by decide +kernel
theorem dX2_init_28 : decode cX2_init 28 = .ok (.getfield 11, 3) := by decide +kernel
theorem dX2_init_31 : decode cX2_init 31 = .ok (.iload_n 1, 1) := by decide +kernel
theorem dX2_init_32 : decode cX2_init 32 = .ok (.new 9, 3) := by decide +kernel
theorem dX2_init_35 : decode cX2_init 35 = .ok (.dup, 1) := by decide +kernel
theorem dX2_init_36 : decode cX2_init 36 = .ok (.invokespecial 21, 3) := by decide +kernel
theorem dX2_init_39 : decode cX2_init 39 = .ok (.aastore, 1) := by decide +kernel
theorem dX2_init_40 : decode cX2_init 40 = .ok (.iinc 1 1, 3) := by decide +kernel
theorem dX2_init_43 : decode cX2_init 43 = .ok (.goto (-21), 3) := by decide +kernel
theorem dX2_init_46 : decode cX2_init 46 = .ok (.return_, 1) := by decide +kernel
theorem dX2_isRaw_0 : decode cX2_isRaw 0 = .ok (.iload_n 1, 1) := by decide +kernel
theorem dX2_isRaw_1 : decode cX2_isRaw 1 = .ok (.iload_n 2, 1) := by decide +kernel
theorem dX2_isRaw_2 : decode cX2_isRaw 2 = .ok (.if_icmp .eq 21, 3) := by decide +kernel
theorem dX2_isRaw_5 : decode cX2_isRaw 5 = .ok (.iload_n 1, 1) := by decide +kernel
theorem dX2_isRaw_6 : decode cX2_isRaw 6 = .ok (.ifCond .lt 21, 3) := by decide +kernel
theorem dX2_isRaw_9 : decode cX2_isRaw 9 = .ok (.iload_n 1, 1) := by decide +kernel
theorem dX2_isRaw_10 : decode cX2_isRaw 10 = .ok (.iload_n 2, 1) := by decide +kernel
theorem dX2_isRaw_11 : decode cX2_isRaw 11 = .ok (.if_icmp .ge 16, 3) := by decide +kernel
theorem dX2_isRaw_14 : decode cX2_isRaw 14 = .ok (.aload_n 0, 1) := by decide +kernel
theorem dX2_isRaw_15 : decode cX2_isRaw 15 = .ok (.getfield 17, 3) := by decide +kernel
theorem dX2_isRaw_18 : decode cX2_isRaw 18 = .ok (.iload_n 1, 1) := by decide +kernel
theorem dX2_isRaw_19 : decode cX2_isRaw 19 = .ok (.iaload, 1) := by decide +kernel
theorem dX2_isRaw_20 : decode cX2_isRaw 20 = .ok (.ifCond .le 7, 3) := by decide +kernel
theorem dX2_isRaw_23 : decode cX2_isRaw 23 = .ok (.iconst 1, 1) := by decide +kernel
theorem dX2_isRaw_24 : decode cX2_isRaw 24 = .ok (.goto 4, 3) := by decide +kernel
theorem dX2_isRaw_27 : decode cX2_isRaw 27 = .ok (.iconst 0, 1) := by decide +kernel
theorem dX2_isRaw_28 : decode cX2_isRaw 28 = .ok (.ireturn, 1) := by decide +kernel
set_option maxRecDepth 20000 in
theorem ggX2_measure_X5_isSet : GoodIn wsX2_measure wsX5_isSet := goodIn_r _ [14, 15, 16, 83, 84, 85, 86, 87, 88, 89, 90, 91, 92, 93] (by decide +kernel) (by decide +kernel)
set_option maxRecDepth 20000 in
theorem gX2_measure_X5_isSet : GoodIn wsX2_measure (wsV RX2 29 RX5 yX5_isSet wsX5_isSet) := goodIn_app (goodIn_of _ (by decide +kernel)) ggX2_measure_X5_isSet
set_option maxRecDepth 20000 in
theorem ggX2_measure_X5_walk : GoodIn wsX2_measure wsX5_walk := goodIn_r _ [20, 21, 22, 23, 24, 25, 26, 16, 27, 28, 29, 30, 31, 32, 33, 34, 35, 13, 36, 37, 38, 39, 40, 41, 42, 43, 44, 45, 46, 47, 48, 49, 50, 51, 52, 53, 54, 55, 56, 57, 58, 59, 60, 61, 62, 63, 64, 65, 66, 67, 68, 69, 70, 71, 72, 73, 74, 75, 76, 77, 6, 7, 8, 83, 84, 85, 86, 87, 88, 89, 90, 91, 94, 95, 96, 97, 98, 92, 93] (by decide +kernel) (by decide +kernel)
set_option maxRecDepth 20000 in
theorem gX2_measure_X5_walk : GoodIn wsX2_measure (wsV RX2 33 RX5 yX5_walk wsX5_walk) := goodIn_app (goodIn_of _ (by decide +kernel)) ggX2_measure_X5_walk
theorem dX2_measure_0 : decode cX2_measure 0 = .ok (.aload_n 0, 1) := by decide +kernel
theorem dX2_measure_1 : decode cX2_measure 1 = .ok (.iconst 1, 1) := by decide +kernel
theorem dX2_measure_2 : decode cX2_measure 2 = .ok (.putfield 22, 3) := by decide +kernel
theorem dX2_measure_5 : decode cX2_measure 5 = .ok (.aload_n 0, 1) := by decide +kernel
theorem dX2_measure_6 : decode cX2_measure 6 = .ok (.iconst 1, 1) := by decide +kernel
theorem dX2_measure_7 : decode cX2_measure 7 = .ok (.putfield 26, 3) := by decide +kernel
theorem dX2_measure_10 : decode cX2_measure 10 = .ok (.iconst 0, 1) := by decide +kernel
theorem dX2_measure_11 : decode cX2_measure 11 = .ok (.istore_n 3, 1) := by decide +kernel
theorem dX2_measure_12 : decode cX2_measure 12 = .ok (.iload_n 3, 1) := by decide +kernel
theorem dX2_measure_13 : decode cX2_measure 13 = .ok (.iconst 5, 1) := by decide +kernel
theorem dX2_measure_14 : decode cX2_measure 14 = .ok (.if_icmp .ge 64, 3) := by decide +kernel
theorem dX2_measure_17 : decode cX2_measure 17 = .ok (.aload_n 0, 1) := by decide +kernel
theorem dX2_measure_18 : decode cX2_measure 18 = .ok (.getfield 11, 3) := by decide +kernel
theorem dX2_measure_21 : decode cX2_measure 21 = .ok (.iload_n 3, 1) := by decide +kernel
theorem dX2_measure_22 : decode cX2_measure 22 = .ok (.aaload, 1) := by decide +kernel
theorem dX2_measure_23 : decode cX2_measure 23 = .ok (.astore 4, 2) := by decide +kernel
theorem dX2_measure_25 : decode cX2_measure 25 = .ok (.aload 4, 2) := by decide +kernel
theorem dX2_measure_27 : decode cX2_measure 27 = .ok (.invokevirtual 29, 3) := by decide +kernel
theorem dX2_measure_30 : decode cX2_measure 30 = .ok (.ifCond .eq 42, 3) := by decide +kernel
theorem dX2_measure_33 : decode cX2_measure 33 = .ok (.aload 4, 2) := by decide +kernel
theorem dX2_measure_35 : decode cX2_measure 35 = .ok (.aload_n 1, 1) := by decide +kernel
theorem dX2_measure_36 : decode cX2_measure 36 = .ok (.iload_n 2, 1) := by decide +kernel
theorem dX2_measure_37 : decode cX2_measure 37 = .ok (.invokevirtual 33, 3) := by decide +kernel
theorem dX2_measure_40 : decode cX2_measure 40 = .ok (.aload_n 0, 1) := by decide +kernel
theorem dX2_measure_41 : decode cX2_measure 41 = .ok (.aload_n 0, 1) := by decide +kernel
theorem dX2_measure_42 : decode cX2_measure 42 = .ok (.getfield 22, 3) := by decide +kernel
theorem dX2_measure_45 : decode cX2_measure 45 = .ok (.aload 4, 2) := by decide +kernel
theorem dX2_measure_47 : decode cX2_measure 47 = .ok (.getfield 37, 3) := by decide +kernel
theorem dX2_measure_50 : decode cX2_measure 50 = .ok (.invokestatic 40, 3) := by decide +kernel
theorem dX2_measure_53 : decode cX2_measure 53 = .ok (.putfield 22, 3) := by decide +kernel
theorem dX2_measure_56 : decode cX2_measure 56 = .ok (.aload_n 0, 1) := by decide +kernel
theorem dX2_measure_57 : decode cX2_measure 57 = .ok (.aload_n 0, 1) := by decide +kernel
theorem dX2_measure_58 : decode cX2_measure 58 = .ok (.getfield 26, 3) := by decide +kernel
theorem dX2_measure_61 : decode cX2_measure 61 = .ok (.aload 4, 2) := by decide +kernel
theorem dX2_measure_63 : decode cX2_measure 63 = .ok (.getfield 46, 3) := by decide +kernel
theorem dX2_measure_66 : decode cX2_measure 66 = .ok (.invokestatic 40, 3) := by decide +kernel
theorem dX2_measure_69 : decode cX2_measure 69 = .ok (.putfield 26, 3) := by decide +kernel
theorem dX2_measure_72 : decode cX2_measure 72 = .ok (.iinc 3 1, 3) := by decide +kernel
theorem dX2_measure_75 : decode cX2_measure 75 = .ok (.goto (-63), 3) := by decide +kernel
theorem dX2_measure_78 : decode cX2_measure 78 = .ok (.return_, 1) := by decide +kernel
theorem dX2_firstTouched_0 : decode cX2_firstTouched 0 = .ok (.iconst 0, 1) := by decide +kernel
theorem dX2_firstTouched_1 : decode cX2_firstTouched 1 = .ok (.istore_n 3, 1) := by decide +kernel
theorem dX2_firstTouched_2 : decode cX2_firstTouched 2 = .ok (.iload_n 3, 1) := by decide +kernel
theorem dX2_firstTouched_3 : decode cX2_firstTouched 3 = .ok (.iload_n 2, 1) := by decide +kernel
theorem dX2_firstTouched_4 : decode cX2_firstTouched 4 = .ok (.if_icmp .ge 41, 3) := by decide +kernel
theorem dX2_firstTouched_7 : decode cX2_firstTouched 7 = .ok (.iload_n 3, 1) := by decide +kernel
theorem dX2_firstTouched_8 : decode cX2_firstTouched 8 = .ok (.aload_n 0, 1) := by decide +kernel
theorem dX2_firstTouched_9 : decode cX2_firstTouched 9 = .ok (.getfield 17, 3) := by decide +kernel
theorem dX2_firstTouched_12 : decode cX2_firstTouched 12 = .ok (.arraylength, 1) := by decide +kernel
theorem dX2_firstTouched_13 : decode cX2_firstTouched 13 = .ok (.if_icmp .ge 32, 3) := by decide +kernel
theorem dX2_firstTouched_16 : decode cX2_firstTouched 16 = .ok (.aload_n 0, 1) := by decide +kernel
theorem dX2_firstTouched_17 : decode cX2_firstTouched 17 = .ok (.getfield 17, 3) := by decide +kernel
theorem dX2_firstTouched_20 : decode cX2_firstTouched 20 = .ok (.iload_n 3, 1) := by decide +kernel
theorem dX2_firstTouched_21 : decode cX2_firstTouched 21 = .ok (.iaload, 1) := by decide +kernel
theorem dX2_firstTouched_22 : decode cX2_firstTouched 22 = .ok (.ifCond .le 17, 3) := by decide +kernel
theorem dX2_firstTouched_25 : decode cX2_firstTouched 25 = .ok (.iload_n 3, 1) := by decide +kernel
theorem dX2_firstTouched_26 : decode cX2_firstTouched 26 = .ok (.aload_n 0, 1) := by decide +kernel
theorem dX2_firstTouched_27 : decode cX2_firstTouched 27 = .ok (.getfield 17, 3) := by decide +kernel
theorem dX2_firstTouched_30 : decode cX2_firstTouched 30 = .ok (.iload_n 3, 1) := by decide +kernel
theorem dX2_firstTouched_31 : decode cX2_firstTouched 31 = .ok (.iaload, 1) := by decide +kernel
theorem dX2_firstTouched_32 : decode cX2_firstTouched 32 = .ok (.iadd, 1) := by decide +kernel
theorem dX2_firstTouched_33 : decode cX2_firstTouched 33 = .ok (.iload_n 1, 1) := by decide +kernel
theorem dX2_firstTouched_34 : decode cX2_firstTouched 34 = .ok (.if_icmp .le 5, 3) := by decide +kernel
theorem dX2_firstTouched_37 : decode cX2_firstTouched 37 = .ok (.iload_n 3, 1) := by decide +kernel
theorem dX2_firstTouched_38 : decode cX2_firstTouched 38 = .ok (.ireturn, 1) := by decide +kernel
theorem dX2_firstTouched_39 : decode cX2_firstTouched 39 = .ok (.iinc 3 1, 3) := by decide +kernel
theorem dX2_firstTouched_42 : decode cX2_firstTouched 42 = .ok (.goto (-40), 3) := by decide +kernel
theorem dX2_firstTouched_45 : decode cX2_firstTouched 45 = .ok (.iload_n 2, 1) := by decide +kernel
theorem dX2_firstTouched_46 : decode cX2_firstTouched 46 = .ok (.ireturn, 1) := by decide +kernel
set_option maxRecDepth 20000 in
theorem ggX2_moveUp_J7_fill_fda19 : GoodIn wsX2_moveUp wsJ7_fill_fda19 := goodIn_r _ [9, 10, 11, 8, 12] (by decide +kernel) (by decide +kernel)
set_option maxRecDepth 20000 in
theorem gX2_moveUp_J7_fill_fda19 : GoodIn wsX2_moveUp (va_wsS RX2 53 yJ7_fill_fda19 wsJ7_fill_fda19) := goodIn_app (goodIn_of _ (by decide +kernel)) ggX2_moveUp_J7_fill_fda19
theorem dX2_moveUp_0 : decode cX2_moveUp 0 = .ok (.iload_n 1, 1) := by decide +kernel
theorem dX2_moveUp_1 : decode cX2_moveUp 1 = .ok (.ifCond .lt 23, 3) := by decide +kernel
theorem dX2_moveUp_4 : decode cX2_moveUp 4 = .ok (.iload_n 2, 1) := by decide +kernel
theorem dX2_moveUp_5 : decode cX2_moveUp 5 = .ok (.ifCond .lt 19, 3) := by decide +kernel
theorem dX2_moveUp_8 : decode cX2_moveUp 8 = .ok (.iload_n 1, 1) := by decide +kernel
theorem dX2_moveUp_9 : decode cX2_moveUp 9 = .ok (.iload_n 3, 1) := by decide +kernel
theorem dX2_moveUp_10 : decode cX2_moveUp 10 = .ok (.if_icmp .gt 14, 3) := by decide +kernel
theorem dX2_moveUp_13 : decode cX2_moveUp 13 = .ok (.iload_n 2, 1) := by decide +kernel
theorem dX2_moveUp_14 : decode cX2_moveUp 14 = .ok (.aload_n 0, 1) := by decide +kernel
theorem dX2_moveUp_15 : decode cX2_moveUp 15 = .ok (.getfield 17, 3) := by decide +kernel
theorem dX2_moveUp_18 : decode cX2_moveUp 18 = .ok (.arraylength, 1) := by decide +kernel
theorem dX2_moveUp_19 : decode cX2_moveUp 19 = .ok (.iload_n 3, 1) := by decide +kernel
theorem dX2_moveUp_20 : decode cX2_moveUp 20 = .ok (.isub, 1) := by decide +kernel
theorem dX2_moveUp_21 : decode cX2_moveUp 21 = .ok (.if_icmp .le 4, 3) := by decide +kernel
theorem dX2_moveUp_24 : decode cX2_moveUp 24 = .ok (.return_, 1) := by decide +kernel
theorem dX2_moveUp_25 : decode cX2_moveUp 25 = .ok (.aload_n 0, 1) := by decide +kernel
theorem dX2_moveUp_26 : decode cX2_moveUp 26 = .ok (.getfield 17, 3) := by decide +kernel
theorem dX2_moveUp_29 : decode cX2_moveUp 29 = .ok (.iload_n 1, 1) := by decide +kernel
theorem dX2_moveUp_30 : decode cX2_moveUp 30 = .ok (.aload_n 0, 1) := by decide +kernel
theorem dX2_moveUp_31 : decode cX2_moveUp 31 = .ok (.getfield 17, 3) := by decide +kernel
theorem dX2_moveUp_34 : decode cX2_moveUp 34 = .ok (.iload_n 1, 1) := by decide +kernel
theorem dX2_moveUp_35 : decode cX2_moveUp 35 = .ok (.iload_n 2, 1) := by decide +kernel
theorem dX2_moveUp_36 : decode cX2_moveUp 36 = .ok (.iadd, 1) := by decide +kernel
theorem dX2_moveUp_37 : decode cX2_moveUp 37 = .ok (.iload_n 3, 1) := by decide +kernel
theorem dX2_moveUp_38 : decode cX2_moveUp 38 = .ok (.iload_n 1, 1) := by decide +kernel
theorem dX2_moveUp_39 : decode cX2_moveUp 39 = .ok (.isub, 1) := by decide +kernel
theorem dX2_moveUp_40 : decode cX2_moveUp 40 = .ok (.invokestatic 47, 3) := by decide +kernel
theorem dX2_moveUp_43 : decode cX2_moveUp 43 = .ok (.aload_n 0, 1) := by decide +kernel
theorem dX2_moveUp_44 : decode cX2_moveUp 44 = .ok (.getfield 17, 3) := by decide +kernel
theorem dX2_moveUp_47 : decode cX2_moveUp 47 = .ok (.iload_n 1, 1) := by decide +kernel
theorem dX2_moveUp_48 : decode cX2_moveUp 48 = .ok (.iload_n 1, 1) := by decide +kernel
theorem dX2_moveUp_49 : decode cX2_moveUp 49 = .ok (.iload_n 2, 1) := by decide +kernel
theorem dX2_moveUp_50 : decode cX2_moveUp 50 = .ok (.iadd, 1) := by decide +kernel
theorem dX2_moveUp_51 : decode cX2_moveUp 51 = .ok (.iconst 0, 1) := by decide +kernel
theorem dX2_moveUp_52 : decode cX2_moveUp 52 = .ok (.invokestatic 53, 3) := by decide +kernel
theorem dX2_moveUp_55 : decode cX2_moveUp 55 = .ok (.return_, 1) := by decide +kernel
theorem dX2_moveDown_0 : decode cX2_moveDown 0 = .ok (.iload_n 1, 1) := by decide +kernel
theorem dX2_moveDown_1 : decode cX2_moveDown 1 = .ok (.ifCond .lt 23, 3) := by decide +kernel
theorem dX2_moveDown_4 : decode cX2_moveDown 4 = .ok (.iload_n 2, 1) := by decide +kernel
theorem dX2_moveDown_5 : decode cX2_moveDown 5 = .ok (.ifCond .lt 19, 3) := by decide +kernel
theorem dX2_moveDown_8 : decode cX2_moveDown 8 = .ok (.iload_n 2, 1) := by decide +kernel
theorem dX2_moveDown_9 : decode cX2_moveDown 9 = .ok (.iload_n 3, 1) := by decide +kernel
theorem dX2_moveDown_10 : decode cX2_moveDown 10 = .ok (.iload_n 1, 1) := by decide +kernel
theorem dX2_moveDown_11 : decode cX2_moveDown 11 = .ok (.isub, 1) := by decide +kernel
theorem dX2_moveDown_12 : decode cX2_moveDown 12 = .ok (.if_icmp .gt 12, 3) := by decide +kernel
theorem dX2_moveDown_15 : decode cX2_moveDown 15 = .ok (.iload_n 3, 1) := by decide +kernel
theorem dX2_moveDown_16 : decode cX2_moveDown 16 = .ok (.aload_n 0, 1) := by decide +kernel
theorem dX2_moveDown_17 : decode cX2_moveDown 17 = .ok (.getfield 17, 3) := by decide +kernel
theorem dX2_moveDown_20 : decode cX2_moveDown 20 = .ok (.arraylength, 1) := by decide +kernel
theorem dX2_moveDown_21 : decode cX2_moveDown 21 = .ok (.if_icmp .le 4, 3) := by decide +kernel
theorem dX2_moveDown_24 : decode cX2_moveDown 24 = .ok (.return_, 1) := by decide +kernel
theorem dX2_moveDown_25 : decode cX2_moveDown 25 = .ok (.aload_n 0, 1) := by decide +kernel
theorem dX2_moveDown_26 : decode cX2_moveDown 26 = .ok (.getfield 17, 3) := by decide +kernel
theorem dX2_moveDown_29 : decode cX2_moveDown 29 = .ok (.iload_n 1, 1) := by decide +kernel
theorem dX2_moveDown_30 : decode cX2_moveDown 30 = .ok (.iload_n 2, 1) := by decide +kernel
theorem dX2_moveDown_31 : decode cX2_moveDown 31 = .ok (.iadd, 1) := by decide +kernel
theorem dX2_moveDown_32 : decode cX2_moveDown 32 = .ok (.aload_n 0, 1) := by decide +kernel
theorem dX2_moveDown_33 : decode cX2_moveDown 33 = .ok (.getfield 17, 3) := by decide +kernel
theorem dX2_moveDown_36 : decode cX2_moveDown 36 = .ok (.iload_n 1, 1) := by decide +kernel
theorem dX2_moveDown_37 : decode cX2_moveDown 37 = .ok (.iload_n 3, 1) := by decide +kernel
theorem dX2_moveDown_38 : decode cX2_moveDown 38 = .ok (.iload_n 1, 1) := by decide +kernel
theorem dX2_moveDown_39 : decode cX2_moveDown 39 = .ok (.isub, 1) := by decide +kernel
theorem dX2_moveDown_40 : decode cX2_moveDown 40 = .ok (.iload_n 2, 1) := by decide +kernel
theorem dX2_moveDown_41 : decode cX2_moveDown 41 = .ok (.isub, 1) := by decide +kernel
theorem dX2_moveDown_42 : decode cX2_moveDown 42 = .ok (.invokestatic 47, 3) := by decide +kernel
theorem dX2_moveDown_45 : decode cX2_moveDown 45 = .ok (.return_, 1) := by decide +kernel
set_option maxRecDepth 20000 in
theorem ggX2_analyseAll_X2_analyse : GoodIn wsX2_analyseAll wsX2_analyse := goodIn_r _ [7, 1, 2, 8, 9, 10, 11, 12, 13, 14, 15, 16, 17, 18, 19, 20, 21, 6, 22, 23, 24, 25, 26, 27, 28, 29, 30, 31, 32, 33, 34, 35, 36, 37, 38, 39, 40, 41, 42, 43, 44, 45, 46, 47, 48, 49, 50, 51, 52, 53, 54, 55, 56, 57, 58, 59, 60, 61, 62, 63, 64, 65, 66, 67, 68, 69, 70, 71, 72, 73, 74, 75, 76, 77, 78, 79, 80, 81, 82, 83, 84, 85, 86, 87, 88, 89, 90, 91, 92, 93, 94, 95, 96, 97, 98, 99, 100, 101, 102, 103, 104, 105, 106, 107, 108, 109, 110, 111, 112, 113, 114] (by decide +kernel) (by decide +kernel)
set_option maxRecDepth 20000 in
theorem gX2_analyseAll_X2_analyse : GoodIn wsX2_analyseAll (wsV RX2 70 RX2 yX2_analyse wsX2_analyse) := goodIn_app (goodIn_of _ (by decide +kernel)) ggX2_analyseAll_X2_analyse
theorem dX2_analyseAll_0 : decode cX2_analyseAll 0 = .ok (.aload_n 0, 1) := by decide +kernel
theorem dX2_analyseAll_1 : decode cX2_analyseAll 1 = .ok (.aload_n 1, 1) := by decide +kernel
theorem dX2_analyseAll_2 : decode cX2_analyseAll 2 = .ok (.iconst 0, 1) := by decide +kernel
theorem dX2_analyseAll_3 : decode cX2_analyseAll 3 = .ok (.aload_n 1, 1) := by decide +kernel
theorem dX2_analyseAll_4 : decode cX2_analyseAll 4 = .ok (.getfield 59, 3) := by decide +kernel
theorem dX2_analyseAll_7 : decode cX2_analyseAll 7 = .ok (.getfield 65, 3) := by decide +kernel
theorem dX2_analyseAll_10 : decode cX2_analyseAll 10 = .ok (.invokevirtual 70, 3) := by decide +kernel
theorem dX2_analyseAll_13 : decode cX2_analyseAll 13 = .ok (.return_, 1) := by decide +kernel
set_option maxRecDepth 20000 in
theorem ggX2_analyse_X2_measure : GoodIn wsX2_analyse wsX2_measure := goodIn_r _ [18, 12, 13, 19, 20, 8, 9, 6, 10, 21, 22, 23, 24, 25, 26, 27, 28, 29, 30, 31, 32, 33, 34, 35, 36, 37, 38, 39, 40, 41, 42, 43, 44, 45, 46, 47, 48, 49, 50, 51, 52, 53, 54, 55, 56, 57, 58, 59, 60, 61, 62, 63, 64, 65, 66, 67, 68, 69, 70, 71, 72, 73, 74, 75, 76, 77, 78, 79, 80, 81, 82, 83, 84, 85, 86, 87, 88, 89, 94, 95, 96, 97, 98, 99, 100, 101, 102, 103, 104, 105, 106, 107, 92, 93, 108, 109, 110, 90, 91] (by decide +kernel) (by decide +kernel)
set_option maxRecDepth 20000 in
theorem gX2_analyse_X2_measure : GoodIn wsX2_analyse (wsV RX2 80 RX2 yX2_measure wsX2_measure) := goodIn_app (goodIn_of _ (by decide +kernel)) ggX2_analyse_X2_measure
theorem dX2_analyse_0 : decode cX2_analyse 0 = .ok (.aload_n 1, 1) := by decide +kernel
theorem dX2_analyse_1 : decode cX2_analyse 1 = .ok (.getfield 59, 3) := by decide +kernel
theorem dX2_analyse_4 : decode cX2_analyse 4 = .ok (.getfield 65, 3) := by decide +kernel
theorem dX2_analyse_7 : decode cX2_analyse 7 = .ok (.aload_n 0, 1) := by decide +kernel
theorem dX2_analyse_8 : decode cX2_analyse 8 = .ok (.getfield 17, 3) := by decide +kernel
theorem dX2_analyse_11 : decode cX2_analyse 11 = .ok (.arraylength, 1) := by decide +kernel
theorem dX2_analyse_12 : decode cX2_analyse 12 = .ok (.invokestatic 74, 3) := by decide +kernel
theorem dX2_analyse_15 : decode cX2_analyse 15 = .ok (.istore 4, 2) := by decide +kernel
theorem dX2_analyse_17 : decode cX2_analyse 17 = .ok (.iconst 0, 1) := by decide +kernel
theorem dX2_analyse_18 : decode cX2_analyse 18 = .ok (.iload_n 2, 1) := by decide +kernel
theorem dX2_analyse_19 : decode cX2_analyse 19 = .ok (.invokestatic 40, 3) := by decide +kernel
theorem dX2_analyse_22 : decode cX2_analyse 22 = .ok (.istore 5, 2) := by decide +kernel
theorem dX2_analyse_24 : decode cX2_analyse 24 = .ok (.aload_n 0, 1) := by decide +kernel
theorem dX2_analyse_25 : decode cX2_analyse 25 = .ok (.iconst 0, 1) := by decide +kernel
theorem dX2_analyse_26 : decode cX2_analyse 26 = .ok (.putfield 77, 3) := by decide +kernel
theorem dX2_analyse_29 : decode cX2_analyse 29 = .ok (.iload 5, 2) := by decide +kernel
theorem dX2_analyse_31 : decode cX2_analyse 31 = .ok (.iload 4, 2) := by decide +kernel
theorem dX2_analyse_33 : decode cX2_analyse 33 = .ok (.if_icmp .ge 88, 3) := by decide +kernel
theorem dX2_analyse_36 : decode cX2_analyse 36 = .ok (.iload 5, 2) := by decide +kernel
theorem dX2_analyse_38 : decode cX2_analyse 38 = .ok (.iload_n 3, 1) := by decide +kernel
theorem dX2_analyse_39 : decode cX2_analyse 39 = .ok (.if_icmp .lt 13, 3) := by decide +kernel
theorem dX2_analyse_42 : decode cX2_analyse 42 = .ok (.aload_n 0, 1) := by decide +kernel
theorem dX2_analyse_43 : decode cX2_analyse 43 = .ok (.getfield 17, 3) := by decide +kernel
theorem dX2_analyse_46 : decode cX2_analyse 46 = .ok (.iload 5, 2) := by decide +kernel
theorem dX2_analyse_48 : decode cX2_analyse 48 = .ok (.iaload, 1) := by decide +kernel
theorem dX2_analyse_49 : decode cX2_analyse 49 = .ok (.ifCond .ne 72, 3) := by decide +kernel
theorem dX2_analyse_52 : decode cX2_analyse 52 = .ok (.aload_n 0, 1) := by decide +kernel
theorem dX2_analyse_53 : decode cX2_analyse 53 = .ok (.aload_n 1, 1) := by decide +kernel
theorem dX2_analyse_54 : decode cX2_analyse 54 = .ok (.iload 5, 2) := by decide +kernel
theorem dX2_analyse_56 : decode cX2_analyse 56 = .ok (.invokevirtual 80, 3) := by decide +kernel
theorem dX2_analyse_59 : decode cX2_analyse 59 = .ok (.iload 4, 2) := by decide +kernel
theorem dX2_analyse_61 : decode cX2_analyse 61 = .ok (.iload 5, 2) := by decide +kernel
theorem dX2_analyse_63 : decode cX2_analyse 63 = .ok (.aload_n 0, 1) := by decide +kernel
theorem dX2_analyse_64 : decode cX2_analyse 64 = .ok (.getfield 22, 3) := by decide +kernel
theorem dX2_analyse_67 : decode cX2_analyse 67 = .ok (.iadd, 1) := by decide +kernel
theorem dX2_analyse_68 : decode cX2_analyse 68 = .ok (.invokestatic 74, 3) := by decide +kernel
theorem dX2_analyse_71 : decode cX2_analyse 71 = .ok (.istore 6, 2) := by decide +kernel
theorem dX2_analyse_73 : decode cX2_analyse 73 = .ok (.aload_n 0, 1) := by decide +kernel
theorem dX2_analyse_74 : decode cX2_analyse 74 = .ok (.getfield 17, 3) := by decide +kernel
theorem dX2_analyse_77 : decode cX2_analyse 77 = .ok (.iload 5, 2) := by decide +kernel
theorem dX2_analyse_79 : decode cX2_analyse 79 = .ok (.aload_n 0, 1) := by decide +kernel
theorem dX2_analyse_80 : decode cX2_analyse 80 = .ok (.getfield 26, 3) := by decide +kernel
theorem dX2_analyse_83 : decode cX2_analyse 83 = .ok (.iastore, 1) := by decide +kernel
theorem dX2_analyse_84 : decode cX2_analyse 84 = .ok (.iinc 5 1, 3) := by decide +kernel
theorem dX2_analyse_87 : decode cX2_analyse 87 = .ok (.iload 5, 2) := by decide +kernel
theorem dX2_analyse_89 : decode cX2_analyse 89 = .ok (.iload 6, 2) := by decide +kernel
theorem dX2_analyse_91 : decode cX2_analyse 91 = .ok (.if_icmp .ge 17, 3) := by decide +kernel
theorem dX2_analyse_94 : decode cX2_analyse 94 = .ok (.aload_n 0, 1) := by decide +kernel
theorem dX2_analyse_95 : decode cX2_analyse 95 = .ok (.getfield 17, 3) := by decide +kernel
theorem dX2_analyse_98 : decode cX2_analyse 98 = .ok (.iload 5, 2) := by decide +kernel
theorem dX2_analyse_100 : decode cX2_analyse 100 = .ok (.iconst 0, 1) := by decide +kernel
theorem dX2_analyse_101 : decode cX2_analyse 101 = .ok (.iastore, 1) := by decide +kernel
theorem dX2_analyse_102 : decode cX2_analyse 102 = .ok (.iinc 5 1, 3) := by decide +kernel
theorem dX2_analyse_105 : decode cX2_analyse 105 = .ok (.goto (-18), 3) := by decide +kernel
theorem dX2_analyse_108 : decode cX2_analyse 108 = .ok (.aload_n 0, 1) := by decide +kernel
theorem dX2_analyse_109 : decode cX2_analyse 109 = .ok (.dup, 1) := by decide +kernel
theorem dX2_analyse_110 : decode cX2_analyse 110 = .ok (.getfield 77, 3) := by decide +kernel
theorem dX2_analyse_113 : decode cX2_analyse 113 = .ok (.iconst 1, 1) := by decide +kernel
theorem dX2_analyse_114 : decode cX2_analyse 114 = .ok (.iadd, 1) := by decide +kernel
theorem dX2_analyse_115 : decode cX2_analyse 115 = .ok (.putfield 77, 3) := by decide +kernel
theorem dX2_analyse_118 : decode cX2_analyse 118 = .ok (.goto (-89), 3) := by decide +kernel
theorem dX2_analyse_121 : decode cX2_analyse 121 = .ok (.return_, 1) := by decide +kernel
theorem dX3_init_0 : decode cX3_init 0 = .ok (.aload_n 0, 1) := by decide +kernel
theorem dX3_init_1 : decode cX3_init 1 = .ok (.invokespecial 1, 3) := by decide +kernel
theorem dX3_init_4 : decode cX3_init 4 = .ok (.return_, 1) := by decide +kernel
theorem dX3_become_0 : decode cX3_become 0 = .ok (.aload_n 0, 1) := by decide +kernel
theorem dX3_become_1 : decode cX3_become 1 = .ok (.iload_n 1, 1) := by decide +kernel
theorem dX3_become_2 : decode cX3_become 2 = .ok (.putfield 7, 3) := by decide +kernel
theorem dX3_become_5 : decode cX3_become 5 = .ok (.aload_n 0, 1) := by decide +kernel
theorem dX3_become_6 : decode cX3_become 6 = .ok (.iload_n 2, 1) := by decide +kernel
theorem dX3_become_7 : decode cX3_become 7 = .ok (.putfield 13, 3) := by decide +kernel
theorem dX3_become_10 : decode cX3_become 10 = .ok (.aload_n 0, 1) := by decide +kernel
theorem dX3_become_11 : decode cX3_become 11 = .ok (.iload_n 3, 1) := by decide +kernel
theorem dX3_become_12 : decode cX3_become 12 = .ok (.putfield 16, 3) := by decide +kernel
theorem dX3_become_15 : decode cX3_become 15 = .ok (.return_, 1) := by decide +kernel
set_option maxRecDepth 20000 in
theorem ggX3_becomeNothing_X3_become : GoodIn wsX3_becomeNothing wsX3_become := goodIn_r _ [5, 6, 7, 8, 9, 10, 11] (by decide +kernel) (by decide +kernel)
set_option maxRecDepth 20000 in
theorem gX3_becomeNothing_X3_become : GoodIn wsX3_becomeNothing (wsV RX3 20 RX3 yX3_become wsX3_become) := goodIn_app (goodIn_of _ (by decide +kernel)) ggX3_becomeNothing_X3_become
theorem dX3_becomeNothing_0 : decode cX3_becomeNothing 0 = .ok (.aload_n 0, 1) := by decide +kernel
theorem dX3_becomeNothing_1 : decode cX3_becomeNothing 1 = .ok (.iconst 0, 1) := by decide +kernel
theorem dX3_becomeNothing_2 : decode cX3_becomeNothing 2 = .ok (.iconst 0, 1) := by decide +kernel
theorem dX3_becomeNothing_3 : decode cX3_becomeNothing 3 = .ok (.iconst 0, 1) := by decide +kernel
theorem dX3_becomeNothing_4 : decode cX3_becomeNothing 4 = .ok (.invokevirtual 20, 3) := by decide +kernel
theorem dX3_becomeNothing_7 : decode cX3_becomeNothing 7 = .ok (.return_, 1) := by decide +kernel
set_option maxRecDepth 20000 in
theorem ggX3_becomeEmpty_X3_become : GoodIn wsX3_becomeEmpty wsX3_become := goodIn_r _ [5, 6, 7, 8, 9, 10, 11] (by decide +kernel) (by decide +kernel)
set_option maxRecDepth 20000 in
theorem gX3_becomeEmpty_X3_become : GoodIn wsX3_becomeEmpty (wsV RX3 20 RX3 yX3_become wsX3_become) := goodIn_app (goodIn_of _ (by decide +kernel)) ggX3_becomeEmpty_X3_become
theorem dX3_becomeEmpty_0 : decode cX3_becomeEmpty 0 = .ok (.aload_n 0, 1) := by decide +kernel
theorem dX3_becomeEmpty_1 : decode cX3_becomeEmpty 1 = .ok (.iconst 0, 1) := by decide +kernel
theorem dX3_becomeEmpty_2 : decode cX3_becomeEmpty 2 = .ok (.iconst 0, 1) := by decide +kernel
theorem dX3_becomeEmpty_3 : decode cX3_becomeEmpty 3 = .ok (.iconst 1, 1) := by decide +kernel
theorem dX3_becomeEmpty_4 : decode cX3_becomeEmpty 4 = .ok (.invokevirtual 20, 3) := by decide +kernel
theorem dX3_becomeEmpty_7 : decode cX3_becomeEmpty 7 = .ok (.return_, 1) := by decide +kernel
set_option maxRecDepth 20000 in
theorem ggX3_orElse_X3_become : GoodIn wsX3_orElse wsX3_become := goodIn_r _ [8, 1, 2, 3, 9, 10, 11] (by decide +kernel) (by decide +kernel)
set_option maxRecDepth 20000 in
theorem gX3_orElse_X3_become : GoodIn wsX3_orElse (wsV RX3 20 RX3 yX3_become wsX3_become) := goodIn_app (goodIn_of _ (by decide +kernel)) ggX3_orElse_X3_become
theorem dX3_orElse_0 : decode cX3_orElse 0 = .ok (.aload_n 0, 1) := by decide +kernel
theorem dX3_orElse_1 : decode cX3_orElse 1 = .ok (.aload_n 0, 1) := by decide +kernel
theorem dX3_orElse_2 : decode cX3_orElse 2 = .ok (.getfield 7, 3) := by decide +kernel
theorem dX3_orElse_5 : decode cX3_orElse 5 = .ok (.aload_n 1, 1) := by decide +kernel
theorem dX3_orElse_6 : decode cX3_orElse 6 = .ok (.getfield 7, 3) := by decide +kernel
theorem dX3_orElse_9 : decode cX3_orElse 9 = .ok (.ior, 1) := by decide +kernel
theorem dX3_orElse_10 : decode cX3_orElse 10 = .ok (.aload_n 0, 1) := by decide +kernel
theorem dX3_orElse_11 : decode cX3_orElse 11 = .ok (.getfield 13, 3) := by decide +kernel
theorem dX3_orElse_14 : decode cX3_orElse 14 = .ok (.aload_n 1, 1) := by decide +kernel
theorem dX3_orElse_15 : decode cX3_orElse 15 = .ok (.getfield 13, 3) := by decide +kernel
theorem dX3_orElse_18 : decode cX3_orElse 18 = .ok (.ior, 1) := by decide +kernel
theorem dX3_orElse_19 : decode cX3_orElse 19 = .ok (.aload_n 0, 1) := by decide +kernel
theorem dX3_orElse_20 : decode cX3_orElse 20 = .ok (.getfield 16, 3) := by decide +kernel
theorem dX3_orElse_23 : decode cX3_orElse 23 = .ok (.ifCond .ne 10, 3) := by decide +kernel
theorem dX3_orElse_26 : decode cX3_orElse 26 = .ok (.aload_n 1, 1) := by decide +kernel
theorem dX3_orElse_27 : decode cX3_orElse 27 = .ok (.getfield 16, 3) := by decide +kernel
theorem dX3_orElse_30 : decode cX3_orElse 30 = .ok (.ifCond .eq 7, 3) := by decide +kernel
theorem dX3_orElse_33 : decode cX3_orElse 33 = .ok (.iconst 1, 1) := by decide +kernel
theorem dX3_orElse_34 : decode cX3_orElse 34 = .ok (.goto 4, 3) := by decide +kernel
theorem dX3_orElse_37 : decode cX3_orElse 37 = .ok (.iconst 0, 1) := by decide +kernel
theorem dX3_orElse_38 : decode cX3_orElse 38 = .ok (.invokevirtual 20, 3) := by decide +kernel
theorem dX3_orElse_41 : decode cX3_orElse 41 = .ok (.return_, 1) := by decide +kernel
set_option maxRecDepth 20000 in
theorem ggX3_followedBy_X3_become : GoodIn wsX3_followedBy wsX3_become := goodIn_r _ [8, 2, 3, 1, 9, 10, 11] (by decide +kernel) (by decide +kernel)
set_option maxRecDepth 20000 in
theorem gX3_followedBy_X3_become : GoodIn wsX3_followedBy (wsV RX3 20 RX3 yX3_become wsX3_become) := goodIn_app (goodIn_of _ (by decide +kernel)) ggX3_followedBy_X3_become
theorem dX3_followedBy_0 : decode cX3_followedBy 0 = .ok (.aload_n 0, 1) := by decide +kernel
theorem dX3_followedBy_1 : decode cX3_followedBy 1 = .ok (.aload_n 0, 1) := by decide +kernel
theorem dX3_followedBy_2 : decode cX3_followedBy 2 = .ok (.getfield 16, 3) := by decide +kernel
theorem dX3_followedBy_5 : decode cX3_followedBy 5 = .ok (.ifCond .eq 15, 3) := by decide +kernel
theorem dX3_followedBy_8 : decode cX3_followedBy 8 = .ok (.aload_n 0, 1) := by decide +kernel
theorem dX3_followedBy_9 : decode cX3_followedBy 9 = .ok (.getfield 7, 3) := by decide +kernel
theorem dX3_followedBy_12 : decode cX3_followedBy 12 = .ok (.aload_n 1, 1) := by decide +kernel
theorem dX3_followedBy_13 : decode cX3_followedBy 13 = .ok (.getfield 7, 3) := by decide +kernel
theorem dX3_followedBy_16 : decode cX3_followedBy 16 = .ok (.ior, 1) := by decide +kernel
theorem dX3_followedBy_17 : decode cX3_followedBy 17 = .ok (.goto 7, 3) := by decide +kernel
theorem dX3_followedBy_20 : decode cX3_followedBy 20 = .ok (.aload_n 0, 1) := by decide +kernel
theorem dX3_followedBy_21 : decode cX3_followedBy 21 = .ok (.getfield 7, 3) := by decide +kernel
theorem dX3_followedBy_24 : decode cX3_followedBy 24 = .ok (.aload_n 1, 1) := by decide +kernel
theorem dX3_followedBy_25 : decode cX3_followedBy 25 = .ok (.getfield 16, 3) := by decide +kernel
theorem dX3_followedBy_28 : decode cX3_followedBy 28 = .ok (.ifCond .eq 15, 3) := by decide +kernel
theorem dX3_followedBy_31 : decode cX3_followedBy 31 = .ok (.aload_n 0, 1) := by decide +kernel
theorem dX3_followedBy_32 : decode cX3_followedBy 32 = .ok (.getfield 13, 3) := by decide +kernel
theorem dX3_followedBy_35 : decode cX3_followedBy 35 = .ok (.aload_n 1, 1) := by decide +kernel
theorem dX3_followedBy_36 : decode cX3_followedBy 36 = .ok (.getfield 13, 3) := by decide +kernel
theorem dX3_followedBy_39 : decode cX3_followedBy 39 = .ok (.ior, 1) := by decide +kernel
theorem dX3_followedBy_40 : decode cX3_followedBy 40 = .ok (.goto 7, 3) := by decide +kernel
theorem dX3_followedBy_43 : decode cX3_followedBy 43 = .ok (.aload_n 1, 1) := by decide +kernel
theorem dX3_followedBy_44 : decode cX3_followedBy 44 = .ok (.getfield 13, 3) := by decide +kernel
theorem dX3_followedBy_47 : decode cX3_followedBy 47 = .ok (.aload_n 0, 1) := by decide +kernel
theorem dX3_followedBy_48 : decode cX3_followedBy 48 = .ok (.getfield 16, 3) := by decide +kernel
theorem dX3_followedBy_51 : decode cX3_followedBy 51 = .ok (.ifCond .eq 14, 3) := by decide +kernel
theorem dX3_followedBy_54 : decode cX3_followedBy 54 = .ok (.aload_n 1, 1) := by decide +kernel
theorem dX3_followedBy_55 : decode cX3_followedBy 55 = .ok (.getfield 16, 3) := by decide +kernel
theorem dX3_followedBy_58 : decode cX3_followedBy 58 = .ok (.ifCond .eq 7, 3) := by decide +kernel
theorem dX3_followedBy_61 : decode cX3_followedBy 61 = .ok (.iconst 1, 1) := by decide +kernel
theorem dX3_followedBy_62 : decode cX3_followedBy 62 = .ok (.goto 4, 3) := by decide +kernel
theorem dX3_followedBy_65 : decode cX3_followedBy 65 = .ok (.iconst 0, 1) := by decide +kernel
theorem dX3_followedBy_66 : decode cX3_followedBy 66 = .ok (.invokevirtual 20, 3) := by decide +kernel
theorem dX3_followedBy_69 : decode cX3_followedBy 69 = .ok (.return_, 1) := by decide +kernel
theorem dX4_init_0 : decode cX4_init 0 = .ok (.aload_n 0, 1) := by decide +kernel
theorem dX4_init_1 : decode cX4_init 1 = .ok (.invokespecial 1, 3) := by decide +kernel
theorem dX4_init_4 : decode cX4_init 4 = .ok (.aload_n 0, 1) := by decide +kernel
theorem dX4_init_5 : decode cX4_init 5 = .ok (.iconst 0, 1) := by decide +kernel
theorem dX4_init_6 : decode cX4_init 6 = .ok (.iload_n 1, 1) := by decide +kernel
theorem dX4_init_7 : decode cX4_init 7 = .ok (.invokestatic 7, 3) := by decide +kernel
theorem dX4_init_10 : decode cX4_init 10 = .ok (.newarray .char, 2) := by decide +kernel
theorem dX4_init_12 : decode cX4_init 12 = .ok (.putfield 13, 3) := by decide +kernel
theorem dX4_init_15 : decode cX4_init 15 = .ok (.return_, 1) := by decide +kernel
theorem dX4_at_0 : decode cX4_at 0 = .ok (.iload_n 1, 1) := by decide +kernel
theorem dX4_at_1 : decode cX4_at 1 = .ok (.ifCond .lt 20, 3) := by decide +kernel
theorem dX4_at_4 : decode cX4_at 4 = .ok (.iload_n 1, 1) := by decide +kernel
theorem dX4_at_5 : decode cX4_at 5 = .ok (.aload_n 0, 1) := by decide +kernel
theorem dX4_at_6 : decode cX4_at 6 = .ok (.getfield 19, 3) := by decide +kernel
theorem dX4_at_9 : decode cX4_at 9 = .ok (.if_icmp .ge 12, 3) := by decide +kernel
theorem dX4_at_12 : decode cX4_at 12 = .ok (.aload_n 0, 1) := by decide +kernel
theorem dX4_at_13 : decode cX4_at 13 = .ok (.getfield 13, 3) := by decide +kernel
theorem dX4_at_16 : decode cX4_at 16 = .ok (.iload_n 1, 1) := by decide +kernel
theorem dX4_at_17 : decode cX4_at 17 = .ok (.caload, 1) := by decide +kernel
theorem dX4_at_18 : decode cX4_at 18 = .ok (.goto 4, 3) := by decide +kernel
theorem dX4_at_21 : decode cX4_at 21 = .ok (.iconst 0, 1) := by decide +kernel
theorem dX4_at_22 : decode cX4_at 22 = .ok (.ireturn, 1) := by decide +kernel
theorem dX4_append_0 : decode cX4_append 0 = .ok (.aload_n 0, 1) := by decide +kernel
theorem dX4_append_1 : decode cX4_append 1 = .ok (.getfield 19, 3) := by decide +kernel
theorem dX4_append_4 : decode cX4_append 4 = .ok (.aload_n 0, 1) := by decide +kernel
theorem dX4_append_5 : decode cX4_append 5 = .ok (.getfield 13, 3) := by decide +kernel
theorem dX4_append_8 : decode cX4_append 8 = .ok (.arraylength, 1) := by decide +kernel
theorem dX4_append_9 : decode cX4_append 9 = .ok (.if_icmp .ge 23, 3) := by decide +kernel
theorem dX4_append_12 : decode cX4_append 12 = .ok (.aload_n 0, 1) := by decide +kernel
theorem dX4_append_13 : decode cX4_append 13 = .ok (.getfield 13, 3) := by decide +kernel
theorem dX4_append_16 : decode cX4_append 16 = .ok (.aload_n 0, 1) := by decide +kernel
theorem dX4_append_17 : decode cX4_append 17 = .ok (.getfield 19, 3) := by decide +kernel
theorem dX4_append_20 : decode cX4_append 20 = .ok (.iload_n 1, 1) := by decide +kernel
theorem dX4_append_21 : decode cX4_append 21 = .ok (.castore, 1) := by decide +kernel
theorem dX4_append_22 : decode cX4_append 22 = .ok (.aload_n 0, 1) := by decide +kernel
theorem dX4_append_23 : decode cX4_append 23 = .ok (.dup, 1) := by decide +kernel
theorem dX4_append_24 : decode cX4_append 24 = .ok (.getfield 19, 3) := by decide +kernel
theorem dX4_append_27 : decode cX4_append 27 = .ok (.iconst 1, 1) := by decide +kernel
theorem dX4_append_28 : decode cX4_append 28 = .ok (.iadd, 1) := by decide +kernel
theorem dX4_append_29 : decode cX4_append 29 = .ok (.putfield 19, 3) := by decide +kernel
theorem dX4_append_32 : decode cX4_append 32 = .ok (.return_, 1) := by decide +kernel
set_option maxRecDepth 20000 in
theorem ggX4_become_X4_at : GoodIn wsX4_become wsX4_at := goodIn_r _ [6, 1, 7, 12, 13] (by decide +kernel) (by decide +kernel)
set_option maxRecDepth 20000 in
theorem gX4_become_X4_at : GoodIn wsX4_become (wsV RX4 23 RX4 yX4_at wsX4_at) := goodIn_app (goodIn_of _ (by decide +kernel)) ggX4_become_X4_at
set_option maxRecDepth 20000 in
theorem ggX4_become_X4_append : GoodIn wsX4_become wsX4_append := goodIn_r _ [11, 1, 7, 12, 13] (by decide +kernel) (by decide +kernel)
set_option maxRecDepth 20000 in
theorem gX4_become_X4_append : GoodIn wsX4_become (wsV RX4 27 RX4 yX4_append wsX4_append) := goodIn_app (goodIn_of _ (by decide +kernel)) ggX4_become_X4_append
theorem dX4_become_0 : decode cX4_become 0 = .ok (.aload_n 0, 1) := by decide +kernel
theorem dX4_become_1 : decode cX4_become 1 = .ok (.iconst 0, 1) := by decide +kernel
theorem dX4_become_2 : decode cX4_become 2 = .ok (.putfield 19, 3) := by decide +kernel
theorem dX4_become_5 : decode cX4_become 5 = .ok (.iconst 0, 1) := by decide +kernel
theorem dX4_become_6 : decode cX4_become 6 = .ok (.istore 4, 2) := by decide +kernel
theorem dX4_become_8 : decode cX4_become 8 = .ok (.iload 4, 2) := by decide +kernel
theorem dX4_become_10 : decode cX4_become 10 = .ok (.iload_n 3, 1) := by decide +kernel
theorem dX4_become_11 : decode cX4_become 11 = .ok (.if_icmp .ge 21, 3) := by decide +kernel
theorem dX4_become_14 : decode cX4_become 14 = .ok (.aload_n 0, 1) := by decide +kernel
theorem dX4_become_15 : decode cX4_become 15 = .ok (.aload_n 1, 1) := by decide +kernel
theorem dX4_become_16 : decode cX4_become 16 = .ok (.iload_n 2, 1) := by decide +kernel
theorem dX4_become_17 : decode cX4_become 17 = .ok (.iload 4, 2) := by decide +kernel
theorem dX4_become_19 : decode cX4_become 19 = .ok (.iadd, 1) := by decide +kernel
theorem dX4_become_20 : decode cX4_become 20 = .ok (.invokevirtual 23, 3) := by decide +kernel
theorem dX4_become_23 : decode cX4_become 23 = .ok (.invokevirtual 27, 3) := by decide +kernel
theorem dX4_become_26 : decode cX4_become 26 = .ok (.iinc 4 1, 3) := by decide +kernel
theorem dX4_become_29 : decode cX4_become 29 = .ok (.goto (-21), 3) := by decide +kernel
theorem dX4_become_32 : decode cX4_become 32 = .ok (.return_, 1) := by decide +kernel
set_option maxRecDepth 20000 in
theorem ggX4_isPartOf_X4_at : GoodIn wsX4_isPartOf wsX4_at := goodIn_r _ [6, 1, 7, 8, 9] (by decide +kernel) (by decide +kernel)
set_option maxRecDepth 20000 in
theorem gX4_isPartOf_X4_at : GoodIn wsX4_isPartOf (wsV RX4 23 RX4 yX4_at wsX4_at) := goodIn_app (goodIn_of _ (by decide +kernel)) ggX4_isPartOf_X4_at
theorem dX4_isPartOf_0 : decode cX4_isPartOf 0 = .ok (.aload_n 0, 1) := by decide +kernel
theorem dX4_isPartOf_1 : decode cX4_isPartOf 1 = .ok (.getfield 19, 3) := by decide +kernel
theorem dX4_isPartOf_4 : decode cX4_isPartOf 4 = .ok (.iload_n 3, 1) := by decide +kernel
theorem dX4_isPartOf_5 : decode cX4_isPartOf 5 = .ok (.if_icmp .eq 5, 3) := by decide +kernel
theorem dX4_isPartOf_8 : decode cX4_isPartOf 8 = .ok (.iconst 0, 1) := by decide +kernel
theorem dX4_isPartOf_9 : decode cX4_isPartOf 9 = .ok (.ireturn, 1) := by decide +kernel
theorem dX4_isPartOf_10 : decode cX4_isPartOf 10 = .ok (.iconst 0, 1) := by decide +kernel
theorem dX4_isPartOf_11 : decode cX4_isPartOf 11 = .ok (.istore 4, 2) := by decide +kernel
theorem dX4_isPartOf_13 : decode cX4_isPartOf 13 = .ok (.iload 4, 2) := by decide +kernel
theorem dX4_isPartOf_15 : decode cX4_isPartOf 15 = .ok (.aload_n 0, 1) := by decide +kernel
theorem dX4_isPartOf_16 : decode cX4_isPartOf 16 = .ok (.getfield 19, 3) := by decide +kernel
theorem dX4_isPartOf_19 : decode cX4_isPartOf 19 = .ok (.if_icmp .ge 28, 3) := by decide +kernel
theorem dX4_isPartOf_22 : decode cX4_isPartOf 22 = .ok (.aload_n 0, 1) := by decide +kernel
theorem dX4_isPartOf_23 : decode cX4_isPartOf 23 = .ok (.iload 4, 2) := by decide +kernel
theorem dX4_isPartOf_25 : decode cX4_isPartOf 25 = .ok (.invokevirtual 23, 3) := by decide +kernel
theorem dX4_isPartOf_28 : decode cX4_isPartOf 28 = .ok (.aload_n 1, 1) := by decide +kernel
theorem dX4_isPartOf_29 : decode cX4_isPartOf 29 = .ok (.iload_n 2, 1) := by decide +kernel
theorem dX4_isPartOf_30 : decode cX4_isPartOf 30 = .ok (.iload 4, 2) := by decide +kernel
theorem dX4_isPartOf_32 : decode cX4_isPartOf 32 = .ok (.iadd, 1) := by decide +kernel
theorem dX4_isPartOf_33 : decode cX4_isPartOf 33 = .ok (.invokevirtual 23, 3) := by decide +kernel
theorem dX4_isPartOf_36 : decode cX4_isPartOf 36 = .ok (.if_icmp .eq 5, 3) := by decide +kernel
theorem dX4_isPartOf_39 : decode cX4_isPartOf 39 = .ok (.iconst 0, 1) := by decide +kernel
theorem dX4_isPartOf_40 : decode cX4_isPartOf 40 = .ok (.ireturn, 1) := by decide +kernel
theorem dX4_isPartOf_41 : decode cX4_isPartOf 41 = .ok (.iinc 4 1, 3) := by decide +kernel
theorem dX4_isPartOf_44 : decode cX4_isPartOf 44 = .ok (.goto (-31), 3) := by decide +kernel
theorem dX4_isPartOf_47 : decode cX4_isPartOf 47 = .ok (.iconst 1, 1) := by decide +kernel
theorem dX4_isPartOf_48 : decode cX4_isPartOf 48 = .ok (.ireturn, 1) := by decide +kernel
theorem dX4_putIn_0 : decode cX4_putIn 0 = .ok (.aload_n 2, 1) := by decide +kernel
theorem dX4_putIn_1 : decode cX4_putIn 1 = .ok (.getfield 19, 3) := by decide +kernel
theorem dX4_putIn_4 : decode cX4_putIn 4 = .ok (.istore_n 3, 1) := by decide +kernel
theorem dX4_putIn_5 : decode cX4_putIn 5 = .ok (.iload_n 1, 1) := by decide +kernel
theorem dX4_putIn_6 : decode cX4_putIn 6 = .ok (.ifCond .lt 25, 3) := by decide +kernel
theorem dX4_putIn_9 : decode cX4_putIn 9 = .ok (.iload_n 1, 1) := by decide +kernel
theorem dX4_putIn_10 : decode cX4_putIn 10 = .ok (.aload_n 0, 1) := by decide +kernel
theorem dX4_putIn_11 : decode cX4_putIn 11 = .ok (.getfield 19, 3) := by decide +kernel
theorem dX4_putIn_14 : decode cX4_putIn 14 = .ok (.if_icmp .gt 17, 3) := by decide +kernel
theorem dX4_putIn_17 : decode cX4_putIn 17 = .ok (.iload_n 3, 1) := by decide +kernel
theorem dX4_putIn_18 : decode cX4_putIn 18 = .ok (.aload_n 0, 1) := by decide +kernel
theorem dX4_putIn_19 : decode cX4_putIn 19 = .ok (.getfield 13, 3) := by decide +kernel
theorem dX4_putIn_22 : decode cX4_putIn 22 = .ok (.arraylength, 1) := by decide +kernel
theorem dX4_putIn_23 : decode cX4_putIn 23 = .ok (.aload_n 0, 1) := by decide +kernel
theorem dX4_putIn_24 : decode cX4_putIn 24 = .ok (.getfield 19, 3) := by decide +kernel
theorem dX4_putIn_27 : decode cX4_putIn 27 = .ok (.isub, 1) := by decide +kernel
theorem dX4_putIn_28 : decode cX4_putIn 28 = .ok (.if_icmp .le 4, 3) := by decide +kernel
theorem dX4_putIn_31 : decode cX4_putIn 31 = .ok (.return_, 1) := by decide +kernel
theorem dX4_putIn_32 : decode cX4_putIn 32 = .ok (.aload_n 0, 1) := by decide +kernel
theorem dX4_putIn_33 : decode cX4_putIn 33 = .ok (.getfield 13, 3) := by decide +kernel
theorem dX4_putIn_36 : decode cX4_putIn 36 = .ok (.iload_n 1, 1) := by decide +kernel
theorem dX4_putIn_37 : decode cX4_putIn 37 = .ok (.aload_n 0, 1) := by decide +kernel
theorem dX4_putIn_38 : decode cX4_putIn 38 = .ok (.getfield 13, 3) := by decide +kernel
theorem dX4_putIn_41 : decode cX4_putIn 41 = .ok (.iload_n 1, 1) := by decide +kernel
theorem dX4_putIn_42 : decode cX4_putIn 42 = .ok (.iload_n 3, 1) := by decide +kernel
theorem dX4_putIn_43 : decode cX4_putIn 43 = .ok (.iadd, 1) := by decide +kernel
theorem dX4_putIn_44 : decode cX4_putIn 44 = .ok (.aload_n 0, 1) := by decide +kernel
theorem dX4_putIn_45 : decode cX4_putIn 45 = .ok (.getfield 19, 3) := by decide +kernel
theorem dX4_putIn_48 : decode cX4_putIn 48 = .ok (.iload_n 1, 1) := by decide +kernel
theorem dX4_putIn_49 : decode cX4_putIn 49 = .ok (.isub, 1) := by decide +kernel
theorem dX4_putIn_50 : decode cX4_putIn 50 = .ok (.invokestatic 31, 3) := by decide +kernel
theorem dX4_putIn_53 : decode cX4_putIn 53 = .ok (.aload_n 2, 1) := by decide +kernel
theorem dX4_putIn_54 : decode cX4_putIn 54 = .ok (.getfield 13, 3) := by decide +kernel
theorem dX4_putIn_57 : decode cX4_putIn 57 = .ok (.iconst 0, 1) := by decide +kernel
theorem dX4_putIn_58 : decode cX4_putIn 58 = .ok (.aload_n 0, 1) := by decide +kernel
theorem dX4_putIn_59 : decode cX4_putIn 59 = .ok (.getfield 13, 3) := by decide +kernel
theorem dX4_putIn_62 : decode cX4_putIn 62 = .ok (.iload_n 1, 1) := by decide +kernel
theorem dX4_putIn_63 : decode cX4_putIn 63 = .ok (.iload_n 3, 1) := by decide +kernel
theorem dX4_putIn_64 : decode cX4_putIn 64 = .ok (.invokestatic 31, 3) := by decide +kernel
theorem dX4_putIn_67 : decode cX4_putIn 67 = .ok (.aload_n 0, 1) := by decide +kernel
theorem dX4_putIn_68 : decode cX4_putIn 68 = .ok (.dup, 1) := by decide +kernel
theorem dX4_putIn_69 : decode cX4_putIn 69 = .ok (.getfield 19, 3) := by decide +kernel
theorem dX4_putIn_72 : decode cX4_putIn 72 = .ok (.iload_n 3, 1) := by decide +kernel
theorem dX4_putIn_73 : decode cX4_putIn 73 = .ok (.iadd, 1) := by decide +kernel
theorem dX4_putIn_74 : decode cX4_putIn 74 = .ok (.putfield 19, 3) := by decide +kernel
theorem dX4_putIn_77 : decode cX4_putIn 77 = .ok (.return_, 1) := by decide +kernel
theorem dX4_takeOut_0 : decode cX4_takeOut 0 = .ok (.iload_n 1, 1) := by decide +kernel
theorem dX4_takeOut_1 : decode cX4_takeOut 1 = .ok (.ifCond .lt 17, 3) := by decide +kernel
theorem dX4_takeOut_4 : decode cX4_takeOut 4 = .ok (.iload_n 2, 1) := by decide +kernel
theorem dX4_takeOut_5 : decode cX4_takeOut 5 = .ok (.ifCond .lt 13, 3) := by decide +kernel
theorem dX4_takeOut_8 : decode cX4_takeOut 8 = .ok (.iload_n 2, 1) := by decide +kernel
theorem dX4_takeOut_9 : decode cX4_takeOut 9 = .ok (.aload_n 0, 1) := by decide +kernel
theorem dX4_takeOut_10 : decode cX4_takeOut 10 = .ok (.getfield 19, 3) := by decide +kernel
theorem dX4_takeOut_13 : decode cX4_takeOut 13 = .ok (.iload_n 1, 1) := by decide +kernel
theorem dX4_takeOut_14 : decode cX4_takeOut 14 = .ok (.isub, 1) := by decide +kernel
theorem dX4_takeOut_15 : decode cX4_takeOut 15 = .ok (.if_icmp .le 4, 3) := by decide +kernel
theorem dX4_takeOut_18 : decode cX4_takeOut 18 = .ok (.return_, 1) := by decide +kernel
theorem dX4_takeOut_19 : decode cX4_takeOut 19 = .ok (.aload_n 0, 1) := by decide +kernel
theorem dX4_takeOut_20 : decode cX4_takeOut 20 = .ok (.getfield 13, 3) := by decide +kernel
theorem dX4_takeOut_23 : decode cX4_takeOut 23 = .ok (.iload_n 1, 1) := by decide +kernel
theorem dX4_takeOut_24 : decode cX4_takeOut 24 = .ok (.iload_n 2, 1) := by decide +kernel
theorem dX4_takeOut_25 : decode cX4_takeOut 25 = .ok (.iadd, 1) := by decide +kernel
theorem dX4_takeOut_26 : decode cX4_takeOut 26 = .ok (.aload_n 0, 1) := by decide +kernel
theorem dX4_takeOut_27 : decode cX4_takeOut 27 = .ok (.getfield 13, 3) := by decide +kernel
theorem dX4_takeOut_30 : decode cX4_takeOut 30 = .ok (.iload_n 1, 1) := by decide +kernel
theorem dX4_takeOut_31 : decode cX4_takeOut 31 = .ok (.aload_n 0, 1) := by decide +kernel
theorem dX4_takeOut_32 : decode cX4_takeOut 32 = .ok (.getfield 19, 3) := by decide +kernel
theorem dX4_takeOut_35 : decode cX4_takeOut 35 = .ok (.iload_n 1, 1) := by decide +kernel
theorem dX4_takeOut_36 : decode cX4_takeOut 36 = .ok (.isub, 1) := by decide +kernel
theorem dX4_takeOut_37 : decode cX4_takeOut 37 = .ok (.iload_n 2, 1) := by decide +kernel
theorem dX4_takeOut_38 : decode cX4_takeOut 38 = .ok (.isub, 1) := by decide +kernel
theorem dX4_takeOut_39 : decode cX4_takeOut 39 = .ok (.invokestatic 31, 3) := by decide +kernel
theorem dX4_takeOut_42 : decode cX4_takeOut 42 = .ok (.aload_n 0, 1) := by decide +kernel
theorem dX4_takeOut_43 : decode cX4_takeOut 43 = .ok (.dup, 1) := by decide +kernel
theorem dX4_takeOut_44 : decode cX4_takeOut 44 = .ok (.getfield 19, 3) := by decide +kernel
theorem dX4_takeOut_47 : decode cX4_takeOut 47 = .ok (.iload_n 2, 1) := by decide +kernel
theorem dX4_takeOut_48 : decode cX4_takeOut 48 = .ok (.isub, 1) := by decide +kernel
theorem dX4_takeOut_49 : decode cX4_takeOut 49 = .ok (.putfield 19, 3) := by decide +kernel
theorem dX4_takeOut_52 : decode cX4_takeOut 52 = .ok (.return_, 1) := by decide +kernel
set_option maxRecDepth 20000 in
theorem ggX5_init_X4_init : GoodIn wsX5_init wsX4_init := goodIn_r _ [20, 21, 2, 3, 22, 23, 24, 25, 26, 27, 31, 32] (by decide +kernel) (by decide +kernel)
set_option maxRecDepth 20000 in
theorem gX5_init_X4_init : GoodIn wsX5_init (wsX4_init) := ggX5_init_X4_init
set_option maxRecDepth 20000 in
theorem ggX5_init_X3_init : GoodIn wsX5_init wsX3_init := goodIn_r _ [29, 30, 2, 3] (by decide +kernel) (by decide +kernel)
set_option maxRecDepth 20000 in
theorem gX5_init_X3_init_n22 : GoodIn wsX5_init (wsX3_init) := ggX5_init_X3_init
theorem dX5_init_0 : decode cX5_init 0 = .ok (.aload_n 0, 1) := by decide +kernel
theorem dX5_init_1 : decode cX5_init 1 = .ok (.invokespecial 3, 3) := by decide +kernel
theorem dX5_init_4 : decode cX5_init 4 = .ok (.aload_n 0, 1) := by decide +kernel
theorem dX5_init_5 : decode cX5_init 5 = .ok (.new 9, 3) := by decide +kernel
theorem dX5_init_8 : decode cX5_init 8 = .ok (.dup, 1) := by decide +kernel
theorem dX5_init_9 : decode cX5_init 9 = .ok (.bipush 24, 2) := by decide +kernel
theorem dX5_init_11 : decode cX5_init 11 = .ok (.invokespecial 11, 3) := by decide +kernel
theorem dX5_init_14 : decode cX5_init 14 = .ok (.putfield 14, 3) := by decide +kernel
theorem dX5_init_17 : decode cX5_init 17 = .ok (.aload_n 0, 1) := by decide +kernel
theorem dX5_init_18 : decode cX5_init 18 = .ok (.new 20, 3) := by decide +kernel
theorem dX5_init_21 : decode cX5_init 21 = .ok (.dup, 1) := by decide +kernel
theorem dX5_init_22 : decode cX5_init 22 = .ok (.invokespecial 22, 3) := by decide +kernel
theorem dX5_init_25 : decode cX5_init 25 = .ok (.putfield 23, 3) := by decide +kernel
theorem dX5_init_28 : decode cX5_init 28 = .ok (.aload_n 0, 1) := by decide +kernel
theorem dX5_init_29 : decode cX5_init 29 = .ok (.new 20, 3) := by decide +kernel
theorem dX5_init_32 : decode cX5_init 32 = .ok (.dup, 1) := by decide +kernel
theorem dX5_init_33 : decode cX5_init 33 = .ok (.invokespecial 22, 3) := by decide +kernel
theorem dX5_init_36 : decode cX5_init 36 = .ok (.putfield 27, 3) := by decide +kernel
theorem dX5_init_39 : decode cX5_init 39 = .ok (.aload_n 0, 1) := by decide +kernel
theorem dX5_init_40 : decode cX5_init 40 = .ok (.bipush 24, 2) := by decide +kernel
theorem dX5_init_42 : decode cX5_init 42 = .ok (.newarray .int, 2) := by decide +kernel
theorem dX5_init_44 : decode cX5_init 44 = .ok (.putfield 30, 3) := by decide +kernel
theorem dX5_init_47 : decode cX5_init 47 = .ok (.aload_n 0, 1) := by decide +kernel
theorem dX5_init_48 : decode cX5_init 48 = .ok (.bipush 12, 2) := by decide +kernel
theorem dX5_init_50 : decode cX5_init 50 = .ok (.newarray .int, 2) := by decide +kernel
theorem dX5_init_52 : decode cX5_init 52 = .ok (.putfield 34, 3) := by decide +kernel
theorem dX5_init_55 : decode cX5_init 55 = .ok (.aload_n 0, 1) := by decide +kernel
theorem dX5_init_56 : decode cX5_init 56 = .ok (.bipush 24, 2) := by decide +kernel
theorem dX5_init_58 : decode cX5_init 58 = .ok (.newarray .int, 2) := by decide +kernel
theorem dX5_init_60 : decode cX5_init 60 = .ok (.putfield 37, 3) := by decide +kernel
theorem dX5_init_63 : decode cX5_init 63 = .ok (.aload_n 0, 1) := by decide +kernel
theorem dX5_init_64 : decode cX5_init 64 = .ok (.bipush 24, 2) := by decide +kernel
theorem dX5_init_66 : decode cX5_init 66 = .ok (.newarray .int, 2) := by decide +kernel
theorem dX5_init_68 : decode cX5_init 68 = .ok (.putfield 40, 3) := by decide +kernel
theorem dX5_init_71 : decode cX5_init 71 = .ok (.return_, 1) := by decide +kernel
theorem dX5_isSet_0 : decode cX5_isSet 0 = .ok (.aload_n 0, 1) := by decide +kernel
theorem dX5_isSet_1 : decode cX5_isSet 1 = .ok (.getfield 14, 3) := by decide +kernel
theorem dX5_isSet_4 : decode cX5_isSet 4 = .ok (.getfield 43, 3) := by decide +kernel
theorem dX5_isSet_7 : decode cX5_isSet 7 = .ok (.ifCond .le 7, 3) := by decide +kernel
theorem dX5_isSet_10 : decode cX5_isSet 10 = .ok (.iconst 1, 1) := by decide +kernel
theorem dX5_isSet_11 : decode cX5_isSet 11 = .ok (.goto 4, 3) := by decide +kernel
theorem dX5_isSet_14 : decode cX5_isSet 14 = .ok (.iconst 0, 1) := by decide +kernel
theorem dX5_isSet_15 : decode cX5_isSet 15 = .ok (.ireturn, 1) := by decide +kernel
set_option maxRecDepth 20000 in
theorem ggX5_takersOf_X8_isClass : GoodIn wsX5_takersOf wsX8_isClass := goodIn_r _ [4] (by decide +kernel) (by decide +kernel)
set_option maxRecDepth 20000 in
theorem gX5_takersOf_X8_isClass_n47 : GoodIn wsX5_takersOf (wsX8_isClass) := ggX5_takersOf_X8_isClass
theorem dX5_takersOf_0 : decode cX5_takersOf 0 = .ok (.iload_n 1, 1) := by decide +kernel
theorem dX5_takersOf_1 : decode cX5_takersOf 1 = .ok (.invokestatic 47, 3) := by decide +kernel
theorem dX5_takersOf_4 : decode cX5_takersOf 4 = .ok (.ifCond .eq 12, 3) := by decide +kernel
theorem dX5_takersOf_7 : decode cX5_takersOf 7 = .ok (.aload_n 0, 1) := by decide +kernel
theorem dX5_takersOf_8 : decode cX5_takersOf 8 = .ok (.getfield 34, 3) := by decide +kernel
theorem dX5_takersOf_11 : decode cX5_takersOf 11 = .ok (.iload_n 1, 1) := by decide +kernel
theorem dX5_takersOf_12 : decode cX5_takersOf 12 = .ok (.iaload, 1) := by decide +kernel
theorem dX5_takersOf_13 : decode cX5_takersOf 13 = .ok (.goto 4, 3) := by decide +kernel
theorem dX5_takersOf_16 : decode cX5_takersOf 16 = .ok (.iconst 0, 1) := by decide +kernel
theorem dX5_takersOf_17 : decode cX5_takersOf 17 = .ok (.ireturn, 1) := by decide +kernel
set_option maxRecDepth 20000 in
theorem ggX5_walk_J7_fill_53178 : GoodIn wsX5_walk wsJ7_fill_53178 := goodIn_r _ [13] (by decide +kernel) (by decide +kernel)
set_option maxRecDepth 20000 in
theorem gX5_walk_J7_fill_53178 : GoodIn wsX5_walk (va_wsS RX5 54 yJ7_fill_53178 wsJ7_fill_53178) := goodIn_app (goodIn_of _ (by decide +kernel)) ggX5_walk_J7_fill_53178
set_option maxRecDepth 20000 in
theorem ggX5_walk_X5_beginAhead : GoodIn wsX5_walk wsX5_beginAhead := goodIn_r _ [18, 19, 5, 1, 2, 4, 20, 21, 17, 22, 63, 64, 65, 66, 67, 68, 69, 70, 71, 72, 73, 74] (by decide +kernel) (by decide +kernel)
