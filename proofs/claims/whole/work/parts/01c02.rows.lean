theorem dX7_firstClassOf_210 : decode cX7_firstClassOf 210 = .ok (.ireturn, 1) := by decide +kernel
theorem dX7_firstClassOf_211 : decode cX7_firstClassOf 211 = .ok (.bipush 11, 2) := by decide +kernel
theorem dX7_firstClassOf_213 : decode cX7_firstClassOf 213 = .ok (.ireturn, 1) := by decide +kernel
theorem dX7_classOfCharacter_0 : decode cX7_classOfCharacter 0 = .ok (.iload_n 1, 1) := by decide +kernel
theorem dX7_classOfCharacter_1 : decode cX7_classOfCharacter 1 = .ok (.bipush 32, 2) := by decide +kernel
theorem dX7_classOfCharacter_3 : decode cX7_classOfCharacter 3 = .ok (.isub, 1) := by decide +kernel
theorem dX7_classOfCharacter_4 : decode cX7_classOfCharacter 4 = .ok (.istore_n 2, 1) := by decide +kernel
theorem dX7_classOfCharacter_5 : decode cX7_classOfCharacter 5 = .ok (.iload_n 2, 1) := by decide +kernel
theorem dX7_classOfCharacter_6 : decode cX7_classOfCharacter 6 = .ok (.ifCond .lt 21, 3) := by decide +kernel
theorem dX7_classOfCharacter_9 : decode cX7_classOfCharacter 9 = .ok (.iload_n 2, 1) := by decide +kernel
theorem dX7_classOfCharacter_10 : decode cX7_classOfCharacter 10 = .ok (.aload_n 0, 1) := by decide +kernel
theorem dX7_classOfCharacter_11 : decode cX7_classOfCharacter 11 = .ok (.getfield 20, 3) := by decide +kernel
theorem dX7_classOfCharacter_14 : decode cX7_classOfCharacter 14 = .ok (.arraylength, 1) := by decide +kernel
theorem dX7_classOfCharacter_15 : decode cX7_classOfCharacter 15 = .ok (.if_icmp .ge 12, 3) := by decide +kernel
theorem dX7_classOfCharacter_18 : decode cX7_classOfCharacter 18 = .ok (.aload_n 0, 1) := by decide +kernel
theorem dX7_classOfCharacter_19 : decode cX7_classOfCharacter 19 = .ok (.getfield 20, 3) := by decide +kernel
theorem dX7_classOfCharacter_22 : decode cX7_classOfCharacter 22 = .ok (.iload_n 2, 1) := by decide +kernel
theorem dX7_classOfCharacter_23 : decode cX7_classOfCharacter 23 = .ok (.iaload, 1) := by decide +kernel
theorem dX7_classOfCharacter_24 : decode cX7_classOfCharacter 24 = .ok (.goto 4, 3) := by decide +kernel
theorem dX7_classOfCharacter_27 : decode cX7_classOfCharacter 27 = .ok (.iconst (-1), 1) := by decide +kernel
theorem dX7_classOfCharacter_28 : decode cX7_classOfCharacter 28 = .ok (.ireturn, 1) := by decide +kernel
theorem dX7_changeClass_0 : decode cX7_changeClass 0 = .ok (.iload_n 1, 1) := by decide +kernel
theorem dX7_changeClass_1 : decode cX7_changeClass 1 = .ok (.bipush 32, 2) := by decide +kernel
theorem dX7_changeClass_3 : decode cX7_changeClass 3 = .ok (.isub, 1) := by decide +kernel
theorem dX7_changeClass_4 : decode cX7_changeClass 4 = .ok (.istore_n 3, 1) := by decide +kernel
theorem dX7_changeClass_5 : decode cX7_changeClass 5 = .ok (.iload_n 3, 1) := by decide +kernel
theorem dX7_changeClass_6 : decode cX7_changeClass 6 = .ok (.ifCond .lt 19, 3) := by decide +kernel
theorem dX7_changeClass_9 : decode cX7_changeClass 9 = .ok (.iload_n 3, 1) := by decide +kernel
theorem dX7_changeClass_10 : decode cX7_changeClass 10 = .ok (.aload_n 0, 1) := by decide +kernel
theorem dX7_changeClass_11 : decode cX7_changeClass 11 = .ok (.getfield 20, 3) := by decide +kernel
theorem dX7_changeClass_14 : decode cX7_changeClass 14 = .ok (.arraylength, 1) := by decide +kernel
theorem dX7_changeClass_15 : decode cX7_changeClass 15 = .ok (.if_icmp .ge 10, 3) := by decide +kernel
theorem dX7_changeClass_18 : decode cX7_changeClass 18 = .ok (.aload_n 0, 1) := by decide +kernel
theorem dX7_changeClass_19 : decode cX7_changeClass 19 = .ok (.getfield 20, 3) := by decide +kernel
theorem dX7_changeClass_22 : decode cX7_changeClass 22 = .ok (.iload_n 3, 1) := by decide +kernel
theorem dX7_changeClass_23 : decode cX7_changeClass 23 = .ok (.iload_n 2, 1) := by decide +kernel
theorem dX7_changeClass_24 : decode cX7_changeClass 24 = .ok (.iastore, 1) := by decide +kernel
theorem dX7_changeClass_25 : decode cX7_changeClass 25 = .ok (.return_, 1) := by decide +kernel
set_option maxRecDepth 20000 in
theorem ggX7_classAt_X4_at : GoodIn wsX7_classAt wsX4_at := goodIn_r _ [6, 7, 8, 17, 18] (by decide +kernel) (by decide +kernel)
set_option maxRecDepth 20000 in
theorem gX7_classAt_X4_at : GoodIn wsX7_classAt (wsV RX7 28 RX4 yX4_at wsX4_at) := goodIn_app (goodIn_of _ (by decide +kernel)) ggX7_classAt_X4_at
set_option maxRecDepth 20000 in
theorem ggX7_classAt_X7_classOfCharacter : GoodIn wsX7_classAt wsX7_classOfCharacter := goodIn_r _ [13, 14, 15, 16] (by decide +kernel) (by decide +kernel)
set_option maxRecDepth 20000 in
theorem gX7_classAt_X7_classOfCharacter : GoodIn wsX7_classAt (wsV RX7 32 RX7 yX7_classOfCharacter wsX7_classOfCharacter) := goodIn_app (goodIn_of _ (by decide +kernel)) ggX7_classAt_X7_classOfCharacter
theorem dX7_classAt_0 : decode cX7_classAt 0 = .ok (.aload_n 0, 1) := by decide +kernel
theorem dX7_classAt_1 : decode cX7_classAt 1 = .ok (.aload_n 0, 1) := by decide +kernel
theorem dX7_classAt_2 : decode cX7_classAt 2 = .ok (.getfield 14, 3) := by decide +kernel
theorem dX7_classAt_5 : decode cX7_classAt 5 = .ok (.iload_n 1, 1) := by decide +kernel
theorem dX7_classAt_6 : decode cX7_classAt 6 = .ok (.invokevirtual 28, 3) := by decide +kernel
theorem dX7_classAt_9 : decode cX7_classAt 9 = .ok (.invokevirtual 32, 3) := by decide +kernel
theorem dX7_classAt_12 : decode cX7_classAt 12 = .ok (.ireturn, 1) := by decide +kernel
set_option maxRecDepth 20000 in
theorem ggX8_init_X7_init : GoodIn wsX8_init wsX7_init := goodIn_r _ [27, 28, 2, 3, 29, 9, 10, 30, 31, 32, 33, 34, 35, 36, 37, 38, 39, 40, 41, 42, 43, 44, 6, 45, 105, 106, 96, 97] (by decide +kernel) (by decide +kernel)
set_option maxRecDepth 20000 in
theorem gX8_init_X7_init : GoodIn wsX8_init (wsX7_init) := ggX8_init_X7_init
set_option maxRecDepth 20000 in
theorem ggX8_init_X4_init : GoodIn wsX8_init wsX4_init := goodIn_r _ [35, 36, 2, 3, 37, 38, 39, 40, 41, 42, 105, 106] (by decide +kernel) (by decide +kernel)
set_option maxRecDepth 20000 in
theorem gX8_init_X4_init : GoodIn wsX8_init (wsX4_init) := ggX8_init_X4_init
set_option maxRecDepth 20000 in
theorem ggX8_init_X2_init : GoodIn wsX8_init wsX2_init := goodIn_r _ [49, 50, 2, 3, 51, 52, 31, 53, 54, 55, 56, 57, 58, 59, 9, 10, 60, 61, 62, 63, 64, 65, 66, 67, 68, 69, 70, 34, 35, 36, 37, 38, 39, 40, 41, 42, 71, 72, 73, 107, 108, 109, 110, 111, 120, 121, 122, 123, 124, 125, 126, 127, 128, 105, 106, 129, 130, 131] (by decide +kernel) (by decide +kernel)
set_option maxRecDepth 20000 in
theorem gX8_init_X2_init : GoodIn wsX8_init (wsX2_init) := ggX8_init_X2_init
set_option maxRecDepth 20000 in
theorem ggX8_init_X6_init : GoodIn wsX8_init wsX6_init := goodIn_r _ [76, 77, 2, 3, 78, 79, 80, 62, 63, 81, 71, 72, 73, 112, 113, 114, 115, 129, 130, 131] (by decide +kernel) (by decide +kernel)
set_option maxRecDepth 20000 in
theorem gX8_init_X6_init : GoodIn wsX8_init (wsX6_init) := ggX8_init_X6_init
set_option maxRecDepth 20000 in
theorem ggX8_init_X1_init : GoodIn wsX8_init wsX1_init := goodIn_r _ [84, 85, 2, 3, 86, 87, 88, 89, 90, 91, 92, 93, 9, 10, 94, 95, 34, 35, 36, 37, 38, 39, 40, 41, 42, 116, 117, 118, 119, 132, 133, 134, 105, 106] (by decide +kernel) (by decide +kernel)
set_option maxRecDepth 20000 in
theorem gX8_init_X1_init : GoodIn wsX8_init (wsX1_init) := ggX8_init_X1_init
theorem dX8_init_0 : decode cX8_init 0 = .ok (.aload_n 0, 1) := by decide +kernel
theorem dX8_init_1 : decode cX8_init 1 = .ok (.invokespecial 1, 3) := by decide +kernel
theorem dX8_init_4 : decode cX8_init 4 = .ok (.aload_n 0, 1) := by decide +kernel
theorem dX8_init_5 : decode cX8_init 5 = .ok (.new 7, 3) := by decide +kernel
theorem dX8_init_8 : decode cX8_init 8 = .ok (.dup, 1) := by decide +kernel
theorem dX8_init_9 : decode cX8_init 9 = .ok (.invokespecial 9, 3) := by decide +kernel
theorem dX8_init_12 : decode cX8_init 12 = .ok (.putfield 10, 3) := by decide +kernel
theorem dX8_init_15 : decode cX8_init 15 = .ok (.aload_n 0, 1) := by decide +kernel
theorem dX8_init_16 : decode cX8_init 16 = .ok (.new 16, 3) := by decide +kernel
theorem dX8_init_19 : decode cX8_init 19 = .ok (.dup, 1) := by decide +kernel
theorem dX8_init_20 : decode cX8_init 20 = .ok (.bipush 24, 2) := by decide +kernel
theorem dX8_init_22 : decode cX8_init 22 = .ok (.invokespecial 18, 3) := by decide +kernel
theorem dX8_init_25 : decode cX8_init 25 = .ok (.putfield 21, 3) := by decide +kernel
theorem dX8_init_28 : decode cX8_init 28 = .ok (.aload_n 0, 1) := by decide +kernel
theorem dX8_init_29 : decode cX8_init 29 = .ok (.iconst 3, 1) := by decide +kernel
theorem dX8_init_30 : decode cX8_init 30 = .ok (.anewarray 25, 3) := by decide +kernel
theorem dX8_init_33 : decode cX8_init 33 = .ok (.putfield 27, 3) := by decide +kernel
theorem dX8_init_36 : decode cX8_init 36 = .ok (.iconst 0, 1) := by decide +kernel
theorem dX8_init_37 : decode cX8_init 37 = .ok (.istore_n 1, 1) := by decide +kernel
theorem dX8_init_38 : decode cX8_init 38 = .ok (.iload_n 1, 1) := by decide +kernel
theorem dX8_init_39 : decode cX8_init 39 = .ok (.iconst 3, 1) := by decide +kernel
theorem dX8_init_40 : decode cX8_init 40 = .ok (.if_icmp .ge 22, 3) := by decide +kernel
theorem dX8_init_43 : decode cX8_init 43 = .ok (.aload_n 0, 1) := by decide +kernel
theorem dX8_init_44 : decode cX8_init 44 = .ok (.getfield 27, 3) := by decide +kernel
theorem dX8_init_47 : decode cX8_init 47 = .ok (.iload_n 1, 1) := by decide +kernel
theorem dX8_init_48 : decode cX8_init 48 = .ok (.new 25, 3) := by decide +kernel
theorem dX8_init_51 : decode cX8_init 51 = .ok (.dup, 1) := by decide +kernel
theorem dX8_init_52 : decode cX8_init 52 = .ok (.invokespecial 31, 3) := by decide +kernel
theorem dX8_init_55 : decode cX8_init 55 = .ok (.aastore, 1) := by decide +kernel
theorem dX8_init_56 : decode cX8_init 56 = .ok (.iinc 1 1, 3) := by decide +kernel
theorem dX8_init_59 : decode cX8_init 59 = .ok (.goto (-21), 3) := by decide +kernel
theorem dX8_init_62 : decode cX8_init 62 = .ok (.aload_n 0, 1) := by decide +kernel
theorem dX8_init_63 : decode cX8_init 63 = .ok (.new 32, 3) := by decide +kernel
theorem dX8_init_66 : decode cX8_init 66 = .ok (.dup, 1) := by decide +kernel
theorem dX8_init_67 : decode cX8_init 67 = .ok (.invokespecial 34, 3) := by decide +kernel
theorem dX8_init_70 : decode cX8_init 70 = .ok (.putfield 35, 3) := by decide +kernel
theorem dX8_init_73 : decode cX8_init 73 = .ok (.aload_n 0, 1) := by decide +kernel
theorem dX8_init_74 : decode cX8_init 74 = .ok (.bipush 10, 2) := by decide +kernel
theorem dX8_init_76 : decode cX8_init 76 = .ok (.anewarray 16, 3) := by decide +kernel
theorem dX8_init_79 : decode cX8_init 79 = .ok (.putfield 39, 3) := by decide +kernel
theorem dX8_init_82 : decode cX8_init 82 = .ok (.iconst 0, 1) := by decide +kernel
theorem dX8_init_83 : decode cX8_init 83 = .ok (.istore_n 1, 1) := by decide +kernel
theorem dX8_init_84 : decode cX8_init 84 = .ok (.iload_n 1, 1) := by decide +kernel
theorem dX8_init_85 : decode cX8_init 85 = .ok (.bipush 10, 2) := by decide +kernel
theorem dX8_init_87 : decode cX8_init 87 = .ok (.if_icmp .ge 24, 3) := by decide +kernel
theorem dX8_init_90 : decode cX8_init 90 = .ok (.aload_n 0, 1) := by decide +kernel
theorem dX8_init_91 : decode cX8_init 91 = .ok (.getfield 39, 3) := by decide +kernel
theorem dX8_init_94 : decode cX8_init 94 = .ok (.iload_n 1, 1) := by decide +kernel
theorem dX8_init_95 : decode cX8_init 95 = .ok (.new 16, 3) := by decide +kernel
theorem dX8_init_98 : decode cX8_init 98 = .ok (.dup, 1) := by decide +kernel
theorem dX8_init_99 : decode cX8_init 99 = .ok (.bipush 8, 2) := by decide +kernel
theorem dX8_init_101 : decode cX8_init 101 = .ok (.invokespecial 18, 3) := by decide +kernel
theorem dX8_init_104 : decode cX8_init 104 = .ok (.aastore, 1) := by decide +kernel
theorem dX8_init_105 : decode cX8_init 105 = .ok (.iinc 1 1, 3) := by decide +kernel
theorem dX8_init_108 : decode cX8_init 108 = .ok (.goto (-24), 3) := by decide +kernel
theorem dX8_init_111 : decode cX8_init 111 = .ok (.aload_n 0, 1) := by decide +kernel
theorem dX8_init_112 : decode cX8_init 112 = .ok (.new 43, 3) := by decide +kernel
theorem dX8_init_115 : decode cX8_init 115 = .ok (.dup, 1) := by decide +kernel
theorem dX8_init_116 : decode cX8_init 116 = .ok (.invokespecial 45, 3) := by decide +kernel
theorem dX8_init_119 : decode cX8_init 119 = .ok (.putfield 46, 3) := by decide +kernel
theorem dX8_init_122 : decode cX8_init 122 = .ok (.return_, 1) := by decide +kernel
set_option maxRecDepth 20000 in
theorem ggX8_setClass_X8_isCharacter : GoodIn wsX8_setClass wsX8_isCharacter := goodIn_r _ [6] (by decide +kernel) (by decide +kernel)
set_option maxRecDepth 20000 in
theorem gX8_setClass_X8_isCharacter : GoodIn wsX8_setClass (va_wsS RX8 50 yX8_isCharacter wsX8_isCharacter) := goodIn_app (goodIn_of _ (by decide +kernel)) ggX8_setClass_X8_isCharacter
set_option maxRecDepth 20000 in
theorem ggX8_setClass_X8_isClass : GoodIn wsX8_setClass wsX8_isClass := goodIn_r _ [9] (by decide +kernel) (by decide +kernel)
set_option maxRecDepth 20000 in
theorem gX8_setClass_X8_isClass : GoodIn wsX8_setClass (va_wsS RX8 54 yX8_isClass wsX8_isClass) := goodIn_app (goodIn_of _ (by decide +kernel)) ggX8_setClass_X8_isClass
set_option maxRecDepth 20000 in
theorem ggX8_setClass_X7_classOfCharacter : GoodIn wsX8_setClass wsX7_classOfCharacter := goodIn_r _ [14, 15, 116, 117] (by decide +kernel) (by decide +kernel)
set_option maxRecDepth 20000 in
theorem gX8_setClass_X7_classOfCharacter : GoodIn wsX8_setClass (wsV RX8 58 RX7 yX7_classOfCharacter wsX7_classOfCharacter) := goodIn_app (goodIn_of _ (by decide +kernel)) ggX8_setClass_X7_classOfCharacter
set_option maxRecDepth 20000 in
theorem ggX8_setClass_X7_changeClass : GoodIn wsX8_setClass wsX7_changeClass := goodIn_r _ [19, 15, 116, 117] (by decide +kernel) (by decide +kernel)
set_option maxRecDepth 20000 in
theorem gX8_setClass_X7_changeClass : GoodIn wsX8_setClass (wsV RX8 62 RX7 yX7_changeClass wsX7_changeClass) := goodIn_app (goodIn_of _ (by decide +kernel)) ggX8_setClass_X7_changeClass
set_option maxRecDepth 20000 in
theorem ggX8_setClass_X2_analyseAll : GoodIn wsX8_setClass wsX2_analyseAll := goodIn_r _ [24, 25, 26, 27, 28, 29, 23, 30, 31, 32, 33, 34, 35, 36, 37, 38, 39, 40, 41, 42, 43, 44, 45, 46, 47, 48, 49, 50, 51, 52, 53, 54, 55, 56, 57, 58, 59, 60, 61, 62, 63, 64, 65, 66, 67, 68, 69, 70, 71, 72, 73, 74, 75, 76, 77, 78, 79, 80, 81, 82, 13, 83, 84, 85, 86, 87, 88, 89, 90, 91, 92, 11, 12, 14, 15, 93, 94, 95, 96, 97, 8, 5, 9, 98, 99, 100, 101, 102, 103, 104, 105, 106, 107, 108, 116, 117, 118, 119, 120, 121, 122, 123, 124, 125, 126, 127, 128, 129, 130, 131, 132, 133, 134, 135, 136] (by decide +kernel) (by decide +kernel)
set_option maxRecDepth 20000 in
theorem gX8_setClass_X2_analyseAll : GoodIn wsX8_setClass (wsV RX8 66 RX2 yX2_analyseAll wsX2_analyseAll) := goodIn_app (goodIn_of _ (by decide +kernel)) ggX8_setClass_X2_analyseAll
theorem dX8_setClass_0 : decode cX8_setClass 0 = .ok (.iload_n 1, 1) := by decide +kernel
theorem dX8_setClass_1 : decode cX8_setClass 1 = .ok (.invokestatic 50, 3) := by decide +kernel
theorem dX8_setClass_4 : decode cX8_setClass 4 = .ok (.ifCond .eq 10, 3) := by decide +kernel
theorem dX8_setClass_7 : decode cX8_setClass 7 = .ok (.iload_n 2, 1) := by decide +kernel
theorem dX8_setClass_8 : decode cX8_setClass 8 = .ok (.invokestatic 54, 3) := by decide +kernel
theorem dX8_setClass_11 : decode cX8_setClass 11 = .ok (.ifCond .ne 6, 3) := by decide +kernel
theorem dX8_setClass_14 : decode cX8_setClass 14 = .ok (.bipush (-2), 2) := by decide +kernel
theorem dX8_setClass_16 : decode cX8_setClass 16 = .ok (.ireturn, 1) := by decide +kernel
theorem dX8_setClass_17 : decode cX8_setClass 17 = .ok (.aload_n 0, 1) := by decide +kernel
theorem dX8_setClass_18 : decode cX8_setClass 18 = .ok (.getfield 10, 3) := by decide +kernel
theorem dX8_setClass_21 : decode cX8_setClass 21 = .ok (.iload_n 1, 1) := by decide +kernel
theorem dX8_setClass_22 : decode cX8_setClass 22 = .ok (.invokevirtual 58, 3) := by decide +kernel
theorem dX8_setClass_25 : decode cX8_setClass 25 = .ok (.istore_n 3, 1) := by decide +kernel
theorem dX8_setClass_26 : decode cX8_setClass 26 = .ok (.iload_n 3, 1) := by decide +kernel
theorem dX8_setClass_27 : decode cX8_setClass 27 = .ok (.iload_n 2, 1) := by decide +kernel
theorem dX8_setClass_28 : decode cX8_setClass 28 = .ok (.if_icmp .eq 41, 3) := by decide +kernel
theorem dX8_setClass_31 : decode cX8_setClass 31 = .ok (.aload_n 0, 1) := by decide +kernel
theorem dX8_setClass_32 : decode cX8_setClass 32 = .ok (.getfield 10, 3) := by decide +kernel
theorem dX8_setClass_35 : decode cX8_setClass 35 = .ok (.iload_n 1, 1) := by decide +kernel
theorem dX8_setClass_36 : decode cX8_setClass 36 = .ok (.iload_n 2, 1) := by decide +kernel
theorem dX8_setClass_37 : decode cX8_setClass 37 = .ok (.invokevirtual 62, 3) := by decide +kernel
theorem dX8_setClass_40 : decode cX8_setClass 40 = .ok (.iconst 0, 1) := by decide +kernel
theorem dX8_setClass_41 : decode cX8_setClass 41 = .ok (.istore 4, 2) := by decide +kernel
theorem dX8_setClass_43 : decode cX8_setClass 43 = .ok (.iload 4, 2) := by decide +kernel
theorem dX8_setClass_45 : decode cX8_setClass 45 = .ok (.iconst 3, 1) := by decide +kernel
theorem dX8_setClass_46 : decode cX8_setClass 46 = .ok (.if_icmp .ge 23, 3) := by decide +kernel
theorem dX8_setClass_49 : decode cX8_setClass 49 = .ok (.aload_n 0, 1) := by decide +kernel
theorem dX8_setClass_50 : decode cX8_setClass 50 = .ok (.getfield 27, 3) := by decide +kernel
theorem dX8_setClass_53 : decode cX8_setClass 53 = .ok (.iload 4, 2) := by decide +kernel
theorem dX8_setClass_55 : decode cX8_setClass 55 = .ok (.aaload, 1) := by decide +kernel
theorem dX8_setClass_56 : decode cX8_setClass 56 = .ok (.aload_n 0, 1) := by decide +kernel
theorem dX8_setClass_57 : decode cX8_setClass 57 = .ok (.getfield 10, 3) := by decide +kernel
theorem dX8_setClass_60 : decode cX8_setClass 60 = .ok (.invokevirtual 66, 3) := by decide +kernel
theorem dX8_setClass_63 : decode cX8_setClass 63 = .ok (.iinc 4 1, 3) := by decide +kernel
theorem dX8_setClass_66 : decode cX8_setClass 66 = .ok (.goto (-23), 3) := by decide +kernel
theorem dX8_setClass_69 : decode cX8_setClass 69 = .ok (.iload_n 3, 1) := by decide +kernel
theorem dX8_setClass_70 : decode cX8_setClass 70 = .ok (.ireturn, 1) := by decide +kernel
set_option maxRecDepth 20000 in
theorem ggX8_classOf_X8_isCharacter : GoodIn wsX8_classOf wsX8_isCharacter := goodIn_r _ [5] (by decide +kernel) (by decide +kernel)
set_option maxRecDepth 20000 in
theorem gX8_classOf_X8_isCharacter : GoodIn wsX8_classOf (va_wsS RX8 50 yX8_isCharacter wsX8_isCharacter) := goodIn_app (goodIn_of _ (by decide +kernel)) ggX8_classOf_X8_isCharacter
set_option maxRecDepth 20000 in
theorem ggX8_classOf_X7_classOfCharacter : GoodIn wsX8_classOf wsX7_classOfCharacter := goodIn_r _ [10, 11, 19, 20] (by decide +kernel) (by decide +kernel)
set_option maxRecDepth 20000 in
theorem gX8_classOf_X7_classOfCharacter : GoodIn wsX8_classOf (wsV RX8 58 RX7 yX7_classOfCharacter wsX7_classOfCharacter) := goodIn_app (goodIn_of _ (by decide +kernel)) ggX8_classOf_X7_classOfCharacter
theorem dX8_classOf_0 : decode cX8_classOf 0 = .ok (.iload_n 1, 1) := by decide +kernel
theorem dX8_classOf_1 : decode cX8_classOf 1 = .ok (.invokestatic 50, 3) := by decide +kernel
theorem dX8_classOf_4 : decode cX8_classOf 4 = .ok (.ifCond .eq 14, 3) := by decide +kernel
theorem dX8_classOf_7 : decode cX8_classOf 7 = .ok (.aload_n 0, 1) := by decide +kernel
theorem dX8_classOf_8 : decode cX8_classOf 8 = .ok (.getfield 10, 3) := by decide +kernel
theorem dX8_classOf_11 : decode cX8_classOf 11 = .ok (.iload_n 1, 1) := by decide +kernel
theorem dX8_classOf_12 : decode cX8_classOf 12 = .ok (.invokevirtual 58, 3) := by decide +kernel
theorem dX8_classOf_15 : decode cX8_classOf 15 = .ok (.goto 5, 3) := by decide +kernel
theorem dX8_classOf_18 : decode cX8_classOf 18 = .ok (.bipush (-2), 2) := by decide +kernel
theorem dX8_classOf_20 : decode cX8_classOf 20 = .ok (.ireturn, 1) := by decide +kernel
set_option maxRecDepth 20000 in
theorem ggX8_type_X4_append : GoodIn wsX8_type wsX4_append := goodIn_r _ [7, 8, 9, 17, 18] (by decide +kernel) (by decide +kernel)
set_option maxRecDepth 20000 in
theorem gX8_type_X4_append : GoodIn wsX8_type (wsV RX8 74 RX4 yX4_append wsX4_append) := goodIn_app (goodIn_of _ (by decide +kernel)) ggX8_type_X4_append
theorem dX8_type_0 : decode cX8_type 0 = .ok (.aload_n 0, 1) := by decide +kernel
theorem dX8_type_1 : decode cX8_type 1 = .ok (.getfield 21, 3) := by decide +kernel
theorem dX8_type_4 : decode cX8_type 4 = .ok (.getfield 70, 3) := by decide +kernel
theorem dX8_type_7 : decode cX8_type 7 = .ok (.bipush 24, 2) := by decide +kernel
theorem dX8_type_9 : decode cX8_type 9 = .ok (.if_icmp .lt 6, 3) := by decide +kernel
theorem dX8_type_12 : decode cX8_type 12 = .ok (.bipush (-3), 2) := by decide +kernel
theorem dX8_type_14 : decode cX8_type 14 = .ok (.ireturn, 1) := by decide +kernel
theorem dX8_type_15 : decode cX8_type 15 = .ok (.aload_n 0, 1) := by decide +kernel
theorem dX8_type_16 : decode cX8_type 16 = .ok (.getfield 21, 3) := by decide +kernel
theorem dX8_type_19 : decode cX8_type 19 = .ok (.iload_n 1, 1) := by decide +kernel
theorem dX8_type_20 : decode cX8_type 20 = .ok (.invokevirtual 74, 3) := by decide +kernel
theorem dX8_type_23 : decode cX8_type 23 = .ok (.aload_n 0, 1) := by decide +kernel
theorem dX8_type_24 : decode cX8_type 24 = .ok (.getfield 21, 3) := by decide +kernel
theorem dX8_type_27 : decode cX8_type 27 = .ok (.getfield 70, 3) := by decide +kernel
theorem dX8_type_30 : decode cX8_type 30 = .ok (.ireturn, 1) := by decide +kernel
theorem dX8_clearPattern_0 : decode cX8_clearPattern 0 = .ok (.aload_n 0, 1) := by decide +kernel
theorem dX8_clearPattern_1 : decode cX8_clearPattern 1 = .ok (.getfield 21, 3) := by decide +kernel
theorem dX8_clearPattern_4 : decode cX8_clearPattern 4 = .ok (.getfield 70, 3) := by decide +kernel
theorem dX8_clearPattern_7 : decode cX8_clearPattern 7 = .ok (.istore_n 1, 1) := by decide +kernel
theorem dX8_clearPattern_8 : decode cX8_clearPattern 8 = .ok (.aload_n 0, 1) := by decide +kernel
theorem dX8_clearPattern_9 : decode cX8_clearPattern 9 = .ok (.getfield 21, 3) := by decide +kernel
theorem dX8_clearPattern_12 : decode cX8_clearPattern 12 = .ok (.iconst 0, 1) := by decide +kernel
theorem dX8_clearPattern_13 : decode cX8_clearPattern 13 = .ok (.putfield 70, 3) := by decide +kernel
theorem dX8_clearPattern_16 : decode cX8_clearPattern 16 = .ok (.iload_n 1, 1) := by decide +kernel
theorem dX8_clearPattern_17 : decode cX8_clearPattern 17 = .ok (.ireturn, 1) := by decide +kernel
set_option maxRecDepth 20000 in
theorem ggX8_setRule_X8_isKind : GoodIn wsX8_setRule wsX8_isKind := goodIn_r _ [11] (by decide +kernel) (by decide +kernel)
set_option maxRecDepth 20000 in
theorem gX8_setRule_X8_isKind : GoodIn wsX8_setRule (va_wsS RX8 78 yX8_isKind wsX8_isKind) := goodIn_app (goodIn_of _ (by decide +kernel)) ggX8_setRule_X8_isKind
set_option maxRecDepth 20000 in
theorem ggX8_setRule_X8_isPlace : GoodIn wsX8_setRule wsX8_isPlace := goodIn_r _ [14] (by decide +kernel) (by decide +kernel)
set_option maxRecDepth 20000 in
theorem gX8_setRule_X8_isPlace : GoodIn wsX8_setRule (va_wsS RX8 81 yX8_isPlace wsX8_isPlace) := goodIn_app (goodIn_of _ (by decide +kernel)) ggX8_setRule_X8_isPlace
set_option maxRecDepth 20000 in
theorem ggX8_setRule_X8_faultOf : GoodIn wsX8_setRule wsX8_faultOf := goodIn_r _ [17, 2, 18, 19, 20, 21, 22, 23, 24, 25, 26, 10, 27, 28, 29, 30, 215, 216] (by decide +kernel) (by decide +kernel)
set_option maxRecDepth 20000 in
theorem gX8_setRule_X8_faultOf : GoodIn wsX8_setRule (va_wsS RX8 84 yX8_faultOf wsX8_faultOf) := goodIn_app (goodIn_of _ (by decide +kernel)) ggX8_setRule_X8_faultOf
set_option maxRecDepth 20000 in
theorem ggX8_setRule_X5_isSet : GoodIn wsX8_setRule wsX5_isSet := goodIn_r _ [35, 36, 37, 222, 223, 224, 225, 226, 227, 228, 229, 230, 215, 216] (by decide +kernel) (by decide +kernel)
set_option maxRecDepth 20000 in
theorem gX8_setRule_X5_isSet : GoodIn wsX8_setRule (wsV RX8 92 RX5 yX5_isSet wsX5_isSet) := goodIn_app (goodIn_of _ (by decide +kernel)) ggX8_setRule_X5_isSet
set_option maxRecDepth 20000 in
theorem ggX8_setRule_X4_become : GoodIn wsX8_setRule wsX4_become := goodIn_r _ [41, 23, 42, 19, 20, 21, 22, 24, 43, 44, 45, 46, 215, 216] (by decide +kernel) (by decide +kernel)
set_option maxRecDepth 20000 in
theorem gX8_setRule_X4_become : GoodIn wsX8_setRule (wsV RX8 101 RX4 yX4_become wsX4_become) := goodIn_app (goodIn_of _ (by decide +kernel)) ggX8_setRule_X4_become
set_option maxRecDepth 20000 in
theorem ggX8_setRule_X6_build : GoodIn wsX8_setRule wsX6_build := goodIn_r _ [51, 52, 53, 54, 55, 56, 57, 58, 59, 60, 61, 62, 63, 64, 65, 66, 67, 68, 69, 70, 71, 72, 73, 74, 75, 76, 77, 50, 78, 79, 80, 81, 82, 83, 84, 85, 19, 20, 21, 22, 23, 24, 86, 87, 88, 89, 90, 91, 92, 93, 94, 95, 96, 97, 98, 99, 100, 101, 102, 103, 104, 105, 106, 107, 108, 109, 110, 111, 112, 113, 114, 115, 116, 117, 118, 119, 120, 121, 122, 26, 10, 27, 123, 124, 125, 126, 222, 223, 224, 225, 226, 227, 228, 229, 230, 231, 232, 233, 234, 215, 216, 235, 236, 237] (by decide +kernel) (by decide +kernel)
set_option maxRecDepth 20000 in
theorem gX8_setRule_X6_build : GoodIn wsX8_setRule (wsV RX8 105 RX6 yX6_build wsX6_build) := goodIn_app (goodIn_of _ (by decide +kernel)) ggX8_setRule_X6_build
set_option maxRecDepth 20000 in
theorem ggX8_setRule_X2_analyseAll : GoodIn wsX8_setRule wsX2_analyseAll := goodIn_r _ [131, 132, 133, 134, 135, 136, 130, 137, 138, 139, 140, 141, 142, 143, 144, 145, 146, 147, 148, 149, 150, 151, 152, 153, 154, 155, 156, 32, 33, 34, 35, 36, 37, 157, 158, 159, 160, 161, 162, 163, 164, 165, 166, 167, 168, 169, 60, 61, 62, 170, 171, 172, 173, 174, 175, 176, 177, 178, 179, 180, 181, 182, 183, 184, 19, 20, 21, 22, 23, 24, 185, 186, 187, 188, 189, 190, 191, 192, 193, 194, 195, 10, 196, 197, 198, 199, 200, 201, 202, 203, 204, 205, 206, 207, 238, 239, 215, 216, 217, 218, 219, 220, 221, 222, 223, 224, 225, 226, 227, 228, 229, 230, 235, 236, 237] (by decide +kernel) (by decide +kernel)
set_option maxRecDepth 20000 in
theorem gX8_setRule_X2_analyseAll : GoodIn wsX8_setRule (wsV RX8 66 RX2 yX2_analyseAll wsX2_analyseAll) := goodIn_app (goodIn_of _ (by decide +kernel)) ggX8_setRule_X2_analyseAll
theorem dX8_setRule_0 : decode cX8_setRule 0 = .ok (.iload_n 1, 1) := by decide +kernel
theorem dX8_setRule_1 : decode cX8_setRule 1 = .ok (.invokestatic 78, 3) := by decide +kernel
theorem dX8_setRule_4 : decode cX8_setRule 4 = .ok (.ifCond .eq 10, 3) := by decide +kernel
theorem dX8_setRule_7 : decode cX8_setRule 7 = .ok (.iload_n 2, 1) := by decide +kernel
theorem dX8_setRule_8 : decode cX8_setRule 8 = .ok (.invokestatic 81, 3) := by decide +kernel
theorem dX8_setRule_11 : decode cX8_setRule 11 = .ok (.ifCond .ne 6, 3) := by decide +kernel
theorem dX8_setRule_14 : decode cX8_setRule 14 = .ok (.bipush (-2), 2) := by decide +kernel
theorem dX8_setRule_16 : decode cX8_setRule 16 = .ok (.ireturn, 1) := by decide +kernel
theorem dX8_setRule_17 : decode cX8_setRule 17 = .ok (.aload_n 0, 1) := by decide +kernel
theorem dX8_setRule_18 : decode cX8_setRule 18 = .ok (.getfield 21, 3) := by decide +kernel
theorem dX8_setRule_21 : decode cX8_setRule 21 = .ok (.getfield 70, 3) := by decide +kernel
theorem dX8_setRule_24 : decode cX8_setRule 24 = .ok (.ifCond .le 21, 3) := by decide +kernel
theorem dX8_setRule_27 : decode cX8_setRule 27 = .ok (.aload_n 0, 1) := by decide +kernel
theorem dX8_setRule_28 : decode cX8_setRule 28 = .ok (.getfield 21, 3) := by decide +kernel
theorem dX8_setRule_31 : decode cX8_setRule 31 = .ok (.invokestatic 84, 3) := by decide +kernel
theorem dX8_setRule_34 : decode cX8_setRule 34 = .ok (.istore_n 3, 1) := by decide +kernel
theorem dX8_setRule_35 : decode cX8_setRule 35 = .ok (.iload_n 3, 1) := by decide +kernel
theorem dX8_setRule_36 : decode cX8_setRule 36 = .ok (.iconst (-1), 1) := by decide +kernel
theorem dX8_setRule_37 : decode cX8_setRule 37 = .ok (.if_icmp .eq 8, 3) := by decide +kernel
theorem dX8_setRule_40 : decode cX8_setRule 40 = .ok (.bipush (-100), 2) := by decide +kernel
theorem dX8_setRule_42 : decode cX8_setRule 42 = .ok (.iload_n 3, 1) := by decide +kernel
theorem dX8_setRule_43 : decode cX8_setRule 43 = .ok (.isub, 1) := by decide +kernel
theorem dX8_setRule_44 : decode cX8_setRule 44 = .ok (.ireturn, 1) := by decide +kernel
theorem dX8_setRule_45 : decode cX8_setRule 45 = .ok (.aload_n 0, 1) := by decide +kernel
theorem dX8_setRule_46 : decode cX8_setRule 46 = .ok (.getfield 27, 3) := by decide +kernel
theorem dX8_setRule_49 : decode cX8_setRule 49 = .ok (.iload_n 1, 1) := by decide +kernel
theorem dX8_setRule_50 : decode cX8_setRule 50 = .ok (.aaload, 1) := by decide +kernel
theorem dX8_setRule_51 : decode cX8_setRule 51 = .ok (.getfield 88, 3) := by decide +kernel
theorem dX8_setRule_54 : decode cX8_setRule 54 = .ok (.iload_n 2, 1) := by decide +kernel
theorem dX8_setRule_55 : decode cX8_setRule 55 = .ok (.aaload, 1) := by decide +kernel
theorem dX8_setRule_56 : decode cX8_setRule 56 = .ok (.astore_n 3, 1) := by decide +kernel
theorem dX8_setRule_57 : decode cX8_setRule 57 = .ok (.aload_n 3, 1) := by decide +kernel
theorem dX8_setRule_58 : decode cX8_setRule 58 = .ok (.invokevirtual 92, 3) := by decide +kernel
theorem dX8_setRule_61 : decode cX8_setRule 61 = .ok (.istore 4, 2) := by decide +kernel
theorem dX8_setRule_63 : decode cX8_setRule 63 = .ok (.iload 4, 2) := by decide +kernel
theorem dX8_setRule_65 : decode cX8_setRule 65 = .ok (.ifCond .ne 13, 3) := by decide +kernel
theorem dX8_setRule_68 : decode cX8_setRule 68 = .ok (.aload_n 0, 1) := by decide +kernel
theorem dX8_setRule_69 : decode cX8_setRule 69 = .ok (.getfield 21, 3) := by decide +kernel
theorem dX8_setRule_72 : decode cX8_setRule 72 = .ok (.getfield 70, 3) := by decide +kernel
theorem dX8_setRule_75 : decode cX8_setRule 75 = .ok (.ifCond .le 43, 3) := by decide +kernel
theorem dX8_setRule_78 : decode cX8_setRule 78 = .ok (.aload_n 3, 1) := by decide +kernel
theorem dX8_setRule_79 : decode cX8_setRule 79 = .ok (.getfield 98, 3) := by decide +kernel
theorem dX8_setRule_82 : decode cX8_setRule 82 = .ok (.aload_n 0, 1) := by decide +kernel
theorem dX8_setRule_83 : decode cX8_setRule 83 = .ok (.getfield 21, 3) := by decide +kernel
theorem dX8_setRule_86 : decode cX8_setRule 86 = .ok (.iconst 0, 1) := by decide +kernel
theorem dX8_setRule_87 : decode cX8_setRule 87 = .ok (.aload_n 0, 1) := by decide +kernel
theorem dX8_setRule_88 : decode cX8_setRule 88 = .ok (.getfield 21, 3) := by decide +kernel
theorem dX8_setRule_91 : decode cX8_setRule 91 = .ok (.getfield 70, 3) := by decide +kernel
theorem dX8_setRule_94 : decode cX8_setRule 94 = .ok (.invokevirtual 101, 3) := by decide +kernel
theorem dX8_setRule_97 : decode cX8_setRule 97 = .ok (.aload_n 0, 1) := by decide +kernel
theorem dX8_setRule_98 : decode cX8_setRule 98 = .ok (.getfield 35, 3) := by decide +kernel
theorem dX8_setRule_101 : decode cX8_setRule 101 = .ok (.aload_n 3, 1) := by decide +kernel
theorem dX8_setRule_102 : decode cX8_setRule 102 = .ok (.invokevirtual 105, 3) := by decide +kernel
theorem dX8_setRule_105 : decode cX8_setRule 105 = .ok (.aload_n 0, 1) := by decide +kernel
theorem dX8_setRule_106 : decode cX8_setRule 106 = .ok (.getfield 27, 3) := by decide +kernel
theorem dX8_setRule_109 : decode cX8_setRule 109 = .ok (.iload_n 1, 1) := by decide +kernel
theorem dX8_setRule_110 : decode cX8_setRule 110 = .ok (.aaload, 1) := by decide +kernel
theorem dX8_setRule_111 : decode cX8_setRule 111 = .ok (.aload_n 0, 1) := by decide +kernel
theorem dX8_setRule_112 : decode cX8_setRule 112 = .ok (.getfield 10, 3) := by decide +kernel
theorem dX8_setRule_115 : decode cX8_setRule 115 = .ok (.invokevirtual 66, 3) := by decide +kernel
theorem dX8_setRule_118 : decode cX8_setRule 118 = .ok (.iload 4, 2) := by decide +kernel
theorem dX8_setRule_120 : decode cX8_setRule 120 = .ok (.ifCond .eq 7, 3) := by decide +kernel
theorem dX8_setRule_123 : decode cX8_setRule 123 = .ok (.iconst 1, 1) := by decide +kernel
theorem dX8_setRule_124 : decode cX8_setRule 124 = .ok (.goto 4, 3) := by decide +kernel
theorem dX8_setRule_127 : decode cX8_setRule 127 = .ok (.iconst 0, 1) := by decide +kernel
theorem dX8_setRule_128 : decode cX8_setRule 128 = .ok (.ireturn, 1) := by decide +kernel
set_option maxRecDepth 20000 in
theorem ggX8_ruleText_X8_isKind : GoodIn wsX8_ruleText wsX8_isKind := goodIn_r _ [8] (by decide +kernel) (by decide +kernel)
set_option maxRecDepth 20000 in
theorem gX8_ruleText_X8_isKind : GoodIn wsX8_ruleText (va_wsS RX8 78 yX8_isKind wsX8_isKind) := goodIn_app (goodIn_of _ (by decide +kernel)) ggX8_ruleText_X8_isKind
set_option maxRecDepth 20000 in
theorem ggX8_ruleText_X8_isPlace : GoodIn wsX8_ruleText wsX8_isPlace := goodIn_r _ [11] (by decide +kernel) (by decide +kernel)
set_option maxRecDepth 20000 in
theorem gX8_ruleText_X8_isPlace : GoodIn wsX8_ruleText (va_wsS RX8 81 yX8_isPlace wsX8_isPlace) := goodIn_app (goodIn_of _ (by decide +kernel)) ggX8_ruleText_X8_isPlace
set_option maxRecDepth 20000 in
theorem ggX8_ruleText_X4_at : GoodIn wsX8_ruleText wsX4_at := goodIn_r _ [16, 17, 18, 40, 41] (by decide +kernel) (by decide +kernel)
set_option maxRecDepth 20000 in
theorem gX8_ruleText_X4_at : GoodIn wsX8_ruleText (wsV RX8 109 RX4 yX4_at wsX4_at) := goodIn_app (goodIn_of _ (by decide +kernel)) ggX8_ruleText_X4_at
theorem dX8_ruleText_0 : decode cX8_ruleText 0 = .ok (.iload_n 1, 1) := by decide +kernel
theorem dX8_ruleText_1 : decode cX8_ruleText 1 = .ok (.invokestatic 78, 3) := by decide +kernel
theorem dX8_ruleText_4 : decode cX8_ruleText 4 = .ok (.ifCond .eq 14, 3) := by decide +kernel
theorem dX8_ruleText_7 : decode cX8_ruleText 7 = .ok (.iload_n 2, 1) := by decide +kernel
theorem dX8_ruleText_8 : decode cX8_ruleText 8 = .ok (.invokestatic 81, 3) := by decide +kernel
theorem dX8_ruleText_11 : decode cX8_ruleText 11 = .ok (.ifCond .eq 7, 3) := by decide +kernel
theorem dX8_ruleText_14 : decode cX8_ruleText 14 = .ok (.iload_n 3, 1) := by decide +kernel
theorem dX8_ruleText_15 : decode cX8_ruleText 15 = .ok (.ifCond .ge 6, 3) := by decide +kernel
theorem dX8_ruleText_18 : decode cX8_ruleText 18 = .ok (.bipush (-2), 2) := by decide +kernel
theorem dX8_ruleText_20 : decode cX8_ruleText 20 = .ok (.ireturn, 1) := by decide +kernel
theorem dX8_ruleText_21 : decode cX8_ruleText 21 = .ok (.aload_n 0, 1) := by decide +kernel
theorem dX8_ruleText_22 : decode cX8_ruleText 22 = .ok (.getfield 27, 3) := by decide +kernel
theorem dX8_ruleText_25 : decode cX8_ruleText 25 = .ok (.iload_n 1, 1) := by decide +kernel
theorem dX8_ruleText_26 : decode cX8_ruleText 26 = .ok (.aaload, 1) := by decide +kernel
theorem dX8_ruleText_27 : decode cX8_ruleText 27 = .ok (.getfield 88, 3) := by decide +kernel
theorem dX8_ruleText_30 : decode cX8_ruleText 30 = .ok (.iload_n 2, 1) := by decide +kernel
theorem dX8_ruleText_31 : decode cX8_ruleText 31 = .ok (.aaload, 1) := by decide +kernel
theorem dX8_ruleText_32 : decode cX8_ruleText 32 = .ok (.getfield 98, 3) := by decide +kernel
theorem dX8_ruleText_35 : decode cX8_ruleText 35 = .ok (.astore 4, 2) := by decide +kernel
theorem dX8_ruleText_37 : decode cX8_ruleText 37 = .ok (.iload_n 3, 1) := by decide +kernel
theorem dX8_ruleText_38 : decode cX8_ruleText 38 = .ok (.aload 4, 2) := by decide +kernel
theorem dX8_ruleText_40 : decode cX8_ruleText 40 = .ok (.getfield 70, 3) := by decide +kernel
theorem dX8_ruleText_43 : decode cX8_ruleText 43 = .ok (.if_icmp .ge 12, 3) := by decide +kernel
theorem dX8_ruleText_46 : decode cX8_ruleText 46 = .ok (.aload 4, 2) := by decide +kernel
theorem dX8_ruleText_48 : decode cX8_ruleText 48 = .ok (.iload_n 3, 1) := by decide +kernel
theorem dX8_ruleText_49 : decode cX8_ruleText 49 = .ok (.invokevirtual 109, 3) := by decide +kernel
theorem dX8_ruleText_52 : decode cX8_ruleText 52 = .ok (.goto 5, 3) := by decide +kernel
theorem dX8_ruleText_55 : decode cX8_ruleText 55 = .ok (.bipush (-5), 2) := by decide +kernel
theorem dX8_ruleText_57 : decode cX8_ruleText 57 = .ok (.ireturn, 1) := by decide +kernel
set_option maxRecDepth 20000 in
theorem ggX8_matchLength_X8_isKind : GoodIn wsX8_matchLength wsX8_isKind := goodIn_r _ [8] (by decide +kernel) (by decide +kernel)
set_option maxRecDepth 20000 in
theorem gX8_matchLength_X8_isKind : GoodIn wsX8_matchLength (va_wsS RX8 78 yX8_isKind wsX8_isKind) := goodIn_app (goodIn_of _ (by decide +kernel)) ggX8_matchLength_X8_isKind
set_option maxRecDepth 20000 in
theorem ggX8_matchLength_X8_isPlace : GoodIn wsX8_matchLength wsX8_isPlace := goodIn_r _ [11] (by decide +kernel) (by decide +kernel)
set_option maxRecDepth 20000 in
theorem gX8_matchLength_X8_isPlace : GoodIn wsX8_matchLength (va_wsS RX8 81 yX8_isPlace wsX8_isPlace) := goodIn_app (goodIn_of _ (by decide +kernel)) ggX8_matchLength_X8_isPlace
set_option maxRecDepth 20000 in
theorem ggX8_matchLength_X8_isPosition : GoodIn wsX8_matchLength wsX8_isPosition := goodIn_r _ [15, 3, 16, 17, 88, 89, 90, 91, 92, 93, 94, 109, 110, 111, 112] (by decide +kernel) (by decide +kernel)
set_option maxRecDepth 20000 in
theorem gX8_matchLength_X8_isPosition : GoodIn wsX8_matchLength (wsV RX8 113 RX8 yX8_isPosition wsX8_isPosition) := goodIn_app (goodIn_of _ (by decide +kernel)) ggX8_matchLength_X8_isPosition
set_option maxRecDepth 20000 in
theorem ggX8_matchLength_X5_isSet : GoodIn wsX8_matchLength wsX5_isSet := goodIn_r _ [22, 23, 24, 100, 101, 102, 103, 104, 105, 106, 107, 108, 111, 112] (by decide +kernel) (by decide +kernel)
set_option maxRecDepth 20000 in
theorem gX8_matchLength_X5_isSet : GoodIn wsX8_matchLength (wsV RX8 92 RX5 yX5_isSet wsX5_isSet) := goodIn_app (goodIn_of _ (by decide +kernel)) ggX8_matchLength_X5_isSet
set_option maxRecDepth 20000 in
theorem ggX8_matchLength_X5_walk : GoodIn wsX8_matchLength wsX5_walk := goodIn_r _ [28, 29, 30, 31, 32, 33, 34, 24, 35, 36, 37, 38, 39, 40, 41, 42, 43, 21, 44, 45, 46, 47, 48, 49, 50, 51, 52, 53, 54, 55, 56, 57, 58, 59, 60, 61, 62, 63, 64, 65, 66, 67, 68, 69, 70, 71, 72, 7, 73, 74, 75, 76, 77, 78, 79, 80, 81, 82, 83, 84, 85, 86, 87, 100, 101, 102, 103, 104, 105, 106, 107, 108, 113, 114, 115, 109, 110, 111, 112] (by decide +kernel) (by decide +kernel)
set_option maxRecDepth 20000 in
theorem gX8_matchLength_X5_walk : GoodIn wsX8_matchLength (wsV RX8 116 RX5 yX5_walk wsX5_walk) := goodIn_app (goodIn_of _ (by decide +kernel)) ggX8_matchLength_X5_walk
theorem dX8_matchLength_0 : decode cX8_matchLength 0 = .ok (.iload_n 1, 1) := by decide +kernel
theorem dX8_matchLength_1 : decode cX8_matchLength 1 = .ok (.invokestatic 78, 3) := by decide +kernel
theorem dX8_matchLength_4 : decode cX8_matchLength 4 = .ok (.ifCond .eq 10, 3) := by decide +kernel
theorem dX8_matchLength_7 : decode cX8_matchLength 7 = .ok (.iload_n 2, 1) := by decide +kernel
theorem dX8_matchLength_8 : decode cX8_matchLength 8 = .ok (.invokestatic 81, 3) := by decide +kernel
theorem dX8_matchLength_11 : decode cX8_matchLength 11 = .ok (.ifCond .ne 6, 3) := by decide +kernel
theorem dX8_matchLength_14 : decode cX8_matchLength 14 = .ok (.bipush (-2), 2) := by decide +kernel
theorem dX8_matchLength_16 : decode cX8_matchLength 16 = .ok (.ireturn, 1) := by decide +kernel
theorem dX8_matchLength_17 : decode cX8_matchLength 17 = .ok (.aload_n 0, 1) := by decide +kernel
theorem dX8_matchLength_18 : decode cX8_matchLength 18 = .ok (.iload_n 3, 1) := by decide +kernel
theorem dX8_matchLength_19 : decode cX8_matchLength 19 = .ok (.invokevirtual 113, 3) := by decide +kernel
theorem dX8_matchLength_22 : decode cX8_matchLength 22 = .ok (.ifCond .ne 5, 3) := by decide +kernel
theorem dX8_matchLength_25 : decode cX8_matchLength 25 = .ok (.iconst (-1), 1) := by decide +kernel
theorem dX8_matchLength_26 : decode cX8_matchLength 26 = .ok (.ireturn, 1) := by decide +kernel
theorem dX8_matchLength_27 : decode cX8_matchLength 27 = .ok (.aload_n 0, 1) := by decide +kernel
theorem dX8_matchLength_28 : decode cX8_matchLength 28 = .ok (.getfield 27, 3) := by decide +kernel
theorem dX8_matchLength_31 : decode cX8_matchLength 31 = .ok (.iload_n 1, 1) := by decide +kernel
theorem dX8_matchLength_32 : decode cX8_matchLength 32 = .ok (.aaload, 1) := by decide +kernel
theorem dX8_matchLength_33 : decode cX8_matchLength 33 = .ok (.getfield 88, 3) := by decide +kernel
theorem dX8_matchLength_36 : decode cX8_matchLength 36 = .ok (.iload_n 2, 1) := by decide +kernel
theorem dX8_matchLength_37 : decode cX8_matchLength 37 = .ok (.aaload, 1) := by decide +kernel
theorem dX8_matchLength_38 : decode cX8_matchLength 38 = .ok (.astore 4, 2) := by decide +kernel
theorem dX8_matchLength_40 : decode cX8_matchLength 40 = .ok (.aload 4, 2) := by decide +kernel
theorem dX8_matchLength_42 : decode cX8_matchLength 42 = .ok (.invokevirtual 92, 3) := by decide +kernel
theorem dX8_matchLength_45 : decode cX8_matchLength 45 = .ok (.ifCond .ne 6, 3) := by decide +kernel
theorem dX8_matchLength_48 : decode cX8_matchLength 48 = .ok (.bipush (-5), 2) := by decide +kernel
theorem dX8_matchLength_50 : decode cX8_matchLength 50 = .ok (.ireturn, 1) := by decide +kernel
theorem dX8_matchLength_51 : decode cX8_matchLength 51 = .ok (.aload 4, 2) := by decide +kernel
theorem dX8_matchLength_53 : decode cX8_matchLength 53 = .ok (.aload_n 0, 1) := by decide +kernel
theorem dX8_matchLength_54 : decode cX8_matchLength 54 = .ok (.getfield 10, 3) := by decide +kernel
theorem dX8_matchLength_57 : decode cX8_matchLength 57 = .ok (.iload_n 3, 1) := by decide +kernel
theorem dX8_matchLength_58 : decode cX8_matchLength 58 = .ok (.invokevirtual 116, 3) := by decide +kernel
theorem dX8_matchLength_61 : decode cX8_matchLength 61 = .ok (.aload 4, 2) := by decide +kernel
theorem dX8_matchLength_63 : decode cX8_matchLength 63 = .ok (.getfield 120, 3) := by decide +kernel
theorem dX8_matchLength_66 : decode cX8_matchLength 66 = .ok (.ireturn, 1) := by decide +kernel
set_option maxRecDepth 20000 in
theorem ggX8_addException_X8_isExceptionWord : GoodIn wsX8_addException wsX8_isExceptionWord := goodIn_r _ [8, 2, 9, 10, 11, 12, 13, 14, 15, 16, 17, 7, 18, 43, 44] (by decide +kernel) (by decide +kernel)
set_option maxRecDepth 20000 in
theorem gX8_addException_X8_isExceptionWord : GoodIn wsX8_addException (va_wsS RX8 123 yX8_isExceptionWord wsX8_isExceptionWord) := goodIn_app (goodIn_of _ (by decide +kernel)) ggX8_addException_X8_isExceptionWord
set_option maxRecDepth 20000 in
theorem ggX8_addException_X8_exceptionAt : GoodIn wsX8_addException wsX8_exceptionAt := goodIn_r _ [22, 3, 4, 23, 24, 25, 12, 26, 14, 27, 10, 11, 13, 15, 36, 37, 38, 39, 40, 41, 42, 43, 44] (by decide +kernel) (by decide +kernel)
set_option maxRecDepth 20000 in
theorem gX8_addException_X8_exceptionAt : GoodIn wsX8_addException (wsV RX8 127 RX8 yX8_exceptionAt wsX8_exceptionAt) := goodIn_app (goodIn_of _ (by decide +kernel)) ggX8_addException_X8_exceptionAt
set_option maxRecDepth 20000 in
theorem ggX8_addException_X4_become : GoodIn wsX8_addException wsX4_become := goodIn_r _ [31, 14, 27, 10, 11, 12, 13, 15, 32, 33, 34, 35, 43, 44] (by decide +kernel) (by decide +kernel)
set_option maxRecDepth 20000 in
theorem gX8_addException_X4_become : GoodIn wsX8_addException (wsV RX8 101 RX4 yX4_become wsX4_become) := goodIn_app (goodIn_of _ (by decide +kernel)) ggX8_addException_X4_become
theorem dX8_addException_0 : decode cX8_addException 0 = .ok (.aload_n 0, 1) := by decide +kernel
theorem dX8_addException_1 : decode cX8_addException 1 = .ok (.getfield 21, 3) := by decide +kernel
theorem dX8_addException_4 : decode cX8_addException 4 = .ok (.invokestatic 123, 3) := by decide +kernel
theorem dX8_addException_7 : decode cX8_addException 7 = .ok (.ifCond .ne 6, 3) := by decide +kernel
theorem dX8_addException_10 : decode cX8_addException 10 = .ok (.bipush (-2), 2) := by decide +kernel
theorem dX8_addException_12 : decode cX8_addException 12 = .ok (.ireturn, 1) := by decide +kernel
theorem dX8_addException_13 : decode cX8_addException 13 = .ok (.aload_n 0, 1) := by decide +kernel
theorem dX8_addException_14 : decode cX8_addException 14 = .ok (.aload_n 0, 1) := by decide +kernel
theorem dX8_addException_15 : decode cX8_addException 15 = .ok (.getfield 21, 3) := by decide +kernel
theorem dX8_addException_18 : decode cX8_addException 18 = .ok (.iconst 0, 1) := by decide +kernel
theorem dX8_addException_19 : decode cX8_addException 19 = .ok (.aload_n 0, 1) := by decide +kernel
theorem dX8_addException_20 : decode cX8_addException 20 = .ok (.getfield 21, 3) := by decide +kernel
theorem dX8_addException_23 : decode cX8_addException 23 = .ok (.getfield 70, 3) := by decide +kernel
theorem dX8_addException_26 : decode cX8_addException 26 = .ok (.invokevirtual 127, 3) := by decide +kernel
theorem dX8_addException_29 : decode cX8_addException 29 = .ok (.bipush (-5), 2) := by decide +kernel
theorem dX8_addException_31 : decode cX8_addException 31 = .ok (.if_icmp .eq 6, 3) := by decide +kernel
theorem dX8_addException_34 : decode cX8_addException 34 = .ok (.bipush (-4), 2) := by decide +kernel
theorem dX8_addException_36 : decode cX8_addException 36 = .ok (.ireturn, 1) := by decide +kernel
theorem dX8_addException_37 : decode cX8_addException 37 = .ok (.aload_n 0, 1) := by decide +kernel
theorem dX8_addException_38 : decode cX8_addException 38 = .ok (.getfield 131, 3) := by decide +kernel
theorem dX8_addException_41 : decode cX8_addException 41 = .ok (.bipush 10, 2) := by decide +kernel
theorem dX8_addException_43 : decode cX8_addException 43 = .ok (.if_icmp .lt 6, 3) := by decide +kernel
theorem dX8_addException_46 : decode cX8_addException 46 = .ok (.bipush (-3), 2) := by decide +kernel
theorem dX8_addException_48 : decode cX8_addException 48 = .ok (.ireturn, 1) := by decide +kernel
theorem dX8_addException_49 : decode cX8_addException 49 = .ok (.aload_n 0, 1) := by decide +kernel
theorem dX8_addException_50 : decode cX8_addException 50 = .ok (.getfield 39, 3) := by decide +kernel
theorem dX8_addException_53 : decode cX8_addException 53 = .ok (.aload_n 0, 1) := by decide +kernel
theorem dX8_addException_54 : decode cX8_addException 54 = .ok (.getfield 131, 3) := by decide +kernel
theorem dX8_addException_57 : decode cX8_addException 57 = .ok (.aaload, 1) := by decide +kernel
theorem dX8_addException_58 : decode cX8_addException 58 = .ok (.aload_n 0, 1) := by decide +kernel
theorem dX8_addException_59 : decode cX8_addException 59 = .ok (.getfield 21, 3) := by decide +kernel
theorem dX8_addException_62 : decode cX8_addException 62 = .ok (.iconst 0, 1) := by decide +kernel
theorem dX8_addException_63 : decode cX8_addException 63 = .ok (.aload_n 0, 1) := by decide +kernel
theorem dX8_addException_64 : decode cX8_addException 64 = .ok (.getfield 21, 3) := by decide +kernel
theorem dX8_addException_67 : decode cX8_addException 67 = .ok (.getfield 70, 3) := by decide +kernel
theorem dX8_addException_70 : decode cX8_addException 70 = .ok (.invokevirtual 101, 3) := by decide +kernel
theorem dX8_addException_73 : decode cX8_addException 73 = .ok (.aload_n 0, 1) := by decide +kernel
theorem dX8_addException_74 : decode cX8_addException 74 = .ok (.dup, 1) := by decide +kernel
theorem dX8_addException_75 : decode cX8_addException 75 = .ok (.getfield 131, 3) := by decide +kernel
theorem dX8_addException_78 : decode cX8_addException 78 = .ok (.iconst 1, 1) := by decide +kernel
theorem dX8_addException_79 : decode cX8_addException 79 = .ok (.iadd, 1) := by decide +kernel
theorem dX8_addException_80 : decode cX8_addException 80 = .ok (.putfield 131, 3) := by decide +kernel
theorem dX8_addException_83 : decode cX8_addException 83 = .ok (.aload_n 0, 1) := by decide +kernel
theorem dX8_addException_84 : decode cX8_addException 84 = .ok (.getfield 131, 3) := by decide +kernel
theorem dX8_addException_87 : decode cX8_addException 87 = .ok (.ireturn, 1) := by decide +kernel
set_option maxRecDepth 20000 in
theorem ggX8_removeException_X8_exceptionAt : GoodIn wsX8_removeException wsX8_exceptionAt := goodIn_r _ [9, 3, 4, 10, 11, 12, 13, 14, 15, 16, 17, 18, 19, 20, 21, 22, 23, 24, 25, 26, 27, 28, 29] (by decide +kernel) (by decide +kernel)
set_option maxRecDepth 20000 in
theorem gX8_removeException_X8_exceptionAt : GoodIn wsX8_removeException (wsV RX8 127 RX8 yX8_exceptionAt wsX8_exceptionAt) := goodIn_app (goodIn_of _ (by decide +kernel)) ggX8_removeException_X8_exceptionAt
theorem dX8_removeException_0 : decode cX8_removeException 0 = .ok (.aload_n 0, 1) := by decide +kernel
theorem dX8_removeException_1 : decode cX8_removeException 1 = .ok (.aload_n 0, 1) := by decide +kernel
theorem dX8_removeException_2 : decode cX8_removeException 2 = .ok (.getfield 21, 3) := by decide +kernel
theorem dX8_removeException_5 : decode cX8_removeException 5 = .ok (.iconst 0, 1) := by decide +kernel
theorem dX8_removeException_6 : decode cX8_removeException 6 = .ok (.aload_n 0, 1) := by decide +kernel
theorem dX8_removeException_7 : decode cX8_removeException 7 = .ok (.getfield 21, 3) := by decide +kernel
theorem dX8_removeException_10 : decode cX8_removeException 10 = .ok (.getfield 70, 3) := by decide +kernel
theorem dX8_removeException_13 : decode cX8_removeException 13 = .ok (.invokevirtual 127, 3) := by decide +kernel
theorem dX8_removeException_16 : decode cX8_removeException 16 = .ok (.istore_n 1, 1) := by decide +kernel
theorem dX8_removeException_17 : decode cX8_removeException 17 = .ok (.iload_n 1, 1) := by decide +kernel
theorem dX8_removeException_18 : decode cX8_removeException 18 = .ok (.bipush (-5), 2) := by decide +kernel
theorem dX8_removeException_20 : decode cX8_removeException 20 = .ok (.if_icmp .ne 6, 3) := by decide +kernel
theorem dX8_removeException_23 : decode cX8_removeException 23 = .ok (.bipush (-5), 2) := by decide +kernel
theorem dX8_removeException_25 : decode cX8_removeException 25 = .ok (.ireturn, 1) := by decide +kernel
theorem dX8_removeException_26 : decode cX8_removeException 26 = .ok (.aload_n 0, 1) := by decide +kernel
theorem dX8_removeException_27 : decode cX8_removeException 27 = .ok (.dup, 1) := by decide +kernel
theorem dX8_removeException_28 : decode cX8_removeException 28 = .ok (.getfield 131, 3) := by decide +kernel
theorem dX8_removeException_31 : decode cX8_removeException 31 = .ok (.iconst 1, 1) := by decide +kernel
theorem dX8_removeException_32 : decode cX8_removeException 32 = .ok (.isub, 1) := by decide +kernel
theorem dX8_removeException_33 : decode cX8_removeException 33 = .ok (.putfield 131, 3) := by decide +kernel
theorem dX8_removeException_36 : decode cX8_removeException 36 = .ok (.aload_n 0, 1) := by decide +kernel
theorem dX8_removeException_37 : decode cX8_removeException 37 = .ok (.getfield 39, 3) := by decide +kernel
theorem dX8_removeException_40 : decode cX8_removeException 40 = .ok (.iload_n 1, 1) := by decide +kernel
theorem dX8_removeException_41 : decode cX8_removeException 41 = .ok (.aaload, 1) := by decide +kernel
theorem dX8_removeException_42 : decode cX8_removeException 42 = .ok (.astore_n 2, 1) := by decide +kernel
theorem dX8_removeException_43 : decode cX8_removeException 43 = .ok (.aload_n 0, 1) := by decide +kernel
theorem dX8_removeException_44 : decode cX8_removeException 44 = .ok (.getfield 39, 3) := by decide +kernel
theorem dX8_removeException_47 : decode cX8_removeException 47 = .ok (.iload_n 1, 1) := by decide +kernel
theorem dX8_removeException_48 : decode cX8_removeException 48 = .ok (.aload_n 0, 1) := by decide +kernel
theorem dX8_removeException_49 : decode cX8_removeException 49 = .ok (.getfield 39, 3) := by decide +kernel
theorem dX8_removeException_52 : decode cX8_removeException 52 = .ok (.aload_n 0, 1) := by decide +kernel
theorem dX8_removeException_53 : decode cX8_removeException 53 = .ok (.getfield 131, 3) := by decide +kernel
theorem dX8_removeException_56 : decode cX8_removeException 56 = .ok (.aaload, 1) := by decide +kernel
theorem dX8_removeException_57 : decode cX8_removeException 57 = .ok (.aastore, 1) := by decide +kernel
theorem dX8_removeException_58 : decode cX8_removeException 58 = .ok (.aload_n 0, 1) := by decide +kernel
theorem dX8_removeException_59 : decode cX8_removeException 59 = .ok (.getfield 39, 3) := by decide +kernel
theorem dX8_removeException_62 : decode cX8_removeException 62 = .ok (.aload_n 0, 1) := by decide +kernel
theorem dX8_removeException_63 : decode cX8_removeException 63 = .ok (.getfield 131, 3) := by decide +kernel
theorem dX8_removeException_66 : decode cX8_removeException 66 = .ok (.aload_n 2, 1) := by decide +kernel
theorem dX8_removeException_67 : decode cX8_removeException 67 = .ok (.aastore, 1) := by decide +kernel
theorem dX8_removeException_68 : decode cX8_removeException 68 = .ok (.aload_n 0, 1) := by decide +kernel
theorem dX8_removeException_69 : decode cX8_removeException 69 = .ok (.getfield 131, 3) := by decide +kernel
theorem dX8_removeException_72 : decode cX8_removeException 72 = .ok (.ireturn, 1) := by decide +kernel
set_option maxRecDepth 20000 in
theorem ggX8_insert_X8_isPosition : GoodIn wsX8_insert wsX8_isPosition := goodIn_r _ [12, 1, 2, 3, 165, 166, 167, 168, 169, 170, 171, 172, 173, 174, 175] (by decide +kernel) (by decide +kernel)
set_option maxRecDepth 20000 in
theorem gX8_insert_X8_isPosition : GoodIn wsX8_insert (wsV RX8 113 RX8 yX8_isPosition wsX8_isPosition) := goodIn_app (goodIn_of _ (by decide +kernel)) ggX8_insert_X8_isPosition
set_option maxRecDepth 20000 in
theorem ggX8_insert_X8_isCharacter : GoodIn wsX8_insert wsX8_isCharacter := goodIn_r _ [15] (by decide +kernel) (by decide +kernel)
set_option maxRecDepth 20000 in
theorem gX8_insert_X8_isCharacter : GoodIn wsX8_insert (va_wsS RX8 50 yX8_isCharacter wsX8_isCharacter) := goodIn_app (goodIn_of _ (by decide +kernel)) ggX8_insert_X8_isCharacter
set_option maxRecDepth 20000 in
theorem ggX8_insert_X1_begin : GoodIn wsX8_insert wsX1_begin := goodIn_r _ [20, 21, 22, 23, 24, 25, 26, 27, 28, 29, 30, 19, 31, 32, 179, 180, 181, 182] (by decide +kernel) (by decide +kernel)
set_option maxRecDepth 20000 in
theorem gX8_insert_X1_begin : GoodIn wsX8_insert (wsV RX8 135 RX1 yX1_begin wsX1_begin) := goodIn_app (goodIn_of _ (by decide +kernel)) ggX8_insert_X1_begin
set_option maxRecDepth 20000 in
theorem ggX8_insert_X4_append : GoodIn wsX8_insert wsX4_append := goodIn_r _ [37, 38, 39, 174, 175] (by decide +kernel) (by decide +kernel)
set_option maxRecDepth 20000 in
theorem gX8_insert_X4_append : GoodIn wsX8_insert (wsV RX8 74 RX4 yX4_append wsX4_append) := goodIn_app (goodIn_of _ (by decide +kernel)) ggX8_insert_X4_append
set_option maxRecDepth 20000 in
theorem ggX8_insert_X8_carryOut : GoodIn wsX8_insert wsX8_carryOut := goodIn_r _ [43, 1, 2, 3, 6, 7, 44, 45, 46, 47, 36, 48, 38, 39, 49, 50, 51, 52, 53, 54, 55, 56, 57, 58, 59, 60, 61, 62, 63, 64, 65, 66, 67, 68, 69, 70, 71, 72, 73, 74, 75, 76, 77, 78, 79, 80, 81, 82, 83, 84, 85, 86, 87, 88, 89, 90, 91, 92, 93, 94, 95, 96, 97, 98, 99, 100, 101, 102, 103, 104, 105, 106, 107, 108, 109, 110, 111, 112, 113, 114, 115, 116, 117, 118, 119, 120, 121, 122, 123, 124, 125, 126, 127, 128, 129, 130, 131, 132, 133, 134, 135, 136, 137, 138, 139, 140, 141, 142, 143, 144, 145, 146, 147, 148, 149, 150, 151, 152, 11, 153, 154, 155, 156, 157, 158, 159, 160, 161, 162, 163, 164, 165, 166, 167, 168, 169, 170, 171, 172, 173, 174, 175, 176, 177, 178, 183, 184, 185, 186, 187, 188, 189, 190, 191, 192, 193, 194, 195, 196, 197, 198, 199] (by decide +kernel) (by decide +kernel)
set_option maxRecDepth 20000 in
theorem gX8_insert_X8_carryOut : GoodIn wsX8_insert (wsV RX8 149 RX8 yX8_carryOut wsX8_carryOut) := goodIn_app (goodIn_of _ (by decide +kernel)) ggX8_insert_X8_carryOut
theorem dX8_insert_0 : decode cX8_insert 0 = .ok (.aload_n 0, 1) := by decide +kernel
theorem dX8_insert_1 : decode cX8_insert 1 = .ok (.iload_n 1, 1) := by decide +kernel
theorem dX8_insert_2 : decode cX8_insert 2 = .ok (.invokevirtual 113, 3) := by decide +kernel
theorem dX8_insert_5 : decode cX8_insert 5 = .ok (.ifCond .ne 5, 3) := by decide +kernel
theorem dX8_insert_8 : decode cX8_insert 8 = .ok (.iconst (-1), 1) := by decide +kernel
theorem dX8_insert_9 : decode cX8_insert 9 = .ok (.ireturn, 1) := by decide +kernel
theorem dX8_insert_10 : decode cX8_insert 10 = .ok (.iload_n 2, 1) := by decide +kernel
theorem dX8_insert_11 : decode cX8_insert 11 = .ok (.invokestatic 50, 3) := by decide +kernel
theorem dX8_insert_14 : decode cX8_insert 14 = .ok (.ifCond .ne 6, 3) := by decide +kernel
theorem dX8_insert_17 : decode cX8_insert 17 = .ok (.bipush (-2), 2) := by decide +kernel
theorem dX8_insert_19 : decode cX8_insert 19 = .ok (.ireturn, 1) := by decide +kernel
theorem dX8_insert_20 : decode cX8_insert 20 = .ok (.aload_n 0, 1) := by decide +kernel
theorem dX8_insert_21 : decode cX8_insert 21 = .ok (.getfield 10, 3) := by decide +kernel
theorem dX8_insert_24 : decode cX8_insert 24 = .ok (.getfield 134, 3) := by decide +kernel
theorem dX8_insert_27 : decode cX8_insert 27 = .ok (.getfield 70, 3) := by decide +kernel
theorem dX8_insert_30 : decode cX8_insert 30 = .ok (.bipush 100, 2) := by decide +kernel
theorem dX8_insert_32 : decode cX8_insert 32 = .ok (.if_icmp .lt 6, 3) := by decide +kernel
theorem dX8_insert_35 : decode cX8_insert 35 = .ok (.bipush (-3), 2) := by decide +kernel
theorem dX8_insert_37 : decode cX8_insert 37 = .ok (.ireturn, 1) := by decide +kernel
theorem dX8_insert_38 : decode cX8_insert 38 = .ok (.aload_n 0, 1) := by decide +kernel
theorem dX8_insert_39 : decode cX8_insert 39 = .ok (.getfield 46, 3) := by decide +kernel
theorem dX8_insert_42 : decode cX8_insert 42 = .ok (.invokevirtual 135, 3) := by decide +kernel
theorem dX8_insert_45 : decode cX8_insert 45 = .ok (.astore_n 3, 1) := by decide +kernel
theorem dX8_insert_46 : decode cX8_insert 46 = .ok (.aload_n 3, 1) := by decide +kernel
theorem dX8_insert_47 : decode cX8_insert 47 = .ok (.iconst 1, 1) := by decide +kernel
theorem dX8_insert_48 : decode cX8_insert 48 = .ok (.putfield 139, 3) := by decide +kernel
theorem dX8_insert_51 : decode cX8_insert 51 = .ok (.aload_n 3, 1) := by decide +kernel
theorem dX8_insert_52 : decode cX8_insert 52 = .ok (.iload_n 1, 1) := by decide +kernel
theorem dX8_insert_53 : decode cX8_insert 53 = .ok (.putfield 145, 3) := by decide +kernel
theorem dX8_insert_56 : decode cX8_insert 56 = .ok (.aload_n 3, 1) := by decide +kernel
theorem dX8_insert_57 : decode cX8_insert 57 = .ok (.getfield 148, 3) := by decide +kernel
theorem dX8_insert_60 : decode cX8_insert 60 = .ok (.iconst 0, 1) := by decide +kernel
theorem dX8_insert_61 : decode cX8_insert 61 = .ok (.putfield 70, 3) := by decide +kernel
theorem dX8_insert_64 : decode cX8_insert 64 = .ok (.aload_n 3, 1) := by decide +kernel
theorem dX8_insert_65 : decode cX8_insert 65 = .ok (.getfield 148, 3) := by decide +kernel
theorem dX8_insert_68 : decode cX8_insert 68 = .ok (.iload_n 2, 1) := by decide +kernel
theorem dX8_insert_69 : decode cX8_insert 69 = .ok (.invokevirtual 74, 3) := by decide +kernel
theorem dX8_insert_72 : decode cX8_insert 72 = .ok (.aload_n 0, 1) := by decide +kernel
theorem dX8_insert_73 : decode cX8_insert 73 = .ok (.aload_n 3, 1) := by decide +kernel
theorem dX8_insert_74 : decode cX8_insert 74 = .ok (.iconst 1, 1) := by decide +kernel
theorem dX8_insert_75 : decode cX8_insert 75 = .ok (.invokevirtual 149, 3) := by decide +kernel
theorem dX8_insert_78 : decode cX8_insert 78 = .ok (.aload_n 0, 1) := by decide +kernel
theorem dX8_insert_79 : decode cX8_insert 79 = .ok (.getfield 10, 3) := by decide +kernel
theorem dX8_insert_82 : decode cX8_insert 82 = .ok (.getfield 134, 3) := by decide +kernel
theorem dX8_insert_85 : decode cX8_insert 85 = .ok (.getfield 70, 3) := by decide +kernel
theorem dX8_insert_88 : decode cX8_insert 88 = .ok (.ireturn, 1) := by decide +kernel
set_option maxRecDepth 20000 in
theorem ggX8_erase_X8_isPositionOfCharacter : GoodIn wsX8_erase wsX8_isPositionOfCharacter := goodIn_r _ [12, 1, 2, 3, 167, 168, 169, 170, 171, 172, 173, 174, 175, 176, 177] (by decide +kernel) (by decide +kernel)
set_option maxRecDepth 20000 in
theorem gX8_erase_X8_isPositionOfCharacter : GoodIn wsX8_erase (wsV RX8 153 RX8 yX8_isPositionOfCharacter wsX8_isPositionOfCharacter) := goodIn_app (goodIn_of _ (by decide +kernel)) ggX8_erase_X8_isPositionOfCharacter
set_option maxRecDepth 20000 in
theorem ggX8_erase_X1_begin : GoodIn wsX8_erase wsX1_begin := goodIn_r _ [17, 18, 19, 20, 21, 22, 23, 24, 25, 26, 27, 16, 28, 29, 181, 182, 183, 184] (by decide +kernel) (by decide +kernel)
set_option maxRecDepth 20000 in
theorem gX8_erase_X1_begin : GoodIn wsX8_erase (wsV RX8 135 RX1 yX1_begin wsX1_begin) := goodIn_app (goodIn_of _ (by decide +kernel)) ggX8_erase_X1_begin
set_option maxRecDepth 20000 in
theorem ggX8_erase_X4_become : GoodIn wsX8_erase wsX4_become := goodIn_r _ [34, 35, 36, 37, 38, 33, 39, 40, 41, 42, 43, 44, 176, 177] (by decide +kernel) (by decide +kernel)
set_option maxRecDepth 20000 in
theorem gX8_erase_X4_become : GoodIn wsX8_erase (wsV RX8 101 RX4 yX4_become wsX4_become) := goodIn_app (goodIn_of _ (by decide +kernel)) ggX8_erase_X4_become
set_option maxRecDepth 20000 in
theorem ggX8_erase_X8_carryOut : GoodIn wsX8_erase wsX8_carryOut := goodIn_r _ [48, 1, 2, 3, 6, 7, 49, 50, 51, 52, 33, 53, 35, 40, 54, 55, 56, 57, 58, 59, 60, 61, 62, 63, 64, 65, 66, 67, 68, 69, 70, 71, 72, 73, 74, 75, 76, 77, 78, 79, 80, 81, 82, 83, 84, 85, 86, 87, 88, 89, 90, 91, 92, 93, 94, 95, 96, 97, 98, 99, 100, 101, 102, 103, 104, 105, 106, 107, 108, 109, 110, 111, 112, 113, 114, 115, 116, 117, 118, 119, 120, 121, 122, 123, 124, 125, 126, 127, 128, 129, 130, 131, 132, 133, 134, 135, 136, 137, 138, 139, 140, 141, 142, 143, 37, 38, 39, 144, 145, 146, 147, 148, 149, 150, 151, 152, 153, 154, 11, 155, 156, 157, 158, 159, 160, 161, 162, 163, 164, 165, 166, 167, 168, 169, 170, 171, 172, 173, 174, 175, 176, 177, 178, 179, 180, 185, 186, 187, 188, 189, 190, 191, 192, 193, 194, 195, 196, 197, 198, 199, 200, 201] (by decide +kernel) (by decide +kernel)
set_option maxRecDepth 20000 in
theorem gX8_erase_X8_carryOut : GoodIn wsX8_erase (wsV RX8 149 RX8 yX8_carryOut wsX8_carryOut) := goodIn_app (goodIn_of _ (by decide +kernel)) ggX8_erase_X8_carryOut
theorem dX8_erase_0 : decode cX8_erase 0 = .ok (.aload_n 0, 1) := by decide +kernel
theorem dX8_erase_1 : decode cX8_erase 1 = .ok (.iload_n 1, 1) := by decide +kernel
theorem dX8_erase_2 : decode cX8_erase 2 = .ok (.invokevirtual 153, 3) := by decide +kernel
theorem dX8_erase_5 : decode cX8_erase 5 = .ok (.ifCond .ne 5, 3) := by decide +kernel
theorem dX8_erase_8 : decode cX8_erase 8 = .ok (.iconst (-1), 1) := by decide +kernel
theorem dX8_erase_9 : decode cX8_erase 9 = .ok (.ireturn, 1) := by decide +kernel
theorem dX8_erase_10 : decode cX8_erase 10 = .ok (.iload_n 2, 1) := by decide +kernel
theorem dX8_erase_11 : decode cX8_erase 11 = .ok (.iconst 1, 1) := by decide +kernel
theorem dX8_erase_12 : decode cX8_erase 12 = .ok (.if_icmp .lt 19, 3) := by decide +kernel
theorem dX8_erase_15 : decode cX8_erase 15 = .ok (.iload_n 2, 1) := by decide +kernel
theorem dX8_erase_16 : decode cX8_erase 16 = .ok (.aload_n 0, 1) := by decide +kernel
theorem dX8_erase_17 : decode cX8_erase 17 = .ok (.getfield 10, 3) := by decide +kernel
theorem dX8_erase_20 : decode cX8_erase 20 = .ok (.getfield 134, 3) := by decide +kernel
theorem dX8_erase_23 : decode cX8_erase 23 = .ok (.getfield 70, 3) := by decide +kernel
theorem dX8_erase_26 : decode cX8_erase 26 = .ok (.iload_n 1, 1) := by decide +kernel
theorem dX8_erase_27 : decode cX8_erase 27 = .ok (.isub, 1) := by decide +kernel
theorem dX8_erase_28 : decode cX8_erase 28 = .ok (.if_icmp .le 6, 3) := by decide +kernel
theorem dX8_erase_31 : decode cX8_erase 31 = .ok (.bipush (-2), 2) := by decide +kernel
theorem dX8_erase_33 : decode cX8_erase 33 = .ok (.ireturn, 1) := by decide +kernel
theorem dX8_erase_34 : decode cX8_erase 34 = .ok (.aload_n 0, 1) := by decide +kernel
theorem dX8_erase_35 : decode cX8_erase 35 = .ok (.getfield 46, 3) := by decide +kernel
theorem dX8_erase_38 : decode cX8_erase 38 = .ok (.invokevirtual 135, 3) := by decide +kernel
theorem dX8_erase_41 : decode cX8_erase 41 = .ok (.astore_n 3, 1) := by decide +kernel
theorem dX8_erase_42 : decode cX8_erase 42 = .ok (.aload_n 3, 1) := by decide +kernel
theorem dX8_erase_43 : decode cX8_erase 43 = .ok (.iconst 0, 1) := by decide +kernel
theorem dX8_erase_44 : decode cX8_erase 44 = .ok (.putfield 139, 3) := by decide +kernel
theorem dX8_erase_47 : decode cX8_erase 47 = .ok (.aload_n 3, 1) := by decide +kernel
theorem dX8_erase_48 : decode cX8_erase 48 = .ok (.iload_n 1, 1) := by decide +kernel
theorem dX8_erase_49 : decode cX8_erase 49 = .ok (.putfield 145, 3) := by decide +kernel
theorem dX8_erase_52 : decode cX8_erase 52 = .ok (.aload_n 3, 1) := by decide +kernel
theorem dX8_erase_53 : decode cX8_erase 53 = .ok (.getfield 148, 3) := by decide +kernel
theorem dX8_erase_56 : decode cX8_erase 56 = .ok (.aload_n 0, 1) := by decide +kernel
theorem dX8_erase_57 : decode cX8_erase 57 = .ok (.getfield 10, 3) := by decide +kernel
theorem dX8_erase_60 : decode cX8_erase 60 = .ok (.getfield 134, 3) := by decide +kernel
theorem dX8_erase_63 : decode cX8_erase 63 = .ok (.iload_n 1, 1) := by decide +kernel
theorem dX8_erase_64 : decode cX8_erase 64 = .ok (.iload_n 2, 1) := by decide +kernel
theorem dX8_erase_65 : decode cX8_erase 65 = .ok (.invokevirtual 101, 3) := by decide +kernel
theorem dX8_erase_68 : decode cX8_erase 68 = .ok (.aload_n 0, 1) := by decide +kernel
theorem dX8_erase_69 : decode cX8_erase 69 = .ok (.aload_n 3, 1) := by decide +kernel
theorem dX8_erase_70 : decode cX8_erase 70 = .ok (.iconst 0, 1) := by decide +kernel
theorem dX8_erase_71 : decode cX8_erase 71 = .ok (.invokevirtual 149, 3) := by decide +kernel
theorem dX8_erase_74 : decode cX8_erase 74 = .ok (.aload_n 0, 1) := by decide +kernel
theorem dX8_erase_75 : decode cX8_erase 75 = .ok (.getfield 10, 3) := by decide +kernel
theorem dX8_erase_78 : decode cX8_erase 78 = .ok (.getfield 134, 3) := by decide +kernel
theorem dX8_erase_81 : decode cX8_erase 81 = .ok (.getfield 70, 3) := by decide +kernel
theorem dX8_erase_84 : decode cX8_erase 84 = .ok (.ireturn, 1) := by decide +kernel
set_option maxRecDepth 20000 in
theorem ggX8_undo_X1_stepBack : GoodIn wsX8_undo wsX1_stepBack := goodIn_r _ [8, 9, 10, 11, 12, 13, 7, 14, 15, 16, 17, 18, 19, 20, 162, 163, 164, 165] (by decide +kernel) (by decide +kernel)
set_option maxRecDepth 20000 in
theorem gX8_undo_X1_stepBack : GoodIn wsX8_undo (wsV RX8 159 RX1 yX1_stepBack wsX1_stepBack) := goodIn_app (goodIn_of _ (by decide +kernel)) ggX8_undo_X1_stepBack
set_option maxRecDepth 20000 in
theorem ggX8_undo_X8_carryOut : GoodIn wsX8_undo wsX8_carryOut := goodIn_r _ [25, 26, 27, 28, 29, 30, 31, 32, 33, 34, 35, 36, 37, 38, 39, 40, 41, 42, 43, 44, 45, 46, 47, 48, 49, 50, 51, 52, 53, 54, 55, 56, 57, 58, 59, 60, 61, 62, 63, 64, 65, 66, 67, 68, 69, 70, 71, 72, 73, 74, 75, 76, 77, 78, 79, 80, 81, 82, 83, 84, 85, 86, 87, 88, 89, 90, 91, 92, 93, 94, 95, 96, 97, 98, 99, 100, 101, 102, 103, 104, 105, 106, 107, 108, 109, 110, 111, 112, 113, 114, 115, 116, 117, 118, 119, 120, 121, 122, 123, 124, 125, 126, 127, 128, 129, 130, 131, 132, 133, 134, 135, 136, 137, 138, 139, 140, 141, 142, 24, 143, 144, 145, 146, 147, 148, 149, 150, 151, 152, 153, 154, 155, 156, 157, 158, 159, 160, 161, 169, 170, 171, 172, 166, 167, 168, 173, 174, 175, 176, 177, 178, 179, 180, 181, 182, 183, 184, 185, 186, 187, 188, 189] (by decide +kernel) (by decide +kernel)
set_option maxRecDepth 20000 in
theorem gX8_undo_X8_carryOut : GoodIn wsX8_undo (wsV RX8 149 RX8 yX8_carryOut wsX8_carryOut) := goodIn_app (goodIn_of _ (by decide +kernel)) ggX8_undo_X8_carryOut
theorem dX8_undo_0 : decode cX8_undo 0 = .ok (.aload_n 0, 1) := by decide +kernel
theorem dX8_undo_1 : decode cX8_undo 1 = .ok (.getfield 46, 3) := by decide +kernel
theorem dX8_undo_4 : decode cX8_undo 4 = .ok (.getfield 156, 3) := by decide +kernel
theorem dX8_undo_7 : decode cX8_undo 7 = .ok (.ifCond .gt 6, 3) := by decide +kernel
theorem dX8_undo_10 : decode cX8_undo 10 = .ok (.bipush (-5), 2) := by decide +kernel
theorem dX8_undo_12 : decode cX8_undo 12 = .ok (.ireturn, 1) := by decide +kernel
theorem dX8_undo_13 : decode cX8_undo 13 = .ok (.aload_n 0, 1) := by decide +kernel
theorem dX8_undo_14 : decode cX8_undo 14 = .ok (.getfield 46, 3) := by decide +kernel
theorem dX8_undo_17 : decode cX8_undo 17 = .ok (.invokevirtual 159, 3) := by decide +kernel
theorem dX8_undo_20 : decode cX8_undo 20 = .ok (.astore_n 1, 1) := by decide +kernel
theorem dX8_undo_21 : decode cX8_undo 21 = .ok (.aload_n 0, 1) := by decide +kernel
theorem dX8_undo_22 : decode cX8_undo 22 = .ok (.aload_n 1, 1) := by decide +kernel
theorem dX8_undo_23 : decode cX8_undo 23 = .ok (.aload_n 1, 1) := by decide +kernel
theorem dX8_undo_24 : decode cX8_undo 24 = .ok (.getfield 139, 3) := by decide +kernel
theorem dX8_undo_27 : decode cX8_undo 27 = .ok (.ifCond .ne 7, 3) := by decide +kernel
theorem dX8_undo_30 : decode cX8_undo 30 = .ok (.iconst 1, 1) := by decide +kernel
theorem dX8_undo_31 : decode cX8_undo 31 = .ok (.goto 4, 3) := by decide +kernel
theorem dX8_undo_34 : decode cX8_undo 34 = .ok (.iconst 0, 1) := by decide +kernel
theorem dX8_undo_35 : decode cX8_undo 35 = .ok (.invokevirtual 149, 3) := by decide +kernel
theorem dX8_undo_38 : decode cX8_undo 38 = .ok (.aload_n 0, 1) := by decide +kernel
theorem dX8_undo_39 : decode cX8_undo 39 = .ok (.getfield 46, 3) := by decide +kernel
theorem dX8_undo_42 : decode cX8_undo 42 = .ok (.getfield 156, 3) := by decide +kernel
theorem dX8_undo_45 : decode cX8_undo 45 = .ok (.ireturn, 1) := by decide +kernel
set_option maxRecDepth 20000 in
theorem ggX8_redo_X1_stepForward : GoodIn wsX8_redo wsX1_stepForward := goodIn_r _ [8, 9, 10, 11, 12, 13, 7, 14, 15, 16, 17, 18, 19, 20, 162, 163, 164, 165] (by decide +kernel) (by decide +kernel)
set_option maxRecDepth 20000 in
theorem gX8_redo_X1_stepForward : GoodIn wsX8_redo (wsV RX8 165 RX1 yX1_stepForward wsX1_stepForward) := goodIn_app (goodIn_of _ (by decide +kernel)) ggX8_redo_X1_stepForward
set_option maxRecDepth 20000 in
theorem ggX8_redo_X8_carryOut : GoodIn wsX8_redo wsX8_carryOut := goodIn_r _ [25, 26, 27, 28, 29, 30, 31, 32, 33, 34, 35, 36, 37, 38, 39, 40, 41, 42, 43, 44, 45, 46, 47, 48, 49, 50, 51, 52, 53, 54, 55, 56, 57, 58, 59, 60, 61, 62, 63, 64, 65, 66, 67, 68, 69, 70, 71, 72, 73, 74, 75, 76, 77, 78, 79, 80, 81, 82, 83, 84, 85, 86, 87, 88, 89, 90, 91, 92, 93, 94, 95, 96, 97, 98, 99, 100, 101, 102, 103, 104, 105, 106, 107, 108, 109, 110, 111, 112, 113, 114, 115, 116, 117, 118, 119, 120, 121, 122, 123, 124, 125, 126, 127, 128, 129, 130, 131, 132, 133, 134, 135, 136, 137, 138, 139, 140, 141, 142, 24, 143, 144, 145, 146, 147, 148, 149, 150, 151, 152, 153, 154, 155, 156, 157, 158, 159, 160, 161, 169, 170, 171, 172, 166, 167, 168, 173, 174, 175, 176, 177, 178, 179, 180, 181, 182, 183, 184, 185, 186, 187, 188, 189] (by decide +kernel) (by decide +kernel)
set_option maxRecDepth 20000 in
theorem gX8_redo_X8_carryOut : GoodIn wsX8_redo (wsV RX8 149 RX8 yX8_carryOut wsX8_carryOut) := goodIn_app (goodIn_of _ (by decide +kernel)) ggX8_redo_X8_carryOut
theorem dX8_redo_0 : decode cX8_redo 0 = .ok (.aload_n 0, 1) := by decide +kernel
theorem dX8_redo_1 : decode cX8_redo 1 = .ok (.getfield 46, 3) := by decide +kernel
theorem dX8_redo_4 : decode cX8_redo 4 = .ok (.getfield 162, 3) := by decide +kernel
theorem dX8_redo_7 : decode cX8_redo 7 = .ok (.ifCond .gt 6, 3) := by decide +kernel
theorem dX8_redo_10 : decode cX8_redo 10 = .ok (.bipush (-5), 2) := by decide +kernel
theorem dX8_redo_12 : decode cX8_redo 12 = .ok (.ireturn, 1) := by decide +kernel
theorem dX8_redo_13 : decode cX8_redo 13 = .ok (.aload_n 0, 1) := by decide +kernel
theorem dX8_redo_14 : decode cX8_redo 14 = .ok (.getfield 46, 3) := by decide +kernel
theorem dX8_redo_17 : decode cX8_redo 17 = .ok (.invokevirtual 165, 3) := by decide +kernel
theorem dX8_redo_20 : decode cX8_redo 20 = .ok (.astore_n 1, 1) := by decide +kernel
theorem dX8_redo_21 : decode cX8_redo 21 = .ok (.aload_n 0, 1) := by decide +kernel
theorem dX8_redo_22 : decode cX8_redo 22 = .ok (.aload_n 1, 1) := by decide +kernel
theorem dX8_redo_23 : decode cX8_redo 23 = .ok (.aload_n 1, 1) := by decide +kernel
theorem dX8_redo_24 : decode cX8_redo 24 = .ok (.getfield 139, 3) := by decide +kernel
theorem dX8_redo_27 : decode cX8_redo 27 = .ok (.invokevirtual 149, 3) := by decide +kernel
theorem dX8_redo_30 : decode cX8_redo 30 = .ok (.aload_n 0, 1) := by decide +kernel
theorem dX8_redo_31 : decode cX8_redo 31 = .ok (.getfield 46, 3) := by decide +kernel
theorem dX8_redo_34 : decode cX8_redo 34 = .ok (.getfield 162, 3) := by decide +kernel
theorem dX8_redo_37 : decode cX8_redo 37 = .ok (.ireturn, 1) := by decide +kernel
set_option maxRecDepth 20000 in
theorem ggX8_charAt_X8_isPositionOfCharacter : GoodIn wsX8_charAt wsX8_isPositionOfCharacter := goodIn_r _ [7, 1, 2, 8, 16, 17, 18, 19, 20, 21, 22, 23, 24, 25, 26] (by decide +kernel) (by decide +kernel)
set_option maxRecDepth 20000 in
theorem gX8_charAt_X8_isPositionOfCharacter : GoodIn wsX8_charAt (wsV RX8 153 RX8 yX8_isPositionOfCharacter wsX8_isPositionOfCharacter) := goodIn_app (goodIn_of _ (by decide +kernel)) ggX8_charAt_X8_isPositionOfCharacter
set_option maxRecDepth 20000 in
theorem ggX8_charAt_X4_at : GoodIn wsX8_charAt wsX4_at := goodIn_r _ [13, 14, 15, 25, 26] (by decide +kernel) (by decide +kernel)
set_option maxRecDepth 20000 in
theorem gX8_charAt_X4_at : GoodIn wsX8_charAt (wsV RX8 109 RX4 yX4_at wsX4_at) := goodIn_app (goodIn_of _ (by decide +kernel)) ggX8_charAt_X4_at
theorem dX8_charAt_0 : decode cX8_charAt 0 = .ok (.aload_n 0, 1) := by decide +kernel
theorem dX8_charAt_1 : decode cX8_charAt 1 = .ok (.iload_n 1, 1) := by decide +kernel
theorem dX8_charAt_2 : decode cX8_charAt 2 = .ok (.invokevirtual 153, 3) := by decide +kernel
theorem dX8_charAt_5 : decode cX8_charAt 5 = .ok (.ifCond .eq 17, 3) := by decide +kernel
theorem dX8_charAt_8 : decode cX8_charAt 8 = .ok (.aload_n 0, 1) := by decide +kernel
theorem dX8_charAt_9 : decode cX8_charAt 9 = .ok (.getfield 10, 3) := by decide +kernel
theorem dX8_charAt_12 : decode cX8_charAt 12 = .ok (.getfield 134, 3) := by decide +kernel
theorem dX8_charAt_15 : decode cX8_charAt 15 = .ok (.iload_n 1, 1) := by decide +kernel
theorem dX8_charAt_16 : decode cX8_charAt 16 = .ok (.invokevirtual 109, 3) := by decide +kernel
theorem dX8_charAt_19 : decode cX8_charAt 19 = .ok (.goto 4, 3) := by decide +kernel
theorem dX8_charAt_22 : decode cX8_charAt 22 = .ok (.iconst (-1), 1) := by decide +kernel
theorem dX8_charAt_23 : decode cX8_charAt 23 = .ok (.ireturn, 1) := by decide +kernel
theorem dX8_value_0 : decode cX8_value 0 = .ok (.iload_n 1, 1) := by decide +kernel
theorem dX8_value_1 : decode cX8_value 1 = .ok (.tableswitch 75 0 4 #[35, 46, 54, 59, 67], 35) := by decide +kernel
theorem dX8_value_36 : decode cX8_value 36 = .ok (.aload_n 0, 1) := by decide +kernel
theorem dX8_value_37 : decode cX8_value 37 = .ok (.getfield 10, 3) := by decide +kernel
theorem dX8_value_40 : decode cX8_value 40 = .ok (.getfield 134, 3) := by decide +kernel
theorem dX8_value_43 : decode cX8_value 43 = .ok (.getfield 70, 3) := by decide +kernel
theorem dX8_value_46 : decode cX8_value 46 = .ok (.ireturn, 1) := by decide +kernel
theorem dX8_value_47 : decode cX8_value 47 = .ok (.aload_n 0, 1) := by decide +kernel
theorem dX8_value_48 : decode cX8_value 48 = .ok (.getfield 21, 3) := by decide +kernel
theorem dX8_value_51 : decode cX8_value 51 = .ok (.getfield 70, 3) := by decide +kernel
theorem dX8_value_54 : decode cX8_value 54 = .ok (.ireturn, 1) := by decide +kernel
theorem dX8_value_55 : decode cX8_value 55 = .ok (.aload_n 0, 1) := by decide +kernel
