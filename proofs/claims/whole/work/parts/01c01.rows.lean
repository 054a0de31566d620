set_option maxRecDepth 20000 in
theorem gX5_walk_X5_beginAhead : GoodIn wsX5_walk (wsV RX5 67 RX5 yX5_beginAhead wsX5_beginAhead) := goodIn_app (goodIn_of _ (by decide +kernel)) ggX5_walk_X5_beginAhead
set_option maxRecDepth 20000 in
theorem ggX5_walk_X7_classAt : GoodIn wsX5_walk wsX7_classAt := goodIn_r _ [27, 28, 29, 30, 31, 32, 33, 34, 35, 36, 37, 38, 26, 39, 40, 75, 76, 77, 78] (by decide +kernel) (by decide +kernel)
set_option maxRecDepth 20000 in
theorem gX5_walk_X7_classAt : GoodIn wsX5_walk (wsV RX5 73 RX7 yX7_classAt wsX7_classAt) := goodIn_app (goodIn_of _ (by decide +kernel)) ggX5_walk_X7_classAt
set_option maxRecDepth 20000 in
theorem ggX5_walk_X5_takersOf : GoodIn wsX5_walk wsX5_takersOf := goodIn_r _ [44, 45, 46, 47, 48, 63, 64, 65, 66, 67, 68, 69, 70, 71] (by decide +kernel) (by decide +kernel)
set_option maxRecDepth 20000 in
theorem gX5_walk_X5_takersOf : GoodIn wsX5_walk (wsV RX5 77 RX5 yX5_takersOf wsX5_takersOf) := goodIn_app (goodIn_of _ (by decide +kernel)) ggX5_walk_X5_takersOf
set_option maxRecDepth 20000 in
theorem ggX5_walk_X5_followersOf : GoodIn wsX5_walk wsX5_followersOf := goodIn_r _ [52, 53, 63, 64, 65, 66, 67, 68, 69, 70, 71] (by decide +kernel) (by decide +kernel)
set_option maxRecDepth 20000 in
theorem gX5_walk_X5_followersOf : GoodIn wsX5_walk (wsV RX5 80 RX5 yX5_followersOf wsX5_followersOf) := goodIn_app (goodIn_of _ (by decide +kernel)) ggX5_walk_X5_followersOf
set_option maxRecDepth 20000 in
theorem ggX5_walk_X5_stepAhead : GoodIn wsX5_walk wsX5_stepAhead := goodIn_r _ [57, 19, 4, 58, 2, 8, 1, 59, 60, 61, 62, 53, 10, 11, 12, 13, 20, 21, 17, 22, 63, 64, 65, 66, 67, 68, 69, 70, 71, 72, 73, 74] (by decide +kernel) (by decide +kernel)
set_option maxRecDepth 20000 in
theorem gX5_walk_X5_stepAhead : GoodIn wsX5_walk (wsV RX5 83 RX5 yX5_stepAhead wsX5_stepAhead) := goodIn_app (goodIn_of _ (by decide +kernel)) ggX5_walk_X5_stepAhead
theorem dX5_walk_0 : decode cX5_walk 0 = .ok (.aload_n 0, 1) := by decide +kernel
theorem dX5_walk_1 : decode cX5_walk 1 = .ok (.iconst 0, 1) := by decide +kernel
theorem dX5_walk_2 : decode cX5_walk 2 = .ok (.putfield 51, 3) := by decide +kernel
theorem dX5_walk_5 : decode cX5_walk 5 = .ok (.aload_n 0, 1) := by decide +kernel
theorem dX5_walk_6 : decode cX5_walk 6 = .ok (.getfield 37, 3) := by decide +kernel
theorem dX5_walk_9 : decode cX5_walk 9 = .ok (.iconst (-1), 1) := by decide +kernel
theorem dX5_walk_10 : decode cX5_walk 10 = .ok (.invokestatic 54, 3) := by decide +kernel
theorem dX5_walk_13 : decode cX5_walk 13 = .ok (.aload_n 0, 1) := by decide +kernel
theorem dX5_walk_14 : decode cX5_walk 14 = .ok (.getfield 23, 3) := by decide +kernel
theorem dX5_walk_17 : decode cX5_walk 17 = .ok (.getfield 60, 3) := by decide +kernel
theorem dX5_walk_20 : decode cX5_walk 20 = .ok (.istore_n 3, 1) := by decide +kernel
theorem dX5_walk_21 : decode cX5_walk 21 = .ok (.aload_n 0, 1) := by decide +kernel
theorem dX5_walk_22 : decode cX5_walk 22 = .ok (.getfield 23, 3) := by decide +kernel
theorem dX5_walk_25 : decode cX5_walk 25 = .ok (.getfield 63, 3) := by decide +kernel
theorem dX5_walk_28 : decode cX5_walk 28 = .ok (.ifCond .eq 8, 3) := by decide +kernel
theorem dX5_walk_31 : decode cX5_walk 31 = .ok (.aload_n 0, 1) := by decide +kernel
theorem dX5_walk_32 : decode cX5_walk 32 = .ok (.iconst 0, 1) := by decide +kernel
theorem dX5_walk_33 : decode cX5_walk 33 = .ok (.invokevirtual 67, 3) := by decide +kernel
theorem dX5_walk_36 : decode cX5_walk 36 = .ok (.iconst 1, 1) := by decide +kernel
theorem dX5_walk_37 : decode cX5_walk 37 = .ok (.istore 4, 2) := by decide +kernel
theorem dX5_walk_39 : decode cX5_walk 39 = .ok (.iload_n 2, 1) := by decide +kernel
theorem dX5_walk_40 : decode cX5_walk 40 = .ok (.istore 5, 2) := by decide +kernel
theorem dX5_walk_42 : decode cX5_walk 42 = .ok (.aload_n 1, 1) := by decide +kernel
theorem dX5_walk_43 : decode cX5_walk 43 = .ok (.getfield 70, 3) := by decide +kernel
theorem dX5_walk_46 : decode cX5_walk 46 = .ok (.getfield 43, 3) := by decide +kernel
theorem dX5_walk_49 : decode cX5_walk 49 = .ok (.istore 6, 2) := by decide +kernel
theorem dX5_walk_51 : decode cX5_walk 51 = .ok (.iload 4, 2) := by decide +kernel
theorem dX5_walk_53 : decode cX5_walk 53 = .ok (.ifCond .eq 83, 3) := by decide +kernel
theorem dX5_walk_56 : decode cX5_walk 56 = .ok (.iload 5, 2) := by decide +kernel
theorem dX5_walk_58 : decode cX5_walk 58 = .ok (.iload 6, 2) := by decide +kernel
theorem dX5_walk_60 : decode cX5_walk 60 = .ok (.if_icmp .ge 76, 3) := by decide +kernel
theorem dX5_walk_63 : decode cX5_walk 63 = .ok (.aload_n 0, 1) := by decide +kernel
theorem dX5_walk_64 : decode cX5_walk 64 = .ok (.aload_n 1, 1) := by decide +kernel
theorem dX5_walk_65 : decode cX5_walk 65 = .ok (.iload 5, 2) := by decide +kernel
theorem dX5_walk_67 : decode cX5_walk 67 = .ok (.invokevirtual 73, 3) := by decide +kernel
theorem dX5_walk_70 : decode cX5_walk 70 = .ok (.invokevirtual 77, 3) := by decide +kernel
theorem dX5_walk_73 : decode cX5_walk 73 = .ok (.istore 7, 2) := by decide +kernel
theorem dX5_walk_75 : decode cX5_walk 75 = .ok (.iinc 5 1, 3) := by decide +kernel
theorem dX5_walk_78 : decode cX5_walk 78 = .ok (.iload_n 3, 1) := by decide +kernel
theorem dX5_walk_79 : decode cX5_walk 79 = .ok (.iload 7, 2) := by decide +kernel
theorem dX5_walk_81 : decode cX5_walk 81 = .ok (.iand, 1) := by decide +kernel
theorem dX5_walk_82 : decode cX5_walk 82 = .ok (.istore 8, 2) := by decide +kernel
theorem dX5_walk_84 : decode cX5_walk 84 = .ok (.aload_n 0, 1) := by decide +kernel
theorem dX5_walk_85 : decode cX5_walk 85 = .ok (.iload 8, 2) := by decide +kernel
theorem dX5_walk_87 : decode cX5_walk 87 = .ok (.invokevirtual 80, 3) := by decide +kernel
theorem dX5_walk_90 : decode cX5_walk 90 = .ok (.istore_n 3, 1) := by decide +kernel
theorem dX5_walk_91 : decode cX5_walk 91 = .ok (.aload_n 0, 1) := by decide +kernel
theorem dX5_walk_92 : decode cX5_walk 92 = .ok (.iload 7, 2) := by decide +kernel
theorem dX5_walk_94 : decode cX5_walk 94 = .ok (.invokevirtual 83, 3) := by decide +kernel
theorem dX5_walk_97 : decode cX5_walk 97 = .ok (.ifCond .ne 8, 3) := by decide +kernel
theorem dX5_walk_100 : decode cX5_walk 100 = .ok (.iload 8, 2) := by decide +kernel
theorem dX5_walk_102 : decode cX5_walk 102 = .ok (.ifCond .eq 7, 3) := by decide +kernel
theorem dX5_walk_105 : decode cX5_walk 105 = .ok (.iconst 1, 1) := by decide +kernel
theorem dX5_walk_106 : decode cX5_walk 106 = .ok (.goto 4, 3) := by decide +kernel
theorem dX5_walk_109 : decode cX5_walk 109 = .ok (.iconst 0, 1) := by decide +kernel
theorem dX5_walk_110 : decode cX5_walk 110 = .ok (.istore 4, 2) := by decide +kernel
theorem dX5_walk_112 : decode cX5_walk 112 = .ok (.iload 8, 2) := by decide +kernel
theorem dX5_walk_114 : decode cX5_walk 114 = .ok (.aload_n 0, 1) := by decide +kernel
theorem dX5_walk_115 : decode cX5_walk 115 = .ok (.getfield 23, 3) := by decide +kernel
theorem dX5_walk_118 : decode cX5_walk 118 = .ok (.getfield 86, 3) := by decide +kernel
theorem dX5_walk_121 : decode cX5_walk 121 = .ok (.iand, 1) := by decide +kernel
theorem dX5_walk_122 : decode cX5_walk 122 = .ok (.ifCond .eq 11, 3) := by decide +kernel
theorem dX5_walk_125 : decode cX5_walk 125 = .ok (.aload_n 0, 1) := by decide +kernel
theorem dX5_walk_126 : decode cX5_walk 126 = .ok (.iload 5, 2) := by decide +kernel
theorem dX5_walk_128 : decode cX5_walk 128 = .ok (.iload_n 2, 1) := by decide +kernel
theorem dX5_walk_129 : decode cX5_walk 129 = .ok (.isub, 1) := by decide +kernel
theorem dX5_walk_130 : decode cX5_walk 130 = .ok (.invokevirtual 67, 3) := by decide +kernel
theorem dX5_walk_133 : decode cX5_walk 133 = .ok (.goto (-82), 3) := by decide +kernel
theorem dX5_walk_136 : decode cX5_walk 136 = .ok (.aload_n 0, 1) := by decide +kernel
theorem dX5_walk_137 : decode cX5_walk 137 = .ok (.iload 4, 2) := by decide +kernel
theorem dX5_walk_139 : decode cX5_walk 139 = .ok (.ifCond .eq 12, 3) := by decide +kernel
theorem dX5_walk_142 : decode cX5_walk 142 = .ok (.iload 5, 2) := by decide +kernel
theorem dX5_walk_144 : decode cX5_walk 144 = .ok (.iload_n 2, 1) := by decide +kernel
theorem dX5_walk_145 : decode cX5_walk 145 = .ok (.isub, 1) := by decide +kernel
theorem dX5_walk_146 : decode cX5_walk 146 = .ok (.iconst 1, 1) := by decide +kernel
theorem dX5_walk_147 : decode cX5_walk 147 = .ok (.iadd, 1) := by decide +kernel
theorem dX5_walk_148 : decode cX5_walk 148 = .ok (.goto 7, 3) := by decide +kernel
theorem dX5_walk_151 : decode cX5_walk 151 = .ok (.iload 5, 2) := by decide +kernel
theorem dX5_walk_153 : decode cX5_walk 153 = .ok (.iload_n 2, 1) := by decide +kernel
theorem dX5_walk_154 : decode cX5_walk 154 = .ok (.isub, 1) := by decide +kernel
theorem dX5_walk_155 : decode cX5_walk 155 = .ok (.putfield 89, 3) := by decide +kernel
theorem dX5_walk_158 : decode cX5_walk 158 = .ok (.return_, 1) := by decide +kernel
theorem dX5_followersOf_0 : decode cX5_followersOf 0 = .ok (.iconst 0, 1) := by decide +kernel
theorem dX5_followersOf_1 : decode cX5_followersOf 1 = .ok (.istore_n 2, 1) := by decide +kernel
theorem dX5_followersOf_2 : decode cX5_followersOf 2 = .ok (.iconst 0, 1) := by decide +kernel
theorem dX5_followersOf_3 : decode cX5_followersOf 3 = .ok (.istore_n 3, 1) := by decide +kernel
theorem dX5_followersOf_4 : decode cX5_followersOf 4 = .ok (.iload_n 3, 1) := by decide +kernel
theorem dX5_followersOf_5 : decode cX5_followersOf 5 = .ok (.bipush 24, 2) := by decide +kernel
theorem dX5_followersOf_7 : decode cX5_followersOf 7 = .ok (.if_icmp .ge 32, 3) := by decide +kernel
theorem dX5_followersOf_10 : decode cX5_followersOf 10 = .ok (.iload_n 1, 1) := by decide +kernel
theorem dX5_followersOf_11 : decode cX5_followersOf 11 = .ok (.iload_n 3, 1) := by decide +kernel
theorem dX5_followersOf_12 : decode cX5_followersOf 12 = .ok (.ishr, 1) := by decide +kernel
theorem dX5_followersOf_13 : decode cX5_followersOf 13 = .ok (.ifCond .eq 26, 3) := by decide +kernel
theorem dX5_followersOf_16 : decode cX5_followersOf 16 = .ok (.iload_n 1, 1) := by decide +kernel
theorem dX5_followersOf_17 : decode cX5_followersOf 17 = .ok (.iload_n 3, 1) := by decide +kernel
theorem dX5_followersOf_18 : decode cX5_followersOf 18 = .ok (.ishr, 1) := by decide +kernel
theorem dX5_followersOf_19 : decode cX5_followersOf 19 = .ok (.iconst 1, 1) := by decide +kernel
theorem dX5_followersOf_20 : decode cX5_followersOf 20 = .ok (.iand, 1) := by decide +kernel
theorem dX5_followersOf_21 : decode cX5_followersOf 21 = .ok (.ifCond .eq 12, 3) := by decide +kernel
theorem dX5_followersOf_24 : decode cX5_followersOf 24 = .ok (.iload_n 2, 1) := by decide +kernel
theorem dX5_followersOf_25 : decode cX5_followersOf 25 = .ok (.aload_n 0, 1) := by decide +kernel
theorem dX5_followersOf_26 : decode cX5_followersOf 26 = .ok (.getfield 30, 3) := by decide +kernel
theorem dX5_followersOf_29 : decode cX5_followersOf 29 = .ok (.iload_n 3, 1) := by decide +kernel
theorem dX5_followersOf_30 : decode cX5_followersOf 30 = .ok (.iaload, 1) := by decide +kernel
theorem dX5_followersOf_31 : decode cX5_followersOf 31 = .ok (.ior, 1) := by decide +kernel
theorem dX5_followersOf_32 : decode cX5_followersOf 32 = .ok (.istore_n 2, 1) := by decide +kernel
theorem dX5_followersOf_33 : decode cX5_followersOf 33 = .ok (.iinc 3 1, 3) := by decide +kernel
theorem dX5_followersOf_36 : decode cX5_followersOf 36 = .ok (.goto (-32), 3) := by decide +kernel
theorem dX5_followersOf_39 : decode cX5_followersOf 39 = .ok (.iload_n 2, 1) := by decide +kernel
theorem dX5_followersOf_40 : decode cX5_followersOf 40 = .ok (.ireturn, 1) := by decide +kernel
set_option maxRecDepth 20000 in
theorem ggX5_beginAhead_X5_waitAt : GoodIn wsX5_beginAhead wsX5_waitAt := goodIn_r _ [9] (by decide +kernel) (by decide +kernel)
set_option maxRecDepth 20000 in
theorem gX5_beginAhead_X5_waitAt : GoodIn wsX5_beginAhead (va_wsS RX5 92 yX5_waitAt wsX5_waitAt) := goodIn_app (goodIn_of _ (by decide +kernel)) ggX5_beginAhead_X5_waitAt
theorem dX5_beginAhead_0 : decode cX5_beginAhead 0 = .ok (.aload_n 0, 1) := by decide +kernel
theorem dX5_beginAhead_1 : decode cX5_beginAhead 1 = .ok (.getfield 27, 3) := by decide +kernel
theorem dX5_beginAhead_4 : decode cX5_beginAhead 4 = .ok (.getfield 63, 3) := by decide +kernel
theorem dX5_beginAhead_7 : decode cX5_beginAhead 7 = .ok (.ifCond .eq 8, 3) := by decide +kernel
theorem dX5_beginAhead_10 : decode cX5_beginAhead 10 = .ok (.aload_n 0, 1) := by decide +kernel
theorem dX5_beginAhead_11 : decode cX5_beginAhead 11 = .ok (.iload_n 1, 1) := by decide +kernel
theorem dX5_beginAhead_12 : decode cX5_beginAhead 12 = .ok (.putfield 51, 3) := by decide +kernel
theorem dX5_beginAhead_15 : decode cX5_beginAhead 15 = .ok (.aload_n 0, 1) := by decide +kernel
theorem dX5_beginAhead_16 : decode cX5_beginAhead 16 = .ok (.getfield 37, 3) := by decide +kernel
theorem dX5_beginAhead_19 : decode cX5_beginAhead 19 = .ok (.aload_n 0, 1) := by decide +kernel
theorem dX5_beginAhead_20 : decode cX5_beginAhead 20 = .ok (.getfield 27, 3) := by decide +kernel
theorem dX5_beginAhead_23 : decode cX5_beginAhead 23 = .ok (.getfield 60, 3) := by decide +kernel
theorem dX5_beginAhead_26 : decode cX5_beginAhead 26 = .ok (.iload_n 1, 1) := by decide +kernel
theorem dX5_beginAhead_27 : decode cX5_beginAhead 27 = .ok (.invokestatic 92, 3) := by decide +kernel
theorem dX5_beginAhead_30 : decode cX5_beginAhead 30 = .ok (.return_, 1) := by decide +kernel
set_option maxRecDepth 20000 in
theorem ggX5_stepAhead_J7_fill_53178 : GoodIn wsX5_stepAhead wsJ7_fill_53178 := goodIn_r _ [15] (by decide +kernel) (by decide +kernel)
set_option maxRecDepth 20000 in
theorem gX5_stepAhead_J7_fill_53178 : GoodIn wsX5_stepAhead (va_wsS RX5 54 yJ7_fill_53178 wsJ7_fill_53178) := goodIn_app (goodIn_of _ (by decide +kernel)) ggX5_stepAhead_J7_fill_53178
set_option maxRecDepth 20000 in
theorem ggX5_stepAhead_X5_waitAt : GoodIn wsX5_stepAhead wsX5_waitAt := goodIn_r _ [19] (by decide +kernel) (by decide +kernel)
set_option maxRecDepth 20000 in
theorem gX5_stepAhead_X5_waitAt : GoodIn wsX5_stepAhead (va_wsS RX5 92 yX5_waitAt wsX5_waitAt) := goodIn_app (goodIn_of _ (by decide +kernel)) ggX5_stepAhead_X5_waitAt
theorem dX5_stepAhead_0 : decode cX5_stepAhead 0 = .ok (.aload_n 0, 1) := by decide +kernel
theorem dX5_stepAhead_1 : decode cX5_stepAhead 1 = .ok (.getfield 27, 3) := by decide +kernel
theorem dX5_stepAhead_4 : decode cX5_stepAhead 4 = .ok (.getfield 60, 3) := by decide +kernel
theorem dX5_stepAhead_7 : decode cX5_stepAhead 7 = .ok (.ifCond .ne 5, 3) := by decide +kernel
theorem dX5_stepAhead_10 : decode cX5_stepAhead 10 = .ok (.iconst 0, 1) := by decide +kernel
theorem dX5_stepAhead_11 : decode cX5_stepAhead 11 = .ok (.ireturn, 1) := by decide +kernel
theorem dX5_stepAhead_12 : decode cX5_stepAhead 12 = .ok (.iconst 0, 1) := by decide +kernel
theorem dX5_stepAhead_13 : decode cX5_stepAhead 13 = .ok (.istore_n 2, 1) := by decide +kernel
theorem dX5_stepAhead_14 : decode cX5_stepAhead 14 = .ok (.aload_n 0, 1) := by decide +kernel
theorem dX5_stepAhead_15 : decode cX5_stepAhead 15 = .ok (.getfield 40, 3) := by decide +kernel
theorem dX5_stepAhead_18 : decode cX5_stepAhead 18 = .ok (.iconst (-1), 1) := by decide +kernel
theorem dX5_stepAhead_19 : decode cX5_stepAhead 19 = .ok (.invokestatic 54, 3) := by decide +kernel
theorem dX5_stepAhead_22 : decode cX5_stepAhead 22 = .ok (.iconst 0, 1) := by decide +kernel
theorem dX5_stepAhead_23 : decode cX5_stepAhead 23 = .ok (.istore_n 3, 1) := by decide +kernel
theorem dX5_stepAhead_24 : decode cX5_stepAhead 24 = .ok (.iload_n 3, 1) := by decide +kernel
theorem dX5_stepAhead_25 : decode cX5_stepAhead 25 = .ok (.bipush 24, 2) := by decide +kernel
theorem dX5_stepAhead_27 : decode cX5_stepAhead 27 = .ok (.if_icmp .ge 74, 3) := by decide +kernel
theorem dX5_stepAhead_30 : decode cX5_stepAhead 30 = .ok (.aload_n 0, 1) := by decide +kernel
theorem dX5_stepAhead_31 : decode cX5_stepAhead 31 = .ok (.getfield 37, 3) := by decide +kernel
theorem dX5_stepAhead_34 : decode cX5_stepAhead 34 = .ok (.iload_n 3, 1) := by decide +kernel
theorem dX5_stepAhead_35 : decode cX5_stepAhead 35 = .ok (.iaload, 1) := by decide +kernel
theorem dX5_stepAhead_36 : decode cX5_stepAhead 36 = .ok (.istore 4, 2) := by decide +kernel
theorem dX5_stepAhead_38 : decode cX5_stepAhead 38 = .ok (.iload 4, 2) := by decide +kernel
theorem dX5_stepAhead_40 : decode cX5_stepAhead 40 = .ok (.ifCond .lt 55, 3) := by decide +kernel
theorem dX5_stepAhead_43 : decode cX5_stepAhead 43 = .ok (.iload_n 1, 1) := by decide +kernel
theorem dX5_stepAhead_44 : decode cX5_stepAhead 44 = .ok (.iload_n 3, 1) := by decide +kernel
theorem dX5_stepAhead_45 : decode cX5_stepAhead 45 = .ok (.ishr, 1) := by decide +kernel
theorem dX5_stepAhead_46 : decode cX5_stepAhead 46 = .ok (.iconst 1, 1) := by decide +kernel
theorem dX5_stepAhead_47 : decode cX5_stepAhead 47 = .ok (.iand, 1) := by decide +kernel
theorem dX5_stepAhead_48 : decode cX5_stepAhead 48 = .ok (.ifCond .eq 47, 3) := by decide +kernel
theorem dX5_stepAhead_51 : decode cX5_stepAhead 51 = .ok (.iconst 1, 1) := by decide +kernel
theorem dX5_stepAhead_52 : decode cX5_stepAhead 52 = .ok (.istore_n 2, 1) := by decide +kernel
theorem dX5_stepAhead_53 : decode cX5_stepAhead 53 = .ok (.aload_n 0, 1) := by decide +kernel
theorem dX5_stepAhead_54 : decode cX5_stepAhead 54 = .ok (.getfield 27, 3) := by decide +kernel
theorem dX5_stepAhead_57 : decode cX5_stepAhead 57 = .ok (.getfield 86, 3) := by decide +kernel
theorem dX5_stepAhead_60 : decode cX5_stepAhead 60 = .ok (.iload_n 3, 1) := by decide +kernel
theorem dX5_stepAhead_61 : decode cX5_stepAhead 61 = .ok (.ishr, 1) := by decide +kernel
theorem dX5_stepAhead_62 : decode cX5_stepAhead 62 = .ok (.iconst 1, 1) := by decide +kernel
theorem dX5_stepAhead_63 : decode cX5_stepAhead 63 = .ok (.iand, 1) := by decide +kernel
theorem dX5_stepAhead_64 : decode cX5_stepAhead 64 = .ok (.ifCond .eq 16, 3) := by decide +kernel
theorem dX5_stepAhead_67 : decode cX5_stepAhead 67 = .ok (.aload_n 0, 1) := by decide +kernel
theorem dX5_stepAhead_68 : decode cX5_stepAhead 68 = .ok (.aload_n 0, 1) := by decide +kernel
theorem dX5_stepAhead_69 : decode cX5_stepAhead 69 = .ok (.getfield 51, 3) := by decide +kernel
theorem dX5_stepAhead_72 : decode cX5_stepAhead 72 = .ok (.iload 4, 2) := by decide +kernel
theorem dX5_stepAhead_74 : decode cX5_stepAhead 74 = .ok (.invokestatic 96, 3) := by decide +kernel
theorem dX5_stepAhead_77 : decode cX5_stepAhead 77 = .ok (.putfield 51, 3) := by decide +kernel
theorem dX5_stepAhead_80 : decode cX5_stepAhead 80 = .ok (.aload_n 0, 1) := by decide +kernel
theorem dX5_stepAhead_81 : decode cX5_stepAhead 81 = .ok (.getfield 40, 3) := by decide +kernel
theorem dX5_stepAhead_84 : decode cX5_stepAhead 84 = .ok (.aload_n 0, 1) := by decide +kernel
theorem dX5_stepAhead_85 : decode cX5_stepAhead 85 = .ok (.getfield 30, 3) := by decide +kernel
theorem dX5_stepAhead_88 : decode cX5_stepAhead 88 = .ok (.iload_n 3, 1) := by decide +kernel
theorem dX5_stepAhead_89 : decode cX5_stepAhead 89 = .ok (.iaload, 1) := by decide +kernel
theorem dX5_stepAhead_90 : decode cX5_stepAhead 90 = .ok (.iload 4, 2) := by decide +kernel
theorem dX5_stepAhead_92 : decode cX5_stepAhead 92 = .ok (.invokestatic 92, 3) := by decide +kernel
theorem dX5_stepAhead_95 : decode cX5_stepAhead 95 = .ok (.iinc 3 1, 3) := by decide +kernel
theorem dX5_stepAhead_98 : decode cX5_stepAhead 98 = .ok (.goto (-74), 3) := by decide +kernel
theorem dX5_stepAhead_101 : decode cX5_stepAhead 101 = .ok (.aload_n 0, 1) := by decide +kernel
theorem dX5_stepAhead_102 : decode cX5_stepAhead 102 = .ok (.getfield 37, 3) := by decide +kernel
theorem dX5_stepAhead_105 : decode cX5_stepAhead 105 = .ok (.astore_n 3, 1) := by decide +kernel
theorem dX5_stepAhead_106 : decode cX5_stepAhead 106 = .ok (.aload_n 0, 1) := by decide +kernel
theorem dX5_stepAhead_107 : decode cX5_stepAhead 107 = .ok (.aload_n 0, 1) := by decide +kernel
theorem dX5_stepAhead_108 : decode cX5_stepAhead 108 = .ok (.getfield 40, 3) := by decide +kernel
theorem dX5_stepAhead_111 : decode cX5_stepAhead 111 = .ok (.putfield 37, 3) := by decide +kernel
theorem dX5_stepAhead_114 : decode cX5_stepAhead 114 = .ok (.aload_n 0, 1) := by decide +kernel
theorem dX5_stepAhead_115 : decode cX5_stepAhead 115 = .ok (.aload_n 3, 1) := by decide +kernel
theorem dX5_stepAhead_116 : decode cX5_stepAhead 116 = .ok (.putfield 40, 3) := by decide +kernel
theorem dX5_stepAhead_119 : decode cX5_stepAhead 119 = .ok (.iload_n 2, 1) := by decide +kernel
theorem dX5_stepAhead_120 : decode cX5_stepAhead 120 = .ok (.ireturn, 1) := by decide +kernel
theorem dX5_waitAt_0 : decode cX5_waitAt 0 = .ok (.iconst 0, 1) := by decide +kernel
theorem dX5_waitAt_1 : decode cX5_waitAt 1 = .ok (.istore_n 3, 1) := by decide +kernel
theorem dX5_waitAt_2 : decode cX5_waitAt 2 = .ok (.iload_n 3, 1) := by decide +kernel
theorem dX5_waitAt_3 : decode cX5_waitAt 3 = .ok (.aload_n 0, 1) := by decide +kernel
theorem dX5_waitAt_4 : decode cX5_waitAt 4 = .ok (.arraylength, 1) := by decide +kernel
theorem dX5_waitAt_5 : decode cX5_waitAt 5 = .ok (.if_icmp .ge 34, 3) := by decide +kernel
theorem dX5_waitAt_8 : decode cX5_waitAt 8 = .ok (.iload_n 1, 1) := by decide +kernel
theorem dX5_waitAt_9 : decode cX5_waitAt 9 = .ok (.iload_n 3, 1) := by decide +kernel
theorem dX5_waitAt_10 : decode cX5_waitAt 10 = .ok (.ishr, 1) := by decide +kernel
theorem dX5_waitAt_11 : decode cX5_waitAt 11 = .ok (.ifCond .eq 28, 3) := by decide +kernel
theorem dX5_waitAt_14 : decode cX5_waitAt 14 = .ok (.iload_n 1, 1) := by decide +kernel
theorem dX5_waitAt_15 : decode cX5_waitAt 15 = .ok (.iload_n 3, 1) := by decide +kernel
theorem dX5_waitAt_16 : decode cX5_waitAt 16 = .ok (.ishr, 1) := by decide +kernel
theorem dX5_waitAt_17 : decode cX5_waitAt 17 = .ok (.iconst 1, 1) := by decide +kernel
theorem dX5_waitAt_18 : decode cX5_waitAt 18 = .ok (.iand, 1) := by decide +kernel
theorem dX5_waitAt_19 : decode cX5_waitAt 19 = .ok (.ifCond .eq 14, 3) := by decide +kernel
theorem dX5_waitAt_22 : decode cX5_waitAt 22 = .ok (.aload_n 0, 1) := by decide +kernel
theorem dX5_waitAt_23 : decode cX5_waitAt 23 = .ok (.iload_n 3, 1) := by decide +kernel
theorem dX5_waitAt_24 : decode cX5_waitAt 24 = .ok (.iaload, 1) := by decide +kernel
theorem dX5_waitAt_25 : decode cX5_waitAt 25 = .ok (.iload_n 2, 1) := by decide +kernel
theorem dX5_waitAt_26 : decode cX5_waitAt 26 = .ok (.if_icmp .ge 7, 3) := by decide +kernel
theorem dX5_waitAt_29 : decode cX5_waitAt 29 = .ok (.aload_n 0, 1) := by decide +kernel
theorem dX5_waitAt_30 : decode cX5_waitAt 30 = .ok (.iload_n 3, 1) := by decide +kernel
theorem dX5_waitAt_31 : decode cX5_waitAt 31 = .ok (.iload_n 2, 1) := by decide +kernel
theorem dX5_waitAt_32 : decode cX5_waitAt 32 = .ok (.iastore, 1) := by decide +kernel
theorem dX5_waitAt_33 : decode cX5_waitAt 33 = .ok (.iinc 3 1, 3) := by decide +kernel
theorem dX5_waitAt_36 : decode cX5_waitAt 36 = .ok (.goto (-34), 3) := by decide +kernel
theorem dX5_waitAt_39 : decode cX5_waitAt 39 = .ok (.return_, 1) := by decide +kernel
set_option maxRecDepth 20000 in
theorem ggX6_init_X3_init : GoodIn wsX6_init wsX3_init := goodIn_r _ [11, 12, 2, 3] (by decide +kernel) (by decide +kernel)
set_option maxRecDepth 20000 in
theorem gX6_init_X3_init_n20 : GoodIn wsX6_init (wsX3_init) := ggX6_init_X3_init
theorem dX6_init_0 : decode cX6_init 0 = .ok (.aload_n 0, 1) := by decide +kernel
theorem dX6_init_1 : decode cX6_init 1 = .ok (.invokespecial 3, 3) := by decide +kernel
theorem dX6_init_4 : decode cX6_init 4 = .ok (.aload_n 0, 1) := by decide +kernel
theorem dX6_init_5 : decode cX6_init 5 = .ok (.iconst 5, 1) := by decide +kernel
theorem dX6_init_6 : decode cX6_init 6 = .ok (.anewarray 9, 3) := by decide +kernel
theorem dX6_init_9 : decode cX6_init 9 = .ok (.putfield 11, 3) := by decide +kernel
theorem dX6_init_12 : decode cX6_init 12 = .ok (.aload_n 0, 1) := by decide +kernel
theorem dX6_init_13 : decode cX6_init 13 = .ok (.iconst 5, 1) := by decide +kernel
theorem dX6_init_14 : decode cX6_init 14 = .ok (.anewarray 9, 3) := by decide +kernel
theorem dX6_init_17 : decode cX6_init 17 = .ok (.putfield 17, 3) := by decide +kernel
theorem dX6_init_20 : decode cX6_init 20 = .ok (.aload_n 0, 1) := by decide +kernel
theorem dX6_init_21 : decode cX6_init 21 = .ok (.new 9, 3) := by decide +kernel
theorem dX6_init_24 : decode cX6_init 24 = .ok (.dup, 1) := by decide +kernel
theorem dX6_init_25 : decode cX6_init 25 = .ok (.invokespecial 20, 3) := by decide +kernel
theorem dX6_init_28 : decode cX6_init 28 = .ok (.putfield 21, 3) := by decide +kernel
theorem dX6_init_31 : decode cX6_init 31 = .ok (.iconst 0, 1) := by decide +kernel
theorem dX6_init_32 : decode cX6_init 32 = .ok (.istore_n 1, 1) := by decide +kernel
theorem dX6_init_33 : decode cX6_init 33 = .ok (.iload_n 1, 1) := by decide +kernel
theorem dX6_init_34 : decode cX6_init 34 = .ok (.iconst 4, 1) := by decide +kernel
theorem dX6_init_35 : decode cX6_init 35 = .ok (.if_icmp .gt 35, 3) := by decide +kernel
theorem dX6_init_38 : decode cX6_init 38 = .ok (.aload_n 0, 1) := by decide +kernel
theorem dX6_init_39 : decode cX6_init 39 = .ok (.getfield 11, 3) := by decide +kernel
theorem dX6_init_42 : decode cX6_init 42 = .ok (.iload_n 1, 1) := by decide +kernel
theorem dX6_init_43 : decode cX6_init 43 = .ok (.new 9, 3) := by decide +kernel
theorem dX6_init_46 : decode cX6_init 46 = .ok (.dup, 1) := by decide +kernel
theorem dX6_init_47 : decode cX6_init 47 = .ok (.invokespecial 20, 3) := by decide +kernel
theorem dX6_init_50 : decode cX6_init 50 = .ok (.aastore, 1) := by decide +kernel
theorem dX6_init_51 : decode cX6_init 51 = .ok (.aload_n 0, 1) := by decide +kernel
theorem dX6_init_52 : decode cX6_init 52 = .ok (.getfield 17, 3) := by decide +kernel
theorem dX6_init_55 : decode cX6_init 55 = .ok (.iload_n 1, 1) := by decide +kernel
theorem dX6_init_56 : decode cX6_init 56 = .ok (.new 9, 3) := by decide +kernel
theorem dX6_init_59 : decode cX6_init 59 = .ok (.dup, 1) := by decide +kernel
theorem dX6_init_60 : decode cX6_init 60 = .ok (.invokespecial 20, 3) := by decide +kernel
theorem dX6_init_63 : decode cX6_init 63 = .ok (.aastore, 1) := by decide +kernel
theorem dX6_init_64 : decode cX6_init 64 = .ok (.iinc 1 1, 3) := by decide +kernel
theorem dX6_init_67 : decode cX6_init 67 = .ok (.goto (-34), 3) := by decide +kernel
theorem dX6_init_70 : decode cX6_init 70 = .ok (.return_, 1) := by decide +kernel
set_option maxRecDepth 20000 in
theorem ggX6_build_J7_fill_53178 : GoodIn wsX6_build wsJ7_fill_53178 := goodIn_r _ [11] (by decide +kernel) (by decide +kernel)
set_option maxRecDepth 20000 in
theorem gX6_build_J7_fill_53178 : GoodIn wsX6_build (va_wsS RX6 31 yJ7_fill_53178 wsJ7_fill_53178) := goodIn_app (goodIn_of _ (by decide +kernel)) ggX6_build_J7_fill_53178
set_option maxRecDepth 20000 in
theorem ggX6_build_X3_becomeEmpty : GoodIn wsX6_build wsX3_becomeEmpty := goodIn_r _ [16, 17, 18, 19, 15, 20, 21, 22, 23, 101, 102, 103] (by decide +kernel) (by decide +kernel)
set_option maxRecDepth 20000 in
theorem gX6_build_X3_becomeEmpty : GoodIn wsX6_build (wsV RX6 46 RX3 yX3_becomeEmpty wsX3_becomeEmpty) := goodIn_app (goodIn_of _ (by decide +kernel)) ggX6_build_X3_becomeEmpty
set_option maxRecDepth 20000 in
theorem ggX6_build_X6_beginLevel : GoodIn wsX6_build wsX6_beginLevel := goodIn_r _ [28, 29, 5, 30, 31, 32, 33, 15, 34, 17, 18, 19, 20, 21, 22, 23, 12, 13, 14, 16, 95, 96, 97, 98, 101, 102, 103] (by decide +kernel) (by decide +kernel)
set_option maxRecDepth 20000 in
theorem gX6_build_X6_beginLevel : GoodIn wsX6_build (wsV RX6 53 RX6 yX6_beginLevel wsX6_beginLevel) := goodIn_app (goodIn_of _ (by decide +kernel)) ggX6_build_X6_beginLevel
set_option maxRecDepth 20000 in
theorem ggX6_build_X4_at : GoodIn wsX6_build wsX4_at := goodIn_r _ [39, 40, 41, 99, 100] (by decide +kernel) (by decide +kernel)
set_option maxRecDepth 20000 in
theorem gX6_build_X4_at : GoodIn wsX6_build (wsV RX6 65 RX4 yX4_at wsX4_at) := goodIn_app (goodIn_of _ (by decide +kernel)) ggX6_build_X4_at
set_option maxRecDepth 20000 in
theorem ggX6_build_X6_goDeeper : GoodIn wsX6_build wsX6_goDeeper := goodIn_r _ [45, 5, 24, 25, 26, 27, 28, 29, 30, 31, 32, 33, 15, 34, 17, 18, 19, 20, 21, 22, 23, 12, 13, 14, 16, 95, 96, 97, 98, 101, 102, 103] (by decide +kernel) (by decide +kernel)
set_option maxRecDepth 20000 in
theorem gX6_build_X6_goDeeper : GoodIn wsX6_build (wsV RX6 69 RX6 yX6_goDeeper wsX6_goDeeper) := goodIn_app (goodIn_of _ (by decide +kernel)) ggX6_build_X6_goDeeper
set_option maxRecDepth 20000 in
theorem ggX6_build_X6_goBack : GoodIn wsX6_build wsX6_goBack := goodIn_r _ [49, 5, 29, 50, 51, 52, 53, 54, 55, 56, 27, 57, 30, 58, 59, 60, 15, 61, 21, 22, 23, 17, 18, 19, 20, 12, 13, 14, 16, 62, 95, 96, 97, 98, 101, 102, 103] (by decide +kernel) (by decide +kernel)
set_option maxRecDepth 20000 in
theorem gX6_build_X6_goBack : GoodIn wsX6_build (wsV RX6 72 RX6 yX6_goBack wsX6_goBack) := goodIn_app (goodIn_of _ (by decide +kernel)) ggX6_build_X6_goBack
set_option maxRecDepth 20000 in
theorem ggX6_build_X6_addItem : GoodIn wsX6_build wsX6_addItem := goodIn_r _ [66, 50, 52, 51, 53, 30, 5, 67, 68, 69, 27, 70, 1, 71, 72, 73, 15, 74, 23, 21, 22, 17, 18, 19, 20, 95, 96, 97, 98, 101, 102, 103, 86, 87, 88, 89, 90, 91, 92, 93, 94] (by decide +kernel) (by decide +kernel)
set_option maxRecDepth 20000 in
theorem gX6_build_X6_addItem : GoodIn wsX6_build (wsV RX6 75 RX6 yX6_addItem wsX6_addItem) := goodIn_app (goodIn_of _ (by decide +kernel)) ggX6_build_X6_addItem
set_option maxRecDepth 20000 in
theorem ggX6_build_X6_endSequence : GoodIn wsX6_build wsX6_endSequence := goodIn_r _ [57, 29, 5, 30, 58, 59, 60, 15, 61, 21, 22, 23, 17, 18, 19, 20, 12, 13, 14, 16, 95, 96, 97, 98, 101, 102, 103] (by decide +kernel) (by decide +kernel)
set_option maxRecDepth 20000 in
theorem gX6_build_X6_endSequence : GoodIn wsX6_build (wsV RX6 79 RX6 yX6_endSequence wsX6_endSequence) := goodIn_app (goodIn_of _ (by decide +kernel)) ggX6_build_X6_endSequence
set_option maxRecDepth 20000 in
theorem ggX6_build_X6_endAlternatives : GoodIn wsX6_build wsX6_endAlternatives := goodIn_r _ [78, 29, 5, 51, 52, 53, 54, 55, 56, 27, 57, 30, 58, 59, 60, 15, 61, 21, 22, 23, 17, 18, 19, 20, 12, 13, 14, 16, 62, 24, 25, 26, 28, 31, 32, 33, 34, 95, 96, 97, 98, 101, 102, 103] (by decide +kernel) (by decide +kernel)
set_option maxRecDepth 20000 in
theorem gX6_build_X6_endAlternatives : GoodIn wsX6_build (wsV RX6 82 RX6 yX6_endAlternatives wsX6_endAlternatives) := goodIn_app (goodIn_of _ (by decide +kernel)) ggX6_build_X6_endAlternatives
set_option maxRecDepth 20000 in
theorem ggX6_build_X8_isClassLetterOrDot : GoodIn wsX6_build wsX8_isClassLetterOrDot := goodIn_r _ [81] (by decide +kernel) (by decide +kernel)
set_option maxRecDepth 20000 in
theorem gX6_build_X8_isClassLetterOrDot_n86 : GoodIn wsX6_build (wsX8_isClassLetterOrDot) := ggX6_build_X8_isClassLetterOrDot
set_option maxRecDepth 20000 in
theorem ggX6_build_X6_takeLeaf : GoodIn wsX6_build wsX6_takeLeaf := goodIn_r _ [85, 2, 50, 62, 18, 19, 15, 20, 21, 22, 23, 86, 87, 88, 89, 90, 91, 92, 93, 94, 95, 96, 97, 98, 101, 102, 103] (by decide +kernel) (by decide +kernel)
set_option maxRecDepth 20000 in
theorem gX6_build_X6_takeLeaf : GoodIn wsX6_build (wsV RX6 90 RX6 yX6_takeLeaf wsX6_takeLeaf) := goodIn_app (goodIn_of _ (by decide +kernel)) ggX6_build_X6_takeLeaf
theorem dX6_build_0 : decode cX6_build 0 = .ok (.aload_n 1, 1) := by decide +kernel
theorem dX6_build_1 : decode cX6_build 1 = .ok (.getfield 25, 3) := by decide +kernel
theorem dX6_build_4 : decode cX6_build 4 = .ok (.iconst 0, 1) := by decide +kernel
theorem dX6_build_5 : decode cX6_build 5 = .ok (.invokestatic 31, 3) := by decide +kernel
theorem dX6_build_8 : decode cX6_build 8 = .ok (.aload_n 1, 1) := by decide +kernel
theorem dX6_build_9 : decode cX6_build 9 = .ok (.getfield 37, 3) := by decide +kernel
theorem dX6_build_12 : decode cX6_build 12 = .ok (.iconst 0, 1) := by decide +kernel
theorem dX6_build_13 : decode cX6_build 13 = .ok (.invokestatic 31, 3) := by decide +kernel
theorem dX6_build_16 : decode cX6_build 16 = .ok (.aload_n 1, 1) := by decide +kernel
theorem dX6_build_17 : decode cX6_build 17 = .ok (.getfield 40, 3) := by decide +kernel
theorem dX6_build_20 : decode cX6_build 20 = .ok (.astore_n 2, 1) := by decide +kernel
theorem dX6_build_21 : decode cX6_build 21 = .ok (.aload_n 1, 1) := by decide +kernel
theorem dX6_build_22 : decode cX6_build 22 = .ok (.getfield 43, 3) := by decide +kernel
theorem dX6_build_25 : decode cX6_build 25 = .ok (.invokevirtual 46, 3) := by decide +kernel
theorem dX6_build_28 : decode cX6_build 28 = .ok (.aload_n 0, 1) := by decide +kernel
theorem dX6_build_29 : decode cX6_build 29 = .ok (.iconst 0, 1) := by decide +kernel
theorem dX6_build_30 : decode cX6_build 30 = .ok (.putfield 49, 3) := by decide +kernel
theorem dX6_build_33 : decode cX6_build 33 = .ok (.aload_n 0, 1) := by decide +kernel
theorem dX6_build_34 : decode cX6_build 34 = .ok (.invokevirtual 53, 3) := by decide +kernel
theorem dX6_build_37 : decode cX6_build 37 = .ok (.iconst 0, 1) := by decide +kernel
theorem dX6_build_38 : decode cX6_build 38 = .ok (.istore_n 3, 1) := by decide +kernel
theorem dX6_build_39 : decode cX6_build 39 = .ok (.iload_n 3, 1) := by decide +kernel
theorem dX6_build_40 : decode cX6_build 40 = .ok (.aload_n 1, 1) := by decide +kernel
theorem dX6_build_41 : decode cX6_build 41 = .ok (.getfield 56, 3) := by decide +kernel
theorem dX6_build_44 : decode cX6_build 44 = .ok (.getfield 60, 3) := by decide +kernel
theorem dX6_build_47 : decode cX6_build 47 = .ok (.if_icmp .ge 127, 3) := by decide +kernel
theorem dX6_build_50 : decode cX6_build 50 = .ok (.aload_n 1, 1) := by decide +kernel
theorem dX6_build_51 : decode cX6_build 51 = .ok (.getfield 56, 3) := by decide +kernel
theorem dX6_build_54 : decode cX6_build 54 = .ok (.iload_n 3, 1) := by decide +kernel
theorem dX6_build_55 : decode cX6_build 55 = .ok (.invokevirtual 65, 3) := by decide +kernel
theorem dX6_build_58 : decode cX6_build 58 = .ok (.istore 4, 2) := by decide +kernel
theorem dX6_build_60 : decode cX6_build 60 = .ok (.iload 4, 2) := by decide +kernel
theorem dX6_build_62 : decode cX6_build 62 = .ok (.bipush 40, 2) := by decide +kernel
theorem dX6_build_64 : decode cX6_build 64 = .ok (.if_icmp .ne 10, 3) := by decide +kernel
theorem dX6_build_67 : decode cX6_build 67 = .ok (.aload_n 0, 1) := by decide +kernel
theorem dX6_build_68 : decode cX6_build 68 = .ok (.invokevirtual 69, 3) := by decide +kernel
theorem dX6_build_71 : decode cX6_build 71 = .ok (.goto 97, 3) := by decide +kernel
theorem dX6_build_74 : decode cX6_build 74 = .ok (.iload 4, 2) := by decide +kernel
theorem dX6_build_76 : decode cX6_build 76 = .ok (.bipush 41, 2) := by decide +kernel
theorem dX6_build_78 : decode cX6_build 78 = .ok (.if_icmp .ne 25, 3) := by decide +kernel
theorem dX6_build_81 : decode cX6_build 81 = .ok (.aload_n 0, 1) := by decide +kernel
theorem dX6_build_82 : decode cX6_build 82 = .ok (.invokevirtual 72, 3) := by decide +kernel
theorem dX6_build_85 : decode cX6_build 85 = .ok (.aload_n 0, 1) := by decide +kernel
theorem dX6_build_86 : decode cX6_build 86 = .ok (.aload_n 1, 1) := by decide +kernel
theorem dX6_build_87 : decode cX6_build 87 = .ok (.aload_n 1, 1) := by decide +kernel
theorem dX6_build_88 : decode cX6_build 88 = .ok (.getfield 56, 3) := by decide +kernel
theorem dX6_build_91 : decode cX6_build 91 = .ok (.iload_n 3, 1) := by decide +kernel
theorem dX6_build_92 : decode cX6_build 92 = .ok (.iconst 1, 1) := by decide +kernel
theorem dX6_build_93 : decode cX6_build 93 = .ok (.iadd, 1) := by decide +kernel
theorem dX6_build_94 : decode cX6_build 94 = .ok (.invokevirtual 65, 3) := by decide +kernel
theorem dX6_build_97 : decode cX6_build 97 = .ok (.invokevirtual 75, 3) := by decide +kernel
theorem dX6_build_100 : decode cX6_build 100 = .ok (.goto 68, 3) := by decide +kernel
theorem dX6_build_103 : decode cX6_build 103 = .ok (.iload 4, 2) := by decide +kernel
theorem dX6_build_105 : decode cX6_build 105 = .ok (.bipush 124, 2) := by decide +kernel
theorem dX6_build_107 : decode cX6_build 107 = .ok (.if_icmp .ne 10, 3) := by decide +kernel
theorem dX6_build_110 : decode cX6_build 110 = .ok (.aload_n 0, 1) := by decide +kernel
theorem dX6_build_111 : decode cX6_build 111 = .ok (.invokevirtual 79, 3) := by decide +kernel
theorem dX6_build_114 : decode cX6_build 114 = .ok (.goto 54, 3) := by decide +kernel
theorem dX6_build_117 : decode cX6_build 117 = .ok (.iload 4, 2) := by decide +kernel
theorem dX6_build_119 : decode cX6_build 119 = .ok (.bipush 47, 2) := by decide +kernel
theorem dX6_build_121 : decode cX6_build 121 = .ok (.if_icmp .ne 16, 3) := by decide +kernel
theorem dX6_build_124 : decode cX6_build 124 = .ok (.aload_n 0, 1) := by decide +kernel
theorem dX6_build_125 : decode cX6_build 125 = .ok (.aload_n 2, 1) := by decide +kernel
theorem dX6_build_126 : decode cX6_build 126 = .ok (.invokevirtual 82, 3) := by decide +kernel
theorem dX6_build_129 : decode cX6_build 129 = .ok (.aload_n 1, 1) := by decide +kernel
theorem dX6_build_130 : decode cX6_build 130 = .ok (.getfield 43, 3) := by decide +kernel
theorem dX6_build_133 : decode cX6_build 133 = .ok (.astore_n 2, 1) := by decide +kernel
theorem dX6_build_134 : decode cX6_build 134 = .ok (.goto 34, 3) := by decide +kernel
theorem dX6_build_137 : decode cX6_build 137 = .ok (.iload 4, 2) := by decide +kernel
theorem dX6_build_139 : decode cX6_build 139 = .ok (.invokestatic 86, 3) := by decide +kernel
theorem dX6_build_142 : decode cX6_build 142 = .ok (.ifCond .eq 26, 3) := by decide +kernel
theorem dX6_build_145 : decode cX6_build 145 = .ok (.aload_n 0, 1) := by decide +kernel
theorem dX6_build_146 : decode cX6_build 146 = .ok (.aload_n 1, 1) := by decide +kernel
theorem dX6_build_147 : decode cX6_build 147 = .ok (.iload_n 3, 1) := by decide +kernel
theorem dX6_build_148 : decode cX6_build 148 = .ok (.iload 4, 2) := by decide +kernel
theorem dX6_build_150 : decode cX6_build 150 = .ok (.invokevirtual 90, 3) := by decide +kernel
theorem dX6_build_153 : decode cX6_build 153 = .ok (.aload_n 0, 1) := by decide +kernel
theorem dX6_build_154 : decode cX6_build 154 = .ok (.aload_n 1, 1) := by decide +kernel
theorem dX6_build_155 : decode cX6_build 155 = .ok (.aload_n 1, 1) := by decide +kernel
theorem dX6_build_156 : decode cX6_build 156 = .ok (.getfield 56, 3) := by decide +kernel
theorem dX6_build_159 : decode cX6_build 159 = .ok (.iload_n 3, 1) := by decide +kernel
theorem dX6_build_160 : decode cX6_build 160 = .ok (.iconst 1, 1) := by decide +kernel
theorem dX6_build_161 : decode cX6_build 161 = .ok (.iadd, 1) := by decide +kernel
theorem dX6_build_162 : decode cX6_build 162 = .ok (.invokevirtual 65, 3) := by decide +kernel
theorem dX6_build_165 : decode cX6_build 165 = .ok (.invokevirtual 75, 3) := by decide +kernel
theorem dX6_build_168 : decode cX6_build 168 = .ok (.iinc 3 1, 3) := by decide +kernel
theorem dX6_build_171 : decode cX6_build 171 = .ok (.goto (-132), 3) := by decide +kernel
theorem dX6_build_174 : decode cX6_build 174 = .ok (.aload_n 0, 1) := by decide +kernel
theorem dX6_build_175 : decode cX6_build 175 = .ok (.aload_n 2, 1) := by decide +kernel
theorem dX6_build_176 : decode cX6_build 176 = .ok (.invokevirtual 82, 3) := by decide +kernel
theorem dX6_build_179 : decode cX6_build 179 = .ok (.return_, 1) := by decide +kernel
set_option maxRecDepth 20000 in
theorem ggX6_beginLevel_X3_becomeNothing : GoodIn wsX6_beginLevel wsX3_becomeNothing := goodIn_r _ [8, 9, 10, 11, 7, 12, 13, 14, 15, 24, 25, 26] (by decide +kernel) (by decide +kernel)
set_option maxRecDepth 20000 in
theorem gX6_beginLevel_X3_becomeNothing : GoodIn wsX6_beginLevel (wsV RX6 94 RX3 yX3_becomeNothing wsX3_becomeNothing) := goodIn_app (goodIn_of _ (by decide +kernel)) ggX6_beginLevel_X3_becomeNothing
set_option maxRecDepth 20000 in
theorem ggX6_beginLevel_X3_becomeEmpty : GoodIn wsX6_beginLevel wsX3_becomeEmpty := goodIn_r _ [19, 9, 10, 11, 7, 12, 13, 14, 15, 24, 25, 26] (by decide +kernel) (by decide +kernel)
set_option maxRecDepth 20000 in
theorem gX6_beginLevel_X3_becomeEmpty : GoodIn wsX6_beginLevel (wsV RX6 46 RX3 yX3_becomeEmpty wsX3_becomeEmpty) := goodIn_app (goodIn_of _ (by decide +kernel)) ggX6_beginLevel_X3_becomeEmpty
theorem dX6_beginLevel_0 : decode cX6_beginLevel 0 = .ok (.aload_n 0, 1) := by decide +kernel
theorem dX6_beginLevel_1 : decode cX6_beginLevel 1 = .ok (.getfield 11, 3) := by decide +kernel
theorem dX6_beginLevel_4 : decode cX6_beginLevel 4 = .ok (.aload_n 0, 1) := by decide +kernel
theorem dX6_beginLevel_5 : decode cX6_beginLevel 5 = .ok (.getfield 49, 3) := by decide +kernel
theorem dX6_beginLevel_8 : decode cX6_beginLevel 8 = .ok (.aaload, 1) := by decide +kernel
theorem dX6_beginLevel_9 : decode cX6_beginLevel 9 = .ok (.invokevirtual 94, 3) := by decide +kernel
theorem dX6_beginLevel_12 : decode cX6_beginLevel 12 = .ok (.aload_n 0, 1) := by decide +kernel
theorem dX6_beginLevel_13 : decode cX6_beginLevel 13 = .ok (.getfield 17, 3) := by decide +kernel
theorem dX6_beginLevel_16 : decode cX6_beginLevel 16 = .ok (.aload_n 0, 1) := by decide +kernel
theorem dX6_beginLevel_17 : decode cX6_beginLevel 17 = .ok (.getfield 49, 3) := by decide +kernel
theorem dX6_beginLevel_20 : decode cX6_beginLevel 20 = .ok (.aaload, 1) := by decide +kernel
theorem dX6_beginLevel_21 : decode cX6_beginLevel 21 = .ok (.invokevirtual 46, 3) := by decide +kernel
theorem dX6_beginLevel_24 : decode cX6_beginLevel 24 = .ok (.return_, 1) := by decide +kernel
set_option maxRecDepth 20000 in
theorem ggX6_goDeeper_X6_beginLevel : GoodIn wsX6_goDeeper wsX6_beginLevel := goodIn_r _ [6, 7, 1, 8, 9, 10, 11, 12, 13, 14, 15, 16, 17, 18, 19, 20, 21, 22, 23, 24, 25, 26, 27, 28, 29, 30, 31] (by decide +kernel) (by decide +kernel)
set_option maxRecDepth 20000 in
theorem gX6_goDeeper_X6_beginLevel : GoodIn wsX6_goDeeper (wsV RX6 53 RX6 yX6_beginLevel wsX6_beginLevel) := goodIn_app (goodIn_of _ (by decide +kernel)) ggX6_goDeeper_X6_beginLevel
theorem dX6_goDeeper_0 : decode cX6_goDeeper 0 = .ok (.aload_n 0, 1) := by decide +kernel
theorem dX6_goDeeper_1 : decode cX6_goDeeper 1 = .ok (.getfield 49, 3) := by decide +kernel
theorem dX6_goDeeper_4 : decode cX6_goDeeper 4 = .ok (.iconst 4, 1) := by decide +kernel
theorem dX6_goDeeper_5 : decode cX6_goDeeper 5 = .ok (.if_icmp .ge 17, 3) := by decide +kernel
theorem dX6_goDeeper_8 : decode cX6_goDeeper 8 = .ok (.aload_n 0, 1) := by decide +kernel
theorem dX6_goDeeper_9 : decode cX6_goDeeper 9 = .ok (.dup, 1) := by decide +kernel
theorem dX6_goDeeper_10 : decode cX6_goDeeper 10 = .ok (.getfield 49, 3) := by decide +kernel
theorem dX6_goDeeper_13 : decode cX6_goDeeper 13 = .ok (.iconst 1, 1) := by decide +kernel
theorem dX6_goDeeper_14 : decode cX6_goDeeper 14 = .ok (.iadd, 1) := by decide +kernel
theorem dX6_goDeeper_15 : decode cX6_goDeeper 15 = .ok (.putfield 49, 3) := by decide +kernel
theorem dX6_goDeeper_18 : decode cX6_goDeeper 18 = .ok (.aload_n 0, 1) := by decide +kernel
theorem dX6_goDeeper_19 : decode cX6_goDeeper 19 = .ok (.invokevirtual 53, 3) := by decide +kernel
theorem dX6_goDeeper_22 : decode cX6_goDeeper 22 = .ok (.return_, 1) := by decide +kernel
set_option maxRecDepth 20000 in
theorem ggX6_goBack_X6_endSequence : GoodIn wsX6_goBack wsX6_endSequence := goodIn_r _ [11, 2, 1, 12, 13, 14, 15, 16, 17, 18, 19, 20, 21, 22, 23, 24, 25, 26, 27, 28, 30, 31, 32, 33, 34, 35, 36] (by decide +kernel) (by decide +kernel)
set_option maxRecDepth 20000 in
theorem gX6_goBack_X6_endSequence : GoodIn wsX6_goBack (wsV RX6 79 RX6 yX6_endSequence wsX6_endSequence) := goodIn_app (goodIn_of _ (by decide +kernel)) ggX6_goBack_X6_endSequence
set_option maxRecDepth 20000 in
theorem ggX6_goBack_X3_become : GoodIn wsX6_goBack wsX3_become := goodIn_r _ [24, 18, 19, 20, 34, 35, 36] (by decide +kernel) (by decide +kernel)
set_option maxRecDepth 20000 in
theorem gX6_goBack_X3_become : GoodIn wsX6_goBack (wsV RX6 107 RX3 yX3_become wsX3_become) := goodIn_app (goodIn_of _ (by decide +kernel)) ggX6_goBack_X3_become
theorem dX6_goBack_0 : decode cX6_goBack 0 = .ok (.aload_n 0, 1) := by decide +kernel
theorem dX6_goBack_1 : decode cX6_goBack 1 = .ok (.getfield 49, 3) := by decide +kernel
theorem dX6_goBack_4 : decode cX6_goBack 4 = .ok (.ifCond .le 46, 3) := by decide +kernel
theorem dX6_goBack_7 : decode cX6_goBack 7 = .ok (.aload_n 0, 1) := by decide +kernel
theorem dX6_goBack_8 : decode cX6_goBack 8 = .ok (.invokevirtual 79, 3) := by decide +kernel
theorem dX6_goBack_11 : decode cX6_goBack 11 = .ok (.aload_n 0, 1) := by decide +kernel
theorem dX6_goBack_12 : decode cX6_goBack 12 = .ok (.getfield 11, 3) := by decide +kernel
theorem dX6_goBack_15 : decode cX6_goBack 15 = .ok (.aload_n 0, 1) := by decide +kernel
theorem dX6_goBack_16 : decode cX6_goBack 16 = .ok (.getfield 49, 3) := by decide +kernel
theorem dX6_goBack_19 : decode cX6_goBack 19 = .ok (.aaload, 1) := by decide +kernel
theorem dX6_goBack_20 : decode cX6_goBack 20 = .ok (.astore_n 1, 1) := by decide +kernel
theorem dX6_goBack_21 : decode cX6_goBack 21 = .ok (.aload_n 0, 1) := by decide +kernel
theorem dX6_goBack_22 : decode cX6_goBack 22 = .ok (.getfield 21, 3) := by decide +kernel
theorem dX6_goBack_25 : decode cX6_goBack 25 = .ok (.aload_n 1, 1) := by decide +kernel
theorem dX6_goBack_26 : decode cX6_goBack 26 = .ok (.getfield 97, 3) := by decide +kernel
theorem dX6_goBack_29 : decode cX6_goBack 29 = .ok (.aload_n 1, 1) := by decide +kernel
theorem dX6_goBack_30 : decode cX6_goBack 30 = .ok (.getfield 100, 3) := by decide +kernel
theorem dX6_goBack_33 : decode cX6_goBack 33 = .ok (.aload_n 1, 1) := by decide +kernel
theorem dX6_goBack_34 : decode cX6_goBack 34 = .ok (.getfield 103, 3) := by decide +kernel
theorem dX6_goBack_37 : decode cX6_goBack 37 = .ok (.invokevirtual 107, 3) := by decide +kernel
theorem dX6_goBack_40 : decode cX6_goBack 40 = .ok (.aload_n 0, 1) := by decide +kernel
theorem dX6_goBack_41 : decode cX6_goBack 41 = .ok (.dup, 1) := by decide +kernel
theorem dX6_goBack_42 : decode cX6_goBack 42 = .ok (.getfield 49, 3) := by decide +kernel
theorem dX6_goBack_45 : decode cX6_goBack 45 = .ok (.iconst 1, 1) := by decide +kernel
theorem dX6_goBack_46 : decode cX6_goBack 46 = .ok (.isub, 1) := by decide +kernel
theorem dX6_goBack_47 : decode cX6_goBack 47 = .ok (.putfield 49, 3) := by decide +kernel
theorem dX6_goBack_50 : decode cX6_goBack 50 = .ok (.return_, 1) := by decide +kernel
set_option maxRecDepth 20000 in
theorem ggX6_endSequence_X3_orElse : GoodIn wsX6_endSequence wsX3_orElse := goodIn_r _ [8, 9, 10, 11, 12, 13, 14, 7, 15, 24, 25, 26] (by decide +kernel) (by decide +kernel)
set_option maxRecDepth 20000 in
theorem gX6_endSequence_X3_orElse : GoodIn wsX6_endSequence (wsV RX6 111 RX3 yX3_orElse wsX3_orElse) := goodIn_app (goodIn_of _ (by decide +kernel)) ggX6_endSequence_X3_orElse
set_option maxRecDepth 20000 in
theorem ggX6_endSequence_X3_becomeEmpty : GoodIn wsX6_endSequence wsX3_becomeEmpty := goodIn_r _ [19, 12, 13, 14, 7, 15, 9, 10, 11, 24, 25, 26] (by decide +kernel) (by decide +kernel)
set_option maxRecDepth 20000 in
theorem gX6_endSequence_X3_becomeEmpty : GoodIn wsX6_endSequence (wsV RX6 46 RX3 yX3_becomeEmpty wsX3_becomeEmpty) := goodIn_app (goodIn_of _ (by decide +kernel)) ggX6_endSequence_X3_becomeEmpty
theorem dX6_endSequence_0 : decode cX6_endSequence 0 = .ok (.aload_n 0, 1) := by decide +kernel
theorem dX6_endSequence_1 : decode cX6_endSequence 1 = .ok (.getfield 11, 3) := by decide +kernel
theorem dX6_endSequence_4 : decode cX6_endSequence 4 = .ok (.aload_n 0, 1) := by decide +kernel
theorem dX6_endSequence_5 : decode cX6_endSequence 5 = .ok (.getfield 49, 3) := by decide +kernel
theorem dX6_endSequence_8 : decode cX6_endSequence 8 = .ok (.aaload, 1) := by decide +kernel
theorem dX6_endSequence_9 : decode cX6_endSequence 9 = .ok (.aload_n 0, 1) := by decide +kernel
theorem dX6_endSequence_10 : decode cX6_endSequence 10 = .ok (.getfield 17, 3) := by decide +kernel
theorem dX6_endSequence_13 : decode cX6_endSequence 13 = .ok (.aload_n 0, 1) := by decide +kernel
theorem dX6_endSequence_14 : decode cX6_endSequence 14 = .ok (.getfield 49, 3) := by decide +kernel
theorem dX6_endSequence_17 : decode cX6_endSequence 17 = .ok (.aaload, 1) := by decide +kernel
theorem dX6_endSequence_18 : decode cX6_endSequence 18 = .ok (.invokevirtual 111, 3) := by decide +kernel
theorem dX6_endSequence_21 : decode cX6_endSequence 21 = .ok (.aload_n 0, 1) := by decide +kernel
theorem dX6_endSequence_22 : decode cX6_endSequence 22 = .ok (.getfield 17, 3) := by decide +kernel
theorem dX6_endSequence_25 : decode cX6_endSequence 25 = .ok (.aload_n 0, 1) := by decide +kernel
theorem dX6_endSequence_26 : decode cX6_endSequence 26 = .ok (.getfield 49, 3) := by decide +kernel
theorem dX6_endSequence_29 : decode cX6_endSequence 29 = .ok (.aaload, 1) := by decide +kernel
theorem dX6_endSequence_30 : decode cX6_endSequence 30 = .ok (.invokevirtual 46, 3) := by decide +kernel
theorem dX6_endSequence_33 : decode cX6_endSequence 33 = .ok (.return_, 1) := by decide +kernel
set_option maxRecDepth 20000 in
theorem ggX6_endAlternatives_X6_endSequence : GoodIn wsX6_endAlternatives wsX6_endSequence := goodIn_r _ [10, 1, 2, 11, 12, 13, 14, 15, 16, 17, 18, 19, 20, 21, 22, 23, 24, 25, 26, 27, 37, 38, 39, 40, 41, 42, 43] (by decide +kernel) (by decide +kernel)
set_option maxRecDepth 20000 in
theorem gX6_endAlternatives_X6_endSequence : GoodIn wsX6_endAlternatives (wsV RX6 79 RX6 yX6_endSequence wsX6_endSequence) := goodIn_app (goodIn_of _ (by decide +kernel)) ggX6_endAlternatives_X6_endSequence
set_option maxRecDepth 20000 in
theorem ggX6_endAlternatives_X3_become : GoodIn wsX6_endAlternatives wsX3_become := goodIn_r _ [23, 17, 18, 19, 41, 42, 43] (by decide +kernel) (by decide +kernel)
set_option maxRecDepth 20000 in
theorem gX6_endAlternatives_X3_become : GoodIn wsX6_endAlternatives (wsV RX6 107 RX3 yX3_become wsX3_become) := goodIn_app (goodIn_of _ (by decide +kernel)) ggX6_endAlternatives_X3_become
set_option maxRecDepth 20000 in
theorem ggX6_endAlternatives_X6_beginLevel : GoodIn wsX6_endAlternatives wsX6_beginLevel := goodIn_r _ [32, 1, 2, 11, 33, 34, 35, 15, 36, 20, 21, 22, 23, 17, 18, 19, 24, 25, 26, 27, 37, 38, 39, 40, 41, 42, 43] (by decide +kernel) (by decide +kernel)
set_option maxRecDepth 20000 in
theorem gX6_endAlternatives_X6_beginLevel : GoodIn wsX6_endAlternatives (wsV RX6 53 RX6 yX6_beginLevel wsX6_beginLevel) := goodIn_app (goodIn_of _ (by decide +kernel)) ggX6_endAlternatives_X6_beginLevel
theorem dX6_endAlternatives_0 : decode cX6_endAlternatives 0 = .ok (.aload_n 0, 1) := by decide +kernel
theorem dX6_endAlternatives_1 : decode cX6_endAlternatives 1 = .ok (.invokevirtual 79, 3) := by decide +kernel
theorem dX6_endAlternatives_4 : decode cX6_endAlternatives 4 = .ok (.aload_n 0, 1) := by decide +kernel
theorem dX6_endAlternatives_5 : decode cX6_endAlternatives 5 = .ok (.getfield 11, 3) := by decide +kernel
theorem dX6_endAlternatives_8 : decode cX6_endAlternatives 8 = .ok (.aload_n 0, 1) := by decide +kernel
theorem dX6_endAlternatives_9 : decode cX6_endAlternatives 9 = .ok (.getfield 49, 3) := by decide +kernel
theorem dX6_endAlternatives_12 : decode cX6_endAlternatives 12 = .ok (.aaload, 1) := by decide +kernel
theorem dX6_endAlternatives_13 : decode cX6_endAlternatives 13 = .ok (.astore_n 2, 1) := by decide +kernel
theorem dX6_endAlternatives_14 : decode cX6_endAlternatives 14 = .ok (.aload_n 1, 1) := by decide +kernel
theorem dX6_endAlternatives_15 : decode cX6_endAlternatives 15 = .ok (.aload_n 2, 1) := by decide +kernel
theorem dX6_endAlternatives_16 : decode cX6_endAlternatives 16 = .ok (.getfield 97, 3) := by decide +kernel
theorem dX6_endAlternatives_19 : decode cX6_endAlternatives 19 = .ok (.aload_n 2, 1) := by decide +kernel
theorem dX6_endAlternatives_20 : decode cX6_endAlternatives 20 = .ok (.getfield 100, 3) := by decide +kernel
theorem dX6_endAlternatives_23 : decode cX6_endAlternatives 23 = .ok (.aload_n 2, 1) := by decide +kernel
theorem dX6_endAlternatives_24 : decode cX6_endAlternatives 24 = .ok (.getfield 103, 3) := by decide +kernel
theorem dX6_endAlternatives_27 : decode cX6_endAlternatives 27 = .ok (.invokevirtual 107, 3) := by decide +kernel
theorem dX6_endAlternatives_30 : decode cX6_endAlternatives 30 = .ok (.aload_n 0, 1) := by decide +kernel
theorem dX6_endAlternatives_31 : decode cX6_endAlternatives 31 = .ok (.invokevirtual 53, 3) := by decide +kernel
theorem dX6_endAlternatives_34 : decode cX6_endAlternatives 34 = .ok (.return_, 1) := by decide +kernel
set_option maxRecDepth 20000 in
theorem ggX6_takeLeaf_X3_become : GoodIn wsX6_takeLeaf wsX3_become := goodIn_r _ [7, 8, 9, 10, 24, 25, 26] (by decide +kernel) (by decide +kernel)
set_option maxRecDepth 20000 in
theorem gX6_takeLeaf_X3_become : GoodIn wsX6_takeLeaf (wsV RX6 107 RX3 yX3_become wsX3_become) := goodIn_app (goodIn_of _ (by decide +kernel)) ggX6_takeLeaf_X3_become
theorem dX6_takeLeaf_0 : decode cX6_takeLeaf 0 = .ok (.iconst 1, 1) := by decide +kernel
theorem dX6_takeLeaf_1 : decode cX6_takeLeaf 1 = .ok (.iload_n 2, 1) := by decide +kernel
theorem dX6_takeLeaf_2 : decode cX6_takeLeaf 2 = .ok (.ishl, 1) := by decide +kernel
theorem dX6_takeLeaf_3 : decode cX6_takeLeaf 3 = .ok (.istore 4, 2) := by decide +kernel
theorem dX6_takeLeaf_5 : decode cX6_takeLeaf 5 = .ok (.iconst 0, 1) := by decide +kernel
theorem dX6_takeLeaf_6 : decode cX6_takeLeaf 6 = .ok (.istore 5, 2) := by decide +kernel
theorem dX6_takeLeaf_8 : decode cX6_takeLeaf 8 = .ok (.iload 5, 2) := by decide +kernel
theorem dX6_takeLeaf_10 : decode cX6_takeLeaf 10 = .ok (.bipush 12, 2) := by decide +kernel
theorem dX6_takeLeaf_12 : decode cX6_takeLeaf 12 = .ok (.if_icmp .ge 36, 3) := by decide +kernel
theorem dX6_takeLeaf_15 : decode cX6_takeLeaf 15 = .ok (.iload_n 3, 1) := by decide +kernel
theorem dX6_takeLeaf_16 : decode cX6_takeLeaf 16 = .ok (.bipush 46, 2) := by decide +kernel
theorem dX6_takeLeaf_18 : decode cX6_takeLeaf 18 = .ok (.if_icmp .eq 12, 3) := by decide +kernel
theorem dX6_takeLeaf_21 : decode cX6_takeLeaf 21 = .ok (.iload_n 3, 1) := by decide +kernel
theorem dX6_takeLeaf_22 : decode cX6_takeLeaf 22 = .ok (.bipush 65, 2) := by decide +kernel
theorem dX6_takeLeaf_24 : decode cX6_takeLeaf 24 = .ok (.iload 5, 2) := by decide +kernel
theorem dX6_takeLeaf_26 : decode cX6_takeLeaf 26 = .ok (.iadd, 1) := by decide +kernel
theorem dX6_takeLeaf_27 : decode cX6_takeLeaf 27 = .ok (.if_icmp .ne 15, 3) := by decide +kernel
theorem dX6_takeLeaf_30 : decode cX6_takeLeaf 30 = .ok (.aload_n 1, 1) := by decide +kernel
theorem dX6_takeLeaf_31 : decode cX6_takeLeaf 31 = .ok (.getfield 37, 3) := by decide +kernel
theorem dX6_takeLeaf_34 : decode cX6_takeLeaf 34 = .ok (.iload 5, 2) := by decide +kernel
theorem dX6_takeLeaf_36 : decode cX6_takeLeaf 36 = .ok (.dup2, 1) := by decide +kernel
theorem dX6_takeLeaf_37 : decode cX6_takeLeaf 37 = .ok (.iaload, 1) := by decide +kernel
theorem dX6_takeLeaf_38 : decode cX6_takeLeaf 38 = .ok (.iload 4, 2) := by decide +kernel
theorem dX6_takeLeaf_40 : decode cX6_takeLeaf 40 = .ok (.ior, 1) := by decide +kernel
theorem dX6_takeLeaf_41 : decode cX6_takeLeaf 41 = .ok (.iastore, 1) := by decide +kernel
theorem dX6_takeLeaf_42 : decode cX6_takeLeaf 42 = .ok (.iinc 5 1, 3) := by decide +kernel
theorem dX6_takeLeaf_45 : decode cX6_takeLeaf 45 = .ok (.goto (-37), 3) := by decide +kernel
theorem dX6_takeLeaf_48 : decode cX6_takeLeaf 48 = .ok (.aload_n 0, 1) := by decide +kernel
theorem dX6_takeLeaf_49 : decode cX6_takeLeaf 49 = .ok (.getfield 21, 3) := by decide +kernel
theorem dX6_takeLeaf_52 : decode cX6_takeLeaf 52 = .ok (.iload 4, 2) := by decide +kernel
theorem dX6_takeLeaf_54 : decode cX6_takeLeaf 54 = .ok (.iload 4, 2) := by decide +kernel
theorem dX6_takeLeaf_56 : decode cX6_takeLeaf 56 = .ok (.iconst 0, 1) := by decide +kernel
theorem dX6_takeLeaf_57 : decode cX6_takeLeaf 57 = .ok (.invokevirtual 107, 3) := by decide +kernel
theorem dX6_takeLeaf_60 : decode cX6_takeLeaf 60 = .ok (.return_, 1) := by decide +kernel
set_option maxRecDepth 20000 in
theorem ggX6_addItem_X6_link : GoodIn wsX6_addItem wsX6_link := goodIn_r _ [11, 12, 32, 33, 34, 35, 36, 37, 38, 39, 40] (by decide +kernel) (by decide +kernel)
set_option maxRecDepth 20000 in
theorem gX6_addItem_X6_link : GoodIn wsX6_addItem (wsV RX6 114 RX6 yX6_link wsX6_link) := goodIn_app (goodIn_of _ (by decide +kernel)) ggX6_addItem_X6_link
set_option maxRecDepth 20000 in
theorem ggX6_addItem_X3_followedBy : GoodIn wsX6_addItem wsX3_followedBy := goodIn_r _ [17, 18, 19, 20, 21, 22, 23, 16, 24, 29, 30, 31] (by decide +kernel) (by decide +kernel)
set_option maxRecDepth 20000 in
theorem gX6_addItem_X3_followedBy : GoodIn wsX6_addItem (wsV RX6 118 RX3 yX3_followedBy wsX3_followedBy) := goodIn_app (goodIn_of _ (by decide +kernel)) ggX6_addItem_X3_followedBy
theorem dX6_addItem_0 : decode cX6_addItem 0 = .ok (.iload_n 2, 1) := by decide +kernel
theorem dX6_addItem_1 : decode cX6_addItem 1 = .ok (.bipush 42, 2) := by decide +kernel
theorem dX6_addItem_3 : decode cX6_addItem 3 = .ok (.if_icmp .eq 9, 3) := by decide +kernel
theorem dX6_addItem_6 : decode cX6_addItem 6 = .ok (.iload_n 2, 1) := by decide +kernel
theorem dX6_addItem_7 : decode cX6_addItem 7 = .ok (.bipush 43, 2) := by decide +kernel
theorem dX6_addItem_9 : decode cX6_addItem 9 = .ok (.if_icmp .ne 22, 3) := by decide +kernel
theorem dX6_addItem_12 : decode cX6_addItem 12 = .ok (.aload_n 0, 1) := by decide +kernel
theorem dX6_addItem_13 : decode cX6_addItem 13 = .ok (.aload_n 1, 1) := by decide +kernel
theorem dX6_addItem_14 : decode cX6_addItem 14 = .ok (.aload_n 0, 1) := by decide +kernel
theorem dX6_addItem_15 : decode cX6_addItem 15 = .ok (.getfield 21, 3) := by decide +kernel
theorem dX6_addItem_18 : decode cX6_addItem 18 = .ok (.getfield 100, 3) := by decide +kernel
theorem dX6_addItem_21 : decode cX6_addItem 21 = .ok (.aload_n 0, 1) := by decide +kernel
theorem dX6_addItem_22 : decode cX6_addItem 22 = .ok (.getfield 21, 3) := by decide +kernel
theorem dX6_addItem_25 : decode cX6_addItem 25 = .ok (.getfield 97, 3) := by decide +kernel
theorem dX6_addItem_28 : decode cX6_addItem 28 = .ok (.invokevirtual 114, 3) := by decide +kernel
theorem dX6_addItem_31 : decode cX6_addItem 31 = .ok (.iload_n 2, 1) := by decide +kernel
theorem dX6_addItem_32 : decode cX6_addItem 32 = .ok (.bipush 42, 2) := by decide +kernel
theorem dX6_addItem_34 : decode cX6_addItem 34 = .ok (.if_icmp .eq 9, 3) := by decide +kernel
theorem dX6_addItem_37 : decode cX6_addItem 37 = .ok (.iload_n 2, 1) := by decide +kernel
theorem dX6_addItem_38 : decode cX6_addItem 38 = .ok (.bipush 63, 2) := by decide +kernel
theorem dX6_addItem_40 : decode cX6_addItem 40 = .ok (.if_icmp .ne 11, 3) := by decide +kernel
theorem dX6_addItem_43 : decode cX6_addItem 43 = .ok (.aload_n 0, 1) := by decide +kernel
theorem dX6_addItem_44 : decode cX6_addItem 44 = .ok (.getfield 21, 3) := by decide +kernel
theorem dX6_addItem_47 : decode cX6_addItem 47 = .ok (.iconst 1, 1) := by decide +kernel
theorem dX6_addItem_48 : decode cX6_addItem 48 = .ok (.putfield 103, 3) := by decide +kernel
theorem dX6_addItem_51 : decode cX6_addItem 51 = .ok (.aload_n 0, 1) := by decide +kernel
theorem dX6_addItem_52 : decode cX6_addItem 52 = .ok (.aload_n 1, 1) := by decide +kernel
theorem dX6_addItem_53 : decode cX6_addItem 53 = .ok (.aload_n 0, 1) := by decide +kernel
theorem dX6_addItem_54 : decode cX6_addItem 54 = .ok (.getfield 17, 3) := by decide +kernel
theorem dX6_addItem_57 : decode cX6_addItem 57 = .ok (.aload_n 0, 1) := by decide +kernel
theorem dX6_addItem_58 : decode cX6_addItem 58 = .ok (.getfield 49, 3) := by decide +kernel
theorem dX6_addItem_61 : decode cX6_addItem 61 = .ok (.aaload, 1) := by decide +kernel
theorem dX6_addItem_62 : decode cX6_addItem 62 = .ok (.getfield 100, 3) := by decide +kernel
theorem dX6_addItem_65 : decode cX6_addItem 65 = .ok (.aload_n 0, 1) := by decide +kernel
theorem dX6_addItem_66 : decode cX6_addItem 66 = .ok (.getfield 21, 3) := by decide +kernel
theorem dX6_addItem_69 : decode cX6_addItem 69 = .ok (.getfield 97, 3) := by decide +kernel
theorem dX6_addItem_72 : decode cX6_addItem 72 = .ok (.invokevirtual 114, 3) := by decide +kernel
theorem dX6_addItem_75 : decode cX6_addItem 75 = .ok (.aload_n 0, 1) := by decide +kernel
theorem dX6_addItem_76 : decode cX6_addItem 76 = .ok (.getfield 17, 3) := by decide +kernel
theorem dX6_addItem_79 : decode cX6_addItem 79 = .ok (.aload_n 0, 1) := by decide +kernel
theorem dX6_addItem_80 : decode cX6_addItem 80 = .ok (.getfield 49, 3) := by decide +kernel
theorem dX6_addItem_83 : decode cX6_addItem 83 = .ok (.aaload, 1) := by decide +kernel
theorem dX6_addItem_84 : decode cX6_addItem 84 = .ok (.aload_n 0, 1) := by decide +kernel
theorem dX6_addItem_85 : decode cX6_addItem 85 = .ok (.getfield 21, 3) := by decide +kernel
theorem dX6_addItem_88 : decode cX6_addItem 88 = .ok (.invokevirtual 118, 3) := by decide +kernel
theorem dX6_addItem_91 : decode cX6_addItem 91 = .ok (.return_, 1) := by decide +kernel
theorem dX6_link_0 : decode cX6_link 0 = .ok (.iconst 0, 1) := by decide +kernel
theorem dX6_link_1 : decode cX6_link 1 = .ok (.istore 4, 2) := by decide +kernel
theorem dX6_link_3 : decode cX6_link 3 = .ok (.iload 4, 2) := by decide +kernel
theorem dX6_link_5 : decode cX6_link 5 = .ok (.bipush 24, 2) := by decide +kernel
theorem dX6_link_7 : decode cX6_link 7 = .ok (.if_icmp .ge 29, 3) := by decide +kernel
theorem dX6_link_10 : decode cX6_link 10 = .ok (.iload_n 2, 1) := by decide +kernel
theorem dX6_link_11 : decode cX6_link 11 = .ok (.iload 4, 2) := by decide +kernel
theorem dX6_link_13 : decode cX6_link 13 = .ok (.ishr, 1) := by decide +kernel
theorem dX6_link_14 : decode cX6_link 14 = .ok (.iconst 1, 1) := by decide +kernel
theorem dX6_link_15 : decode cX6_link 15 = .ok (.iand, 1) := by decide +kernel
theorem dX6_link_16 : decode cX6_link 16 = .ok (.ifCond .eq 14, 3) := by decide +kernel
theorem dX6_link_19 : decode cX6_link 19 = .ok (.aload_n 1, 1) := by decide +kernel
theorem dX6_link_20 : decode cX6_link 20 = .ok (.getfield 25, 3) := by decide +kernel
theorem dX6_link_23 : decode cX6_link 23 = .ok (.iload 4, 2) := by decide +kernel
theorem dX6_link_25 : decode cX6_link 25 = .ok (.dup2, 1) := by decide +kernel
theorem dX6_link_26 : decode cX6_link 26 = .ok (.iaload, 1) := by decide +kernel
theorem dX6_link_27 : decode cX6_link 27 = .ok (.iload_n 3, 1) := by decide +kernel
theorem dX6_link_28 : decode cX6_link 28 = .ok (.ior, 1) := by decide +kernel
theorem dX6_link_29 : decode cX6_link 29 = .ok (.iastore, 1) := by decide +kernel
theorem dX6_link_30 : decode cX6_link 30 = .ok (.iinc 4 1, 3) := by decide +kernel
theorem dX6_link_33 : decode cX6_link 33 = .ok (.goto (-30), 3) := by decide +kernel
theorem dX6_link_36 : decode cX6_link 36 = .ok (.return_, 1) := by decide +kernel
set_option maxRecDepth 20000 in
theorem ggX7_init_X4_init : GoodIn wsX7_init wsX4_init := goodIn_r _ [12, 13, 2, 3, 14, 15, 16, 17, 18, 19, 24, 25] (by decide +kernel) (by decide +kernel)
set_option maxRecDepth 20000 in
theorem gX7_init_X4_init : GoodIn wsX7_init (wsX4_init) := ggX7_init_X4_init
set_option maxRecDepth 20000 in
theorem ggX7_init_X7_firstClassOf : GoodIn wsX7_init wsX7_firstClassOf := goodIn_r _ [23] (by decide +kernel) (by decide +kernel)
set_option maxRecDepth 20000 in
theorem gX7_init_X7_firstClassOf : GoodIn wsX7_init (va_wsS RX7 24 yX7_firstClassOf wsX7_firstClassOf) := goodIn_app (goodIn_of _ (by decide +kernel)) ggX7_init_X7_firstClassOf
theorem dX7_init_0 : decode cX7_init 0 = .ok (.aload_n 0, 1) := by decide +kernel
theorem dX7_init_1 : decode cX7_init 1 = .ok (.invokespecial 3, 3) := by decide +kernel
theorem dX7_init_4 : decode cX7_init 4 = .ok (.aload_n 0, 1) := by decide +kernel
theorem dX7_init_5 : decode cX7_init 5 = .ok (.new 9, 3) := by decide +kernel
theorem dX7_init_8 : decode cX7_init 8 = .ok (.dup, 1) := by decide +kernel
theorem dX7_init_9 : decode cX7_init 9 = .ok (.bipush 100, 2) := by decide +kernel
theorem dX7_init_11 : decode cX7_init 11 = .ok (.invokespecial 11, 3) := by decide +kernel
theorem dX7_init_14 : decode cX7_init 14 = .ok (.putfield 14, 3) := by decide +kernel
theorem dX7_init_17 : decode cX7_init 17 = .ok (.aload_n 0, 1) := by decide +kernel
theorem dX7_init_18 : decode cX7_init 18 = .ok (.bipush 95, 2) := by decide +kernel
theorem dX7_init_20 : decode cX7_init 20 = .ok (.newarray .int, 2) := by decide +kernel
theorem dX7_init_22 : decode cX7_init 22 = .ok (.putfield 20, 3) := by decide +kernel
theorem dX7_init_25 : decode cX7_init 25 = .ok (.iconst 0, 1) := by decide +kernel
theorem dX7_init_26 : decode cX7_init 26 = .ok (.istore_n 1, 1) := by decide +kernel
theorem dX7_init_27 : decode cX7_init 27 = .ok (.iload_n 1, 1) := by decide +kernel
theorem dX7_init_28 : decode cX7_init 28 = .ok (.aload_n 0, 1) := by decide +kernel
theorem dX7_init_29 : decode cX7_init 29 = .ok (.getfield 20, 3) := by decide +kernel
theorem dX7_init_32 : decode cX7_init 32 = .ok (.arraylength, 1) := by decide +kernel
theorem dX7_init_33 : decode cX7_init 33 = .ok (.if_icmp .ge 22, 3) := by decide +kernel
theorem dX7_init_36 : decode cX7_init 36 = .ok (.aload_n 0, 1) := by decide +kernel
theorem dX7_init_37 : decode cX7_init 37 = .ok (.getfield 20, 3) := by decide +kernel
theorem dX7_init_40 : decode cX7_init 40 = .ok (.iload_n 1, 1) := by decide +kernel
theorem dX7_init_41 : decode cX7_init 41 = .ok (.bipush 32, 2) := by decide +kernel
theorem dX7_init_43 : decode cX7_init 43 = .ok (.iload_n 1, 1) := by decide +kernel
theorem dX7_init_44 : decode cX7_init 44 = .ok (.iadd, 1) := by decide +kernel
theorem dX7_init_45 : decode cX7_init 45 = .ok (.invokestatic 24, 3) := by decide +kernel
theorem dX7_init_48 : decode cX7_init 48 = .ok (.iastore, 1) := by decide +kernel
theorem dX7_init_49 : decode cX7_init 49 = .ok (.iinc 1 1, 3) := by decide +kernel
theorem dX7_init_52 : decode cX7_init 52 = .ok (.goto (-25), 3) := by decide +kernel
theorem dX7_init_55 : decode cX7_init 55 = .ok (.return_, 1) := by decide +kernel
theorem dX7_firstClassOf_0 : decode cX7_firstClassOf 0 = .ok (.iload_n 0, 1) := by decide +kernel
theorem dX7_firstClassOf_1 : decode cX7_firstClassOf 1 = .ok (.bipush 97, 2) := by decide +kernel
theorem dX7_firstClassOf_3 : decode cX7_firstClassOf 3 = .ok (.if_icmp .lt 9, 3) := by decide +kernel
theorem dX7_firstClassOf_6 : decode cX7_firstClassOf 6 = .ok (.iload_n 0, 1) := by decide +kernel
theorem dX7_firstClassOf_7 : decode cX7_firstClassOf 7 = .ok (.bipush 122, 2) := by decide +kernel
theorem dX7_firstClassOf_9 : decode cX7_firstClassOf 9 = .ok (.if_icmp .le 15, 3) := by decide +kernel
theorem dX7_firstClassOf_12 : decode cX7_firstClassOf 12 = .ok (.iload_n 0, 1) := by decide +kernel
theorem dX7_firstClassOf_13 : decode cX7_firstClassOf 13 = .ok (.bipush 65, 2) := by decide +kernel
theorem dX7_firstClassOf_15 : decode cX7_firstClassOf 15 = .ok (.if_icmp .lt 11, 3) := by decide +kernel
theorem dX7_firstClassOf_18 : decode cX7_firstClassOf 18 = .ok (.iload_n 0, 1) := by decide +kernel
theorem dX7_firstClassOf_19 : decode cX7_firstClassOf 19 = .ok (.bipush 90, 2) := by decide +kernel
theorem dX7_firstClassOf_21 : decode cX7_firstClassOf 21 = .ok (.if_icmp .gt 5, 3) := by decide +kernel
theorem dX7_firstClassOf_24 : decode cX7_firstClassOf 24 = .ok (.iconst 0, 1) := by decide +kernel
theorem dX7_firstClassOf_25 : decode cX7_firstClassOf 25 = .ok (.ireturn, 1) := by decide +kernel
theorem dX7_firstClassOf_26 : decode cX7_firstClassOf 26 = .ok (.iload_n 0, 1) := by decide +kernel
theorem dX7_firstClassOf_27 : decode cX7_firstClassOf 27 = .ok (.bipush 48, 2) := by decide +kernel
theorem dX7_firstClassOf_29 : decode cX7_firstClassOf 29 = .ok (.if_icmp .lt 11, 3) := by decide +kernel
theorem dX7_firstClassOf_32 : decode cX7_firstClassOf 32 = .ok (.iload_n 0, 1) := by decide +kernel
theorem dX7_firstClassOf_33 : decode cX7_firstClassOf 33 = .ok (.bipush 57, 2) := by decide +kernel
theorem dX7_firstClassOf_35 : decode cX7_firstClassOf 35 = .ok (.if_icmp .gt 5, 3) := by decide +kernel
theorem dX7_firstClassOf_38 : decode cX7_firstClassOf 38 = .ok (.iconst 1, 1) := by decide +kernel
theorem dX7_firstClassOf_39 : decode cX7_firstClassOf 39 = .ok (.ireturn, 1) := by decide +kernel
theorem dX7_firstClassOf_40 : decode cX7_firstClassOf 40 = .ok (.iload_n 0, 1) := by decide +kernel
theorem dX7_firstClassOf_41 : decode cX7_firstClassOf 41 = .ok (.lookupswitch 170 #[(32, 147), (33, 153), (34, 164), (39, 155), (40, 161), (41, 164), (44, 151), (45, 158), (46, 149), (58, 151), (59, 151), (63, 153), (91, 161), (93, 164), (94, 167), (96, 167), (126, 167)], 147) := by decide +kernel
theorem dX7_firstClassOf_188 : decode cX7_firstClassOf 188 = .ok (.iconst 2, 1) := by decide +kernel
theorem dX7_firstClassOf_189 : decode cX7_firstClassOf 189 = .ok (.ireturn, 1) := by decide +kernel
theorem dX7_firstClassOf_190 : decode cX7_firstClassOf 190 = .ok (.iconst 3, 1) := by decide +kernel
theorem dX7_firstClassOf_191 : decode cX7_firstClassOf 191 = .ok (.ireturn, 1) := by decide +kernel
theorem dX7_firstClassOf_192 : decode cX7_firstClassOf 192 = .ok (.iconst 4, 1) := by decide +kernel
theorem dX7_firstClassOf_193 : decode cX7_firstClassOf 193 = .ok (.ireturn, 1) := by decide +kernel
theorem dX7_firstClassOf_194 : decode cX7_firstClassOf 194 = .ok (.iconst 5, 1) := by decide +kernel
theorem dX7_firstClassOf_195 : decode cX7_firstClassOf 195 = .ok (.ireturn, 1) := by decide +kernel
theorem dX7_firstClassOf_196 : decode cX7_firstClassOf 196 = .ok (.bipush 6, 2) := by decide +kernel
theorem dX7_firstClassOf_198 : decode cX7_firstClassOf 198 = .ok (.ireturn, 1) := by decide +kernel
theorem dX7_firstClassOf_199 : decode cX7_firstClassOf 199 = .ok (.bipush 7, 2) := by decide +kernel
theorem dX7_firstClassOf_201 : decode cX7_firstClassOf 201 = .ok (.ireturn, 1) := by decide +kernel
theorem dX7_firstClassOf_202 : decode cX7_firstClassOf 202 = .ok (.bipush 8, 2) := by decide +kernel
theorem dX7_firstClassOf_204 : decode cX7_firstClassOf 204 = .ok (.ireturn, 1) := by decide +kernel
theorem dX7_firstClassOf_205 : decode cX7_firstClassOf 205 = .ok (.bipush 9, 2) := by decide +kernel
theorem dX7_firstClassOf_207 : decode cX7_firstClassOf 207 = .ok (.ireturn, 1) := by decide +kernel
theorem dX7_firstClassOf_208 : decode cX7_firstClassOf 208 = .ok (.bipush 10, 2) := by decide +kernel
