theorem dX9_segmentAt_30 : decode cX9_segmentAt 30 = .ok (.iload_n 2, 1) := by decide +kernel
theorem dX9_segmentAt_31 : decode cX9_segmentAt 31 = .ok (.invokevirtual 225, 3) := by decide +kernel
theorem dX9_segmentAt_34 : decode cX9_segmentAt 34 = .ok (.goto 4, 3) := by decide +kernel
theorem dX9_segmentAt_37 : decode cX9_segmentAt 37 = .ok (.iconst 0, 1) := by decide +kernel
theorem dX9_segmentAt_38 : decode cX9_segmentAt 38 = .ok (.istore 5, 2) := by decide +kernel
theorem dX9_segmentAt_40 : decode cX9_segmentAt 40 = .ok (.iload 5, 2) := by decide +kernel
theorem dX9_segmentAt_42 : decode cX9_segmentAt 42 = .ok (.iload_n 3, 1) := by decide +kernel
theorem dX9_segmentAt_43 : decode cX9_segmentAt 43 = .ok (.if_icmp .le 8, 3) := by decide +kernel
theorem dX9_segmentAt_46 : decode cX9_segmentAt 46 = .ok (.iload 5, 2) := by decide +kernel
theorem dX9_segmentAt_48 : decode cX9_segmentAt 48 = .ok (.goto 4, 3) := by decide +kernel
theorem dX9_segmentAt_51 : decode cX9_segmentAt 51 = .ok (.iload_n 3, 1) := by decide +kernel
theorem dX9_segmentAt_52 : decode cX9_segmentAt 52 = .ok (.istore_n 3, 1) := by decide +kernel
theorem dX9_segmentAt_53 : decode cX9_segmentAt 53 = .ok (.iinc 4 1, 3) := by decide +kernel
theorem dX9_segmentAt_56 : decode cX9_segmentAt 56 = .ok (.goto (-49), 3) := by decide +kernel
theorem dX9_segmentAt_59 : decode cX9_segmentAt 59 = .ok (.iload_n 3, 1) := by decide +kernel
theorem dX9_segmentAt_60 : decode cX9_segmentAt 60 = .ok (.ireturn, 1) := by decide +kernel
set_option maxRecDepth 20000 in
theorem ggX9_farOf_X9_matching : GoodIn wsX9_farOf wsX9_matching := goodIn_r _ [10, 11, 12, 13, 14, 20, 21, 22, 23, 24, 25, 26, 27, 28, 29, 30, 31, 32, 33, 34, 35, 36, 37, 38, 39, 40, 41, 42, 43, 44, 45, 46, 47, 48, 49, 50, 51, 52, 53, 54, 55, 56, 57, 58, 59, 60, 61, 62, 63, 64, 65, 66, 67, 68, 69, 70, 71, 72, 73] (by decide +kernel) (by decide +kernel)
set_option maxRecDepth 20000 in
theorem gX9_farOf_X9_matching : GoodIn wsX9_farOf (wsV RX9 210 RX9 yX9_matching wsX9_matching) := goodIn_app (goodIn_of _ (by decide +kernel)) ggX9_farOf_X9_matching
set_option maxRecDepth 20000 in
theorem ggX9_farOf_X9_behind : GoodIn wsX9_farOf wsX9_behind := goodIn_r _ [18, 13, 19, 20, 21, 22, 23, 24, 25, 26, 27, 28, 29, 30, 31, 32, 33, 34, 35, 36, 37, 38, 39, 40, 41, 42, 43, 44, 45, 46, 47, 48, 49, 50, 51, 52, 53, 54, 55, 56, 57, 58, 59, 60, 61, 62, 63, 64, 65, 66, 67, 68, 69, 70, 71, 72, 73] (by decide +kernel) (by decide +kernel)
set_option maxRecDepth 20000 in
theorem gX9_farOf_X9_behind : GoodIn wsX9_farOf (wsV RX9 214 RX9 yX9_behind wsX9_behind) := goodIn_app (goodIn_of _ (by decide +kernel)) ggX9_farOf_X9_behind
theorem dX9_farOf_0 : decode cX9_farOf 0 = .ok (.aload_n 0, 1) := by decide +kernel
theorem dX9_farOf_1 : decode cX9_farOf 1 = .ok (.getfield 63, 3) := by decide +kernel
theorem dX9_farOf_4 : decode cX9_farOf 4 = .ok (.iload_n 1, 1) := by decide +kernel
theorem dX9_farOf_5 : decode cX9_farOf 5 = .ok (.iaload, 1) := by decide +kernel
theorem dX9_farOf_6 : decode cX9_farOf 6 = .ok (.aload_n 0, 1) := by decide +kernel
theorem dX9_farOf_7 : decode cX9_farOf 7 = .ok (.getfield 60, 3) := by decide +kernel
theorem dX9_farOf_10 : decode cX9_farOf 10 = .ok (.iload_n 1, 1) := by decide +kernel
theorem dX9_farOf_11 : decode cX9_farOf 11 = .ok (.baload, 1) := by decide +kernel
theorem dX9_farOf_12 : decode cX9_farOf 12 = .ok (.ifCond .eq 12, 3) := by decide +kernel
theorem dX9_farOf_15 : decode cX9_farOf 15 = .ok (.aload_n 0, 1) := by decide +kernel
theorem dX9_farOf_16 : decode cX9_farOf 16 = .ok (.getfield 72, 3) := by decide +kernel
theorem dX9_farOf_19 : decode cX9_farOf 19 = .ok (.iload_n 1, 1) := by decide +kernel
theorem dX9_farOf_20 : decode cX9_farOf 20 = .ok (.iaload, 1) := by decide +kernel
theorem dX9_farOf_21 : decode cX9_farOf 21 = .ok (.goto 4, 3) := by decide +kernel
theorem dX9_farOf_24 : decode cX9_farOf 24 = .ok (.iconst 0, 1) := by decide +kernel
theorem dX9_farOf_25 : decode cX9_farOf 25 = .ok (.ior, 1) := by decide +kernel
theorem dX9_farOf_26 : decode cX9_farOf 26 = .ok (.istore_n 3, 1) := by decide +kernel
theorem dX9_farOf_27 : decode cX9_farOf 27 = .ok (.iload_n 2, 1) := by decide +kernel
theorem dX9_farOf_28 : decode cX9_farOf 28 = .ok (.istore 4, 2) := by decide +kernel
theorem dX9_farOf_30 : decode cX9_farOf 30 = .ok (.iload 4, 2) := by decide +kernel
theorem dX9_farOf_32 : decode cX9_farOf 32 = .ok (.aload_n 0, 1) := by decide +kernel
theorem dX9_farOf_33 : decode cX9_farOf 33 = .ok (.getfield 207, 3) := by decide +kernel
theorem dX9_farOf_36 : decode cX9_farOf 36 = .ok (.if_icmp .ge 60, 3) := by decide +kernel
theorem dX9_farOf_39 : decode cX9_farOf 39 = .ok (.aload_n 0, 1) := by decide +kernel
theorem dX9_farOf_40 : decode cX9_farOf 40 = .ok (.iload_n 1, 1) := by decide +kernel
theorem dX9_farOf_41 : decode cX9_farOf 41 = .ok (.iload_n 3, 1) := by decide +kernel
theorem dX9_farOf_42 : decode cX9_farOf 42 = .ok (.iload 4, 2) := by decide +kernel
theorem dX9_farOf_44 : decode cX9_farOf 44 = .ok (.invokevirtual 210, 3) := by decide +kernel
theorem dX9_farOf_47 : decode cX9_farOf 47 = .ok (.istore 5, 2) := by decide +kernel
theorem dX9_farOf_49 : decode cX9_farOf 49 = .ok (.iinc 4 1, 3) := by decide +kernel
theorem dX9_farOf_52 : decode cX9_farOf 52 = .ok (.iload 5, 2) := by decide +kernel
theorem dX9_farOf_54 : decode cX9_farOf 54 = .ok (.ifCond .ne 8, 3) := by decide +kernel
theorem dX9_farOf_57 : decode cX9_farOf 57 = .ok (.iload 4, 2) := by decide +kernel
theorem dX9_farOf_59 : decode cX9_farOf 59 = .ok (.iload_n 2, 1) := by decide +kernel
theorem dX9_farOf_60 : decode cX9_farOf 60 = .ok (.isub, 1) := by decide +kernel
theorem dX9_farOf_61 : decode cX9_farOf 61 = .ok (.ireturn, 1) := by decide +kernel
theorem dX9_farOf_62 : decode cX9_farOf 62 = .ok (.aload_n 0, 1) := by decide +kernel
theorem dX9_farOf_63 : decode cX9_farOf 63 = .ok (.iload_n 1, 1) := by decide +kernel
theorem dX9_farOf_64 : decode cX9_farOf 64 = .ok (.iload 5, 2) := by decide +kernel
theorem dX9_farOf_66 : decode cX9_farOf 66 = .ok (.invokevirtual 214, 3) := by decide +kernel
theorem dX9_farOf_69 : decode cX9_farOf 69 = .ok (.iload 5, 2) := by decide +kernel
theorem dX9_farOf_71 : decode cX9_farOf 71 = .ok (.aload_n 0, 1) := by decide +kernel
theorem dX9_farOf_72 : decode cX9_farOf 72 = .ok (.getfield 66, 3) := by decide +kernel
theorem dX9_farOf_75 : decode cX9_farOf 75 = .ok (.iload_n 1, 1) := by decide +kernel
theorem dX9_farOf_76 : decode cX9_farOf 76 = .ok (.iaload, 1) := by decide +kernel
theorem dX9_farOf_77 : decode cX9_farOf 77 = .ok (.iand, 1) := by decide +kernel
theorem dX9_farOf_78 : decode cX9_farOf 78 = .ok (.ifCond .eq 12, 3) := by decide +kernel
theorem dX9_farOf_81 : decode cX9_farOf 81 = .ok (.aload_n 0, 1) := by decide +kernel
theorem dX9_farOf_82 : decode cX9_farOf 82 = .ok (.getfield 72, 3) := by decide +kernel
theorem dX9_farOf_85 : decode cX9_farOf 85 = .ok (.iload_n 1, 1) := by decide +kernel
theorem dX9_farOf_86 : decode cX9_farOf 86 = .ok (.iaload, 1) := by decide +kernel
theorem dX9_farOf_87 : decode cX9_farOf 87 = .ok (.goto 4, 3) := by decide +kernel
theorem dX9_farOf_90 : decode cX9_farOf 90 = .ok (.iconst 0, 1) := by decide +kernel
theorem dX9_farOf_91 : decode cX9_farOf 91 = .ok (.ior, 1) := by decide +kernel
theorem dX9_farOf_92 : decode cX9_farOf 92 = .ok (.istore_n 3, 1) := by decide +kernel
theorem dX9_farOf_93 : decode cX9_farOf 93 = .ok (.goto (-63), 3) := by decide +kernel
theorem dX9_farOf_96 : decode cX9_farOf 96 = .ok (.aload_n 0, 1) := by decide +kernel
theorem dX9_farOf_97 : decode cX9_farOf 97 = .ok (.getfield 207, 3) := by decide +kernel
theorem dX9_farOf_100 : decode cX9_farOf 100 = .ok (.iconst 1, 1) := by decide +kernel
theorem dX9_farOf_101 : decode cX9_farOf 101 = .ok (.iadd, 1) := by decide +kernel
theorem dX9_farOf_102 : decode cX9_farOf 102 = .ok (.iload_n 2, 1) := by decide +kernel
theorem dX9_farOf_103 : decode cX9_farOf 103 = .ok (.isub, 1) := by decide +kernel
theorem dX9_farOf_104 : decode cX9_farOf 104 = .ok (.ireturn, 1) := by decide +kernel
set_option maxRecDepth 20000 in
theorem ggX9_looksFrom_X9_farOf : GoodIn wsX9_looksFrom wsX9_farOf := goodIn_r _ [6, 7, 8, 9, 10, 11, 12, 13, 14, 5, 15, 16, 17, 1, 18, 19, 20, 21, 22, 23, 24, 25, 26, 27, 28, 29, 30, 31, 32, 33, 34, 35, 36, 37, 38, 39, 40, 41, 42, 43, 44, 45, 46, 47, 48, 49, 50, 51, 52, 53, 54, 55, 56, 57, 58, 59, 60, 61, 62, 63, 64, 65, 66, 67, 68, 69, 70, 71, 72, 73, 74, 75, 76, 77] (by decide +kernel) (by decide +kernel)
set_option maxRecDepth 20000 in
theorem gX9_looksFrom_X9_farOf : GoodIn wsX9_looksFrom (wsV RX9 228 RX9 yX9_farOf wsX9_farOf) := goodIn_app (goodIn_of _ (by decide +kernel)) ggX9_looksFrom_X9_farOf
theorem dX9_looksFrom_0 : decode cX9_looksFrom 0 = .ok (.iconst 1, 1) := by decide +kernel
theorem dX9_looksFrom_1 : decode cX9_looksFrom 1 = .ok (.istore_n 3, 1) := by decide +kernel
theorem dX9_looksFrom_2 : decode cX9_looksFrom 2 = .ok (.iconst 5, 1) := by decide +kernel
theorem dX9_looksFrom_3 : decode cX9_looksFrom 3 = .ok (.iload_n 1, 1) := by decide +kernel
theorem dX9_looksFrom_4 : decode cX9_looksFrom 4 = .ok (.imul, 1) := by decide +kernel
theorem dX9_looksFrom_5 : decode cX9_looksFrom 5 = .ok (.istore 4, 2) := by decide +kernel
theorem dX9_looksFrom_7 : decode cX9_looksFrom 7 = .ok (.iload 4, 2) := by decide +kernel
theorem dX9_looksFrom_9 : decode cX9_looksFrom 9 = .ok (.iconst 5, 1) := by decide +kernel
theorem dX9_looksFrom_10 : decode cX9_looksFrom 10 = .ok (.iload_n 1, 1) := by decide +kernel
theorem dX9_looksFrom_11 : decode cX9_looksFrom 11 = .ok (.imul, 1) := by decide +kernel
theorem dX9_looksFrom_12 : decode cX9_looksFrom 12 = .ok (.iconst 5, 1) := by decide +kernel
theorem dX9_looksFrom_13 : decode cX9_looksFrom 13 = .ok (.iadd, 1) := by decide +kernel
theorem dX9_looksFrom_14 : decode cX9_looksFrom 14 = .ok (.if_icmp .ge 45, 3) := by decide +kernel
theorem dX9_looksFrom_17 : decode cX9_looksFrom 17 = .ok (.aload_n 0, 1) := by decide +kernel
theorem dX9_looksFrom_18 : decode cX9_looksFrom 18 = .ok (.getfield 45, 3) := by decide +kernel
theorem dX9_looksFrom_21 : decode cX9_looksFrom 21 = .ok (.iload 4, 2) := by decide +kernel
theorem dX9_looksFrom_23 : decode cX9_looksFrom 23 = .ok (.iaload, 1) := by decide +kernel
theorem dX9_looksFrom_24 : decode cX9_looksFrom 24 = .ok (.ifCond .le 13, 3) := by decide +kernel
theorem dX9_looksFrom_27 : decode cX9_looksFrom 27 = .ok (.aload_n 0, 1) := by decide +kernel
theorem dX9_looksFrom_28 : decode cX9_looksFrom 28 = .ok (.iload 4, 2) := by decide +kernel
theorem dX9_looksFrom_30 : decode cX9_looksFrom 30 = .ok (.iload_n 2, 1) := by decide +kernel
theorem dX9_looksFrom_31 : decode cX9_looksFrom 31 = .ok (.invokevirtual 228, 3) := by decide +kernel
theorem dX9_looksFrom_34 : decode cX9_looksFrom 34 = .ok (.goto 4, 3) := by decide +kernel
theorem dX9_looksFrom_37 : decode cX9_looksFrom 37 = .ok (.iconst 0, 1) := by decide +kernel
theorem dX9_looksFrom_38 : decode cX9_looksFrom 38 = .ok (.istore 5, 2) := by decide +kernel
theorem dX9_looksFrom_40 : decode cX9_looksFrom 40 = .ok (.iload 5, 2) := by decide +kernel
theorem dX9_looksFrom_42 : decode cX9_looksFrom 42 = .ok (.iload_n 3, 1) := by decide +kernel
theorem dX9_looksFrom_43 : decode cX9_looksFrom 43 = .ok (.if_icmp .le 8, 3) := by decide +kernel
theorem dX9_looksFrom_46 : decode cX9_looksFrom 46 = .ok (.iload 5, 2) := by decide +kernel
theorem dX9_looksFrom_48 : decode cX9_looksFrom 48 = .ok (.goto 4, 3) := by decide +kernel
theorem dX9_looksFrom_51 : decode cX9_looksFrom 51 = .ok (.iload_n 3, 1) := by decide +kernel
theorem dX9_looksFrom_52 : decode cX9_looksFrom 52 = .ok (.istore_n 3, 1) := by decide +kernel
theorem dX9_looksFrom_53 : decode cX9_looksFrom 53 = .ok (.iinc 4 1, 3) := by decide +kernel
theorem dX9_looksFrom_56 : decode cX9_looksFrom 56 = .ok (.goto (-49), 3) := by decide +kernel
theorem dX9_looksFrom_59 : decode cX9_looksFrom 59 = .ok (.iload_n 3, 1) := by decide +kernel
theorem dX9_looksFrom_60 : decode cX9_looksFrom 60 = .ok (.ireturn, 1) := by decide +kernel
set_option maxRecDepth 20000 in
theorem ggX9_looksAt_X9_noKind : GoodIn wsX9_looksAt wsX9_noKind := goodIn_r _ [5, 6, 7, 4, 8] (by decide +kernel) (by decide +kernel)
set_option maxRecDepth 20000 in
theorem gX9_looksAt_X9_noKind : GoodIn wsX9_looksAt (va_wsS RX9 231 yX9_noKind wsX9_noKind) := goodIn_app (goodIn_of _ (by decide +kernel)) ggX9_looksAt_X9_noKind
set_option maxRecDepth 20000 in
theorem ggX9_looksAt_X9_in : GoodIn wsX9_looksAt wsX9_in := goodIn_r _ [8] (by decide +kernel) (by decide +kernel)
set_option maxRecDepth 20000 in
theorem gX9_looksAt_X9_in : GoodIn wsX9_looksAt (va_wsS RX9 136 yX9_in wsX9_in) := goodIn_app (goodIn_of _ (by decide +kernel)) ggX9_looksAt_X9_in
set_option maxRecDepth 20000 in
theorem ggX9_looksAt_X9_looksFrom : GoodIn wsX9_looksAt wsX9_looksFrom := goodIn_r _ [12, 13, 14, 15, 16, 4, 17, 18, 19, 20, 1, 21, 22, 23, 24, 25, 26, 27, 28, 29, 30, 31, 32, 33, 34, 35, 36, 37, 38, 39, 40, 41, 42, 43, 44, 45, 46, 47, 48, 49, 50, 51, 52, 53, 54, 55, 56, 57, 58, 59, 60, 61, 62, 63, 64, 65, 66, 67, 68, 69, 70, 71, 72, 73, 74, 75, 76, 77, 78, 79, 80, 81, 82, 83, 84, 85, 86, 87] (by decide +kernel) (by decide +kernel)
set_option maxRecDepth 20000 in
theorem gX9_looksAt_X9_looksFrom : GoodIn wsX9_looksAt (wsV RX9 234 RX9 yX9_looksFrom wsX9_looksFrom) := goodIn_app (goodIn_of _ (by decide +kernel)) ggX9_looksAt_X9_looksFrom
theorem dX9_looksAt_0 : decode cX9_looksAt 0 = .ok (.iload_n 1, 1) := by decide +kernel
theorem dX9_looksAt_1 : decode cX9_looksAt 1 = .ok (.invokestatic 231, 3) := by decide +kernel
theorem dX9_looksAt_4 : decode cX9_looksAt 4 = .ok (.ifCond .eq 6, 3) := by decide +kernel
theorem dX9_looksAt_7 : decode cX9_looksAt 7 = .ok (.bipush (-2), 2) := by decide +kernel
theorem dX9_looksAt_9 : decode cX9_looksAt 9 = .ok (.ireturn, 1) := by decide +kernel
theorem dX9_looksAt_10 : decode cX9_looksAt 10 = .ok (.iload_n 2, 1) := by decide +kernel
theorem dX9_looksAt_11 : decode cX9_looksAt 11 = .ok (.iconst 0, 1) := by decide +kernel
theorem dX9_looksAt_12 : decode cX9_looksAt 12 = .ok (.aload_n 0, 1) := by decide +kernel
theorem dX9_looksAt_13 : decode cX9_looksAt 13 = .ok (.getfield 207, 3) := by decide +kernel
theorem dX9_looksAt_16 : decode cX9_looksAt 16 = .ok (.iconst 1, 1) := by decide +kernel
theorem dX9_looksAt_17 : decode cX9_looksAt 17 = .ok (.isub, 1) := by decide +kernel
theorem dX9_looksAt_18 : decode cX9_looksAt 18 = .ok (.invokestatic 136, 3) := by decide +kernel
theorem dX9_looksAt_21 : decode cX9_looksAt 21 = .ok (.ifCond .eq 12, 3) := by decide +kernel
theorem dX9_looksAt_24 : decode cX9_looksAt 24 = .ok (.aload_n 0, 1) := by decide +kernel
theorem dX9_looksAt_25 : decode cX9_looksAt 25 = .ok (.iload_n 1, 1) := by decide +kernel
theorem dX9_looksAt_26 : decode cX9_looksAt 26 = .ok (.iload_n 2, 1) := by decide +kernel
theorem dX9_looksAt_27 : decode cX9_looksAt 27 = .ok (.invokevirtual 234, 3) := by decide +kernel
theorem dX9_looksAt_30 : decode cX9_looksAt 30 = .ok (.goto 4, 3) := by decide +kernel
theorem dX9_looksAt_33 : decode cX9_looksAt 33 = .ok (.iconst (-1), 1) := by decide +kernel
theorem dX9_looksAt_34 : decode cX9_looksAt 34 = .ok (.ireturn, 1) := by decide +kernel
theorem dX9_raw_0 : decode cX9_raw 0 = .ok (.aload_n 0, 1) := by decide +kernel
theorem dX9_raw_1 : decode cX9_raw 1 = .ok (.getfield 84, 3) := by decide +kernel
theorem dX9_raw_4 : decode cX9_raw 4 = .ok (.bipush 101, 2) := by decide +kernel
theorem dX9_raw_6 : decode cX9_raw 6 = .ok (.iload_n 1, 1) := by decide +kernel
theorem dX9_raw_7 : decode cX9_raw 7 = .ok (.imul, 1) := by decide +kernel
theorem dX9_raw_8 : decode cX9_raw 8 = .ok (.iload_n 2, 1) := by decide +kernel
theorem dX9_raw_9 : decode cX9_raw 9 = .ok (.iadd, 1) := by decide +kernel
theorem dX9_raw_10 : decode cX9_raw 10 = .ok (.iaload, 1) := by decide +kernel
theorem dX9_raw_11 : decode cX9_raw 11 = .ok (.ireturn, 1) := by decide +kernel
theorem dX9_append_0 : decode cX9_append 0 = .ok (.aload_n 0, 1) := by decide +kernel
theorem dX9_append_1 : decode cX9_append 1 = .ok (.getfield 84, 3) := by decide +kernel
theorem dX9_append_4 : decode cX9_append 4 = .ok (.bipush 101, 2) := by decide +kernel
theorem dX9_append_6 : decode cX9_append 6 = .ok (.iload_n 1, 1) := by decide +kernel
theorem dX9_append_7 : decode cX9_append 7 = .ok (.imul, 1) := by decide +kernel
theorem dX9_append_8 : decode cX9_append 8 = .ok (.aload_n 0, 1) := by decide +kernel
theorem dX9_append_9 : decode cX9_append 9 = .ok (.getfield 81, 3) := by decide +kernel
theorem dX9_append_12 : decode cX9_append 12 = .ok (.iload_n 1, 1) := by decide +kernel
theorem dX9_append_13 : decode cX9_append 13 = .ok (.iaload, 1) := by decide +kernel
theorem dX9_append_14 : decode cX9_append 14 = .ok (.iadd, 1) := by decide +kernel
theorem dX9_append_15 : decode cX9_append 15 = .ok (.iload_n 2, 1) := by decide +kernel
theorem dX9_append_16 : decode cX9_append 16 = .ok (.iastore, 1) := by decide +kernel
theorem dX9_append_17 : decode cX9_append 17 = .ok (.aload_n 0, 1) := by decide +kernel
theorem dX9_append_18 : decode cX9_append 18 = .ok (.getfield 81, 3) := by decide +kernel
theorem dX9_append_21 : decode cX9_append 21 = .ok (.iload_n 1, 1) := by decide +kernel
theorem dX9_append_22 : decode cX9_append 22 = .ok (.dup2, 1) := by decide +kernel
theorem dX9_append_23 : decode cX9_append 23 = .ok (.iaload, 1) := by decide +kernel
theorem dX9_append_24 : decode cX9_append 24 = .ok (.iconst 1, 1) := by decide +kernel
theorem dX9_append_25 : decode cX9_append 25 = .ok (.iadd, 1) := by decide +kernel
theorem dX9_append_26 : decode cX9_append 26 = .ok (.iastore, 1) := by decide +kernel
theorem dX9_append_27 : decode cX9_append 27 = .ok (.return_, 1) := by decide +kernel
set_option maxRecDepth 20000 in
theorem ggX9_analyse_X9_append : GoodIn wsX9_analyse wsX9_append := goodIn_r _ [8, 9, 1, 40, 41, 42, 43, 44, 45, 46, 47, 48, 49, 50, 51, 52, 53, 54, 55, 56, 57, 58, 59, 60, 61, 62, 63, 64, 65, 66, 67, 68, 69, 70, 71, 72, 73, 74, 75, 76, 77, 78, 79, 80, 81, 82, 83, 84, 85, 86, 87, 88, 89, 90, 91, 92, 93] (by decide +kernel) (by decide +kernel)
set_option maxRecDepth 20000 in
theorem gX9_analyse_X9_append : GoodIn wsX9_analyse (wsV RX9 237 RX9 yX9_append wsX9_append) := goodIn_app (goodIn_of _ (by decide +kernel)) ggX9_analyse_X9_append
set_option maxRecDepth 20000 in
theorem ggX9_analyse_X9_segmentAt : GoodIn wsX9_analyse wsX9_segmentAt := goodIn_r _ [13, 14, 15, 16, 17, 7, 18, 19, 3, 20, 21, 22, 23, 24, 25, 26, 27, 28, 29, 30, 31, 32, 33, 34, 35, 36, 37, 38, 39, 40, 41, 42, 43, 44, 45, 46, 47, 48, 49, 50, 51, 52, 53, 54, 55, 56, 57, 58, 59, 60, 61, 62, 63, 64, 65, 66, 67, 68, 69, 70, 71, 72, 73, 74, 75, 76, 77, 78, 79, 80, 81, 82, 83, 84, 85, 86, 87, 88, 89, 90, 91, 92, 93] (by decide +kernel) (by decide +kernel)
set_option maxRecDepth 20000 in
theorem gX9_analyse_X9_segmentAt : GoodIn wsX9_analyse (wsV RX9 240 RX9 yX9_segmentAt wsX9_segmentAt) := goodIn_app (goodIn_of _ (by decide +kernel)) ggX9_analyse_X9_segmentAt
theorem dX9_analyse_0 : decode cX9_analyse 0 = .ok (.aload_n 0, 1) := by decide +kernel
theorem dX9_analyse_1 : decode cX9_analyse 1 = .ok (.getfield 81, 3) := by decide +kernel
theorem dX9_analyse_4 : decode cX9_analyse 4 = .ok (.iload_n 1, 1) := by decide +kernel
theorem dX9_analyse_5 : decode cX9_analyse 5 = .ok (.iconst 0, 1) := by decide +kernel
theorem dX9_analyse_6 : decode cX9_analyse 6 = .ok (.iastore, 1) := by decide +kernel
theorem dX9_analyse_7 : decode cX9_analyse 7 = .ok (.aload_n 0, 1) := by decide +kernel
theorem dX9_analyse_8 : decode cX9_analyse 8 = .ok (.iload_n 1, 1) := by decide +kernel
theorem dX9_analyse_9 : decode cX9_analyse 9 = .ok (.iconst 0, 1) := by decide +kernel
theorem dX9_analyse_10 : decode cX9_analyse 10 = .ok (.invokevirtual 237, 3) := by decide +kernel
theorem dX9_analyse_13 : decode cX9_analyse 13 = .ok (.aload_n 0, 1) := by decide +kernel
theorem dX9_analyse_14 : decode cX9_analyse 14 = .ok (.getfield 87, 3) := by decide +kernel
theorem dX9_analyse_17 : decode cX9_analyse 17 = .ok (.iload_n 1, 1) := by decide +kernel
theorem dX9_analyse_18 : decode cX9_analyse 18 = .ok (.iconst 0, 1) := by decide +kernel
theorem dX9_analyse_19 : decode cX9_analyse 19 = .ok (.iastore, 1) := by decide +kernel
theorem dX9_analyse_20 : decode cX9_analyse 20 = .ok (.iconst 0, 1) := by decide +kernel
theorem dX9_analyse_21 : decode cX9_analyse 21 = .ok (.istore_n 2, 1) := by decide +kernel
theorem dX9_analyse_22 : decode cX9_analyse 22 = .ok (.iload_n 2, 1) := by decide +kernel
theorem dX9_analyse_23 : decode cX9_analyse 23 = .ok (.aload_n 0, 1) := by decide +kernel
theorem dX9_analyse_24 : decode cX9_analyse 24 = .ok (.getfield 207, 3) := by decide +kernel
theorem dX9_analyse_27 : decode cX9_analyse 27 = .ok (.if_icmp .ge 31, 3) := by decide +kernel
theorem dX9_analyse_30 : decode cX9_analyse 30 = .ok (.iload_n 2, 1) := by decide +kernel
theorem dX9_analyse_31 : decode cX9_analyse 31 = .ok (.aload_n 0, 1) := by decide +kernel
theorem dX9_analyse_32 : decode cX9_analyse 32 = .ok (.iload_n 1, 1) := by decide +kernel
theorem dX9_analyse_33 : decode cX9_analyse 33 = .ok (.iload_n 2, 1) := by decide +kernel
theorem dX9_analyse_34 : decode cX9_analyse 34 = .ok (.invokevirtual 240, 3) := by decide +kernel
theorem dX9_analyse_37 : decode cX9_analyse 37 = .ok (.iadd, 1) := by decide +kernel
theorem dX9_analyse_38 : decode cX9_analyse 38 = .ok (.istore_n 2, 1) := by decide +kernel
theorem dX9_analyse_39 : decode cX9_analyse 39 = .ok (.aload_n 0, 1) := by decide +kernel
theorem dX9_analyse_40 : decode cX9_analyse 40 = .ok (.iload_n 1, 1) := by decide +kernel
theorem dX9_analyse_41 : decode cX9_analyse 41 = .ok (.iload_n 2, 1) := by decide +kernel
theorem dX9_analyse_42 : decode cX9_analyse 42 = .ok (.invokevirtual 237, 3) := by decide +kernel
theorem dX9_analyse_45 : decode cX9_analyse 45 = .ok (.aload_n 0, 1) := by decide +kernel
theorem dX9_analyse_46 : decode cX9_analyse 46 = .ok (.getfield 87, 3) := by decide +kernel
theorem dX9_analyse_49 : decode cX9_analyse 49 = .ok (.iload_n 1, 1) := by decide +kernel
theorem dX9_analyse_50 : decode cX9_analyse 50 = .ok (.dup2, 1) := by decide +kernel
theorem dX9_analyse_51 : decode cX9_analyse 51 = .ok (.iaload, 1) := by decide +kernel
theorem dX9_analyse_52 : decode cX9_analyse 52 = .ok (.iconst 1, 1) := by decide +kernel
theorem dX9_analyse_53 : decode cX9_analyse 53 = .ok (.iadd, 1) := by decide +kernel
theorem dX9_analyse_54 : decode cX9_analyse 54 = .ok (.iastore, 1) := by decide +kernel
theorem dX9_analyse_55 : decode cX9_analyse 55 = .ok (.goto (-33), 3) := by decide +kernel
theorem dX9_analyse_58 : decode cX9_analyse 58 = .ok (.return_, 1) := by decide +kernel
theorem dX9_wasRaw_0 : decode cX9_wasRaw 0 = .ok (.iconst 0, 1) := by decide +kernel
theorem dX9_wasRaw_1 : decode cX9_wasRaw 1 = .ok (.istore 4, 2) := by decide +kernel
theorem dX9_wasRaw_3 : decode cX9_wasRaw 3 = .ok (.iload 4, 2) := by decide +kernel
theorem dX9_wasRaw_5 : decode cX9_wasRaw 5 = .ok (.iload_n 2, 1) := by decide +kernel
theorem dX9_wasRaw_6 : decode cX9_wasRaw 6 = .ok (.if_icmp .ge 19, 3) := by decide +kernel
theorem dX9_wasRaw_9 : decode cX9_wasRaw 9 = .ok (.aload_n 1, 1) := by decide +kernel
theorem dX9_wasRaw_10 : decode cX9_wasRaw 10 = .ok (.iload 4, 2) := by decide +kernel
theorem dX9_wasRaw_12 : decode cX9_wasRaw 12 = .ok (.iaload, 1) := by decide +kernel
theorem dX9_wasRaw_13 : decode cX9_wasRaw 13 = .ok (.iload_n 3, 1) := by decide +kernel
theorem dX9_wasRaw_14 : decode cX9_wasRaw 14 = .ok (.if_icmp .ne 5, 3) := by decide +kernel
theorem dX9_wasRaw_17 : decode cX9_wasRaw 17 = .ok (.iconst 1, 1) := by decide +kernel
theorem dX9_wasRaw_18 : decode cX9_wasRaw 18 = .ok (.ireturn, 1) := by decide +kernel
theorem dX9_wasRaw_19 : decode cX9_wasRaw 19 = .ok (.iinc 4 1, 3) := by decide +kernel
theorem dX9_wasRaw_22 : decode cX9_wasRaw 22 = .ok (.goto (-19), 3) := by decide +kernel
theorem dX9_wasRaw_25 : decode cX9_wasRaw 25 = .ok (.iconst 0, 1) := by decide +kernel
theorem dX9_wasRaw_26 : decode cX9_wasRaw 26 = .ok (.ireturn, 1) := by decide +kernel
set_option maxRecDepth 20000 in
theorem ggX9_findStarts_X9_raw : GoodIn wsX9_findStarts wsX9_raw := goodIn_r _ [7, 8, 35, 36, 37, 38, 39, 40, 41, 42, 43, 44, 45, 46, 47, 48, 49, 50, 51, 52, 53, 54, 55, 56, 57, 58, 59, 60, 61, 62, 63, 64, 65, 66, 67, 68, 69, 70, 71, 72, 73, 74, 75, 76, 77, 78, 79, 80, 81, 82, 83, 84, 85, 86, 87, 88] (by decide +kernel) (by decide +kernel)
set_option maxRecDepth 20000 in
theorem gX9_findStarts_X9_raw : GoodIn wsX9_findStarts (wsV RX9 243 RX9 yX9_raw wsX9_raw) := goodIn_app (goodIn_of _ (by decide +kernel)) ggX9_findStarts_X9_raw
set_option maxRecDepth 20000 in
theorem ggX9_findStarts_X9_looksFrom : GoodIn wsX9_findStarts wsX9_looksFrom := goodIn_r _ [12, 13, 14, 15, 16, 6, 17, 18, 19, 20, 21, 22, 23, 24, 25, 26, 27, 28, 29, 30, 31, 32, 33, 34, 35, 36, 37, 38, 39, 40, 41, 42, 43, 44, 45, 46, 47, 48, 49, 50, 51, 52, 53, 54, 55, 56, 57, 58, 59, 60, 61, 62, 63, 64, 65, 66, 67, 68, 69, 70, 71, 72, 73, 74, 75, 76, 77, 78, 79, 80, 81, 82, 83, 84, 85, 86, 87, 88] (by decide +kernel) (by decide +kernel)
set_option maxRecDepth 20000 in
theorem gX9_findStarts_X9_looksFrom : GoodIn wsX9_findStarts (wsV RX9 234 RX9 yX9_looksFrom wsX9_looksFrom) := goodIn_app (goodIn_of _ (by decide +kernel)) ggX9_findStarts_X9_looksFrom
theorem dX9_findStarts_0 : decode cX9_findStarts 0 = .ok (.iconst 0, 1) := by decide +kernel
theorem dX9_findStarts_1 : decode cX9_findStarts 1 = .ok (.istore_n 2, 1) := by decide +kernel
theorem dX9_findStarts_2 : decode cX9_findStarts 2 = .ok (.iload_n 2, 1) := by decide +kernel
theorem dX9_findStarts_3 : decode cX9_findStarts 3 = .ok (.iconst 3, 1) := by decide +kernel
theorem dX9_findStarts_4 : decode cX9_findStarts 4 = .ok (.if_icmp .ge 58, 3) := by decide +kernel
theorem dX9_findStarts_7 : decode cX9_findStarts 7 = .ok (.iconst 0, 1) := by decide +kernel
theorem dX9_findStarts_8 : decode cX9_findStarts 8 = .ok (.istore_n 3, 1) := by decide +kernel
theorem dX9_findStarts_9 : decode cX9_findStarts 9 = .ok (.iload_n 3, 1) := by decide +kernel
theorem dX9_findStarts_10 : decode cX9_findStarts 10 = .ok (.aload_n 0, 1) := by decide +kernel
theorem dX9_findStarts_11 : decode cX9_findStarts 11 = .ok (.getfield 81, 3) := by decide +kernel
theorem dX9_findStarts_14 : decode cX9_findStarts 14 = .ok (.iload_n 2, 1) := by decide +kernel
theorem dX9_findStarts_15 : decode cX9_findStarts 15 = .ok (.iaload, 1) := by decide +kernel
theorem dX9_findStarts_16 : decode cX9_findStarts 16 = .ok (.iconst 1, 1) := by decide +kernel
theorem dX9_findStarts_17 : decode cX9_findStarts 17 = .ok (.isub, 1) := by decide +kernel
theorem dX9_findStarts_18 : decode cX9_findStarts 18 = .ok (.if_icmp .ge 31, 3) := by decide +kernel
theorem dX9_findStarts_21 : decode cX9_findStarts 21 = .ok (.aload_n 0, 1) := by decide +kernel
theorem dX9_findStarts_22 : decode cX9_findStarts 22 = .ok (.iload_n 2, 1) := by decide +kernel
theorem dX9_findStarts_23 : decode cX9_findStarts 23 = .ok (.iload_n 3, 1) := by decide +kernel
theorem dX9_findStarts_24 : decode cX9_findStarts 24 = .ok (.invokevirtual 243, 3) := by decide +kernel
theorem dX9_findStarts_27 : decode cX9_findStarts 27 = .ok (.aload_n 0, 1) := by decide +kernel
theorem dX9_findStarts_28 : decode cX9_findStarts 28 = .ok (.iload_n 2, 1) := by decide +kernel
theorem dX9_findStarts_29 : decode cX9_findStarts 29 = .ok (.aload_n 0, 1) := by decide +kernel
theorem dX9_findStarts_30 : decode cX9_findStarts 30 = .ok (.iload_n 2, 1) := by decide +kernel
theorem dX9_findStarts_31 : decode cX9_findStarts 31 = .ok (.iload_n 3, 1) := by decide +kernel
theorem dX9_findStarts_32 : decode cX9_findStarts 32 = .ok (.invokevirtual 243, 3) := by decide +kernel
theorem dX9_findStarts_35 : decode cX9_findStarts 35 = .ok (.invokevirtual 234, 3) := by decide +kernel
theorem dX9_findStarts_38 : decode cX9_findStarts 38 = .ok (.iadd, 1) := by decide +kernel
theorem dX9_findStarts_39 : decode cX9_findStarts 39 = .ok (.iload_n 1, 1) := by decide +kernel
theorem dX9_findStarts_40 : decode cX9_findStarts 40 = .ok (.if_icmp .gt 9, 3) := by decide +kernel
theorem dX9_findStarts_43 : decode cX9_findStarts 43 = .ok (.iinc 3 1, 3) := by decide +kernel
theorem dX9_findStarts_46 : decode cX9_findStarts 46 = .ok (.goto (-37), 3) := by decide +kernel
theorem dX9_findStarts_49 : decode cX9_findStarts 49 = .ok (.aload_n 0, 1) := by decide +kernel
theorem dX9_findStarts_50 : decode cX9_findStarts 50 = .ok (.getfield 90, 3) := by decide +kernel
theorem dX9_findStarts_53 : decode cX9_findStarts 53 = .ok (.iload_n 2, 1) := by decide +kernel
theorem dX9_findStarts_54 : decode cX9_findStarts 54 = .ok (.iload_n 3, 1) := by decide +kernel
theorem dX9_findStarts_55 : decode cX9_findStarts 55 = .ok (.iastore, 1) := by decide +kernel
theorem dX9_findStarts_56 : decode cX9_findStarts 56 = .ok (.iinc 2 1, 3) := by decide +kernel
theorem dX9_findStarts_59 : decode cX9_findStarts 59 = .ok (.goto (-57), 3) := by decide +kernel
theorem dX9_findStarts_62 : decode cX9_findStarts 62 = .ok (.return_, 1) := by decide +kernel
set_option maxRecDepth 20000 in
theorem ggX9_repair_X9_raw : GoodIn wsX9_repair wsX9_raw := goodIn_r _ [10, 11, 50, 51, 52, 53, 54, 55, 56, 57, 58, 59, 60, 61, 62, 63, 64, 65, 66, 67, 68, 69, 70, 71, 72, 73, 74, 75, 76, 77, 78, 79, 80, 81, 82, 83, 84, 85, 86, 87, 88, 89, 90, 91, 92, 93, 94, 95, 96, 97, 98, 99, 100, 101, 102, 103] (by decide +kernel) (by decide +kernel)
set_option maxRecDepth 20000 in
theorem gX9_repair_X9_raw : GoodIn wsX9_repair (wsV RX9 243 RX9 yX9_raw wsX9_raw) := goodIn_app (goodIn_of _ (by decide +kernel)) ggX9_repair_X9_raw
set_option maxRecDepth 20000 in
theorem ggX9_repair_X9_wasRaw : GoodIn wsX9_repair wsX9_wasRaw := goodIn_r _ [15] (by decide +kernel) (by decide +kernel)
set_option maxRecDepth 20000 in
theorem gX9_repair_X9_wasRaw : GoodIn wsX9_repair (wsV RX9 246 RX9 yX9_wasRaw wsX9_wasRaw) := goodIn_app (goodIn_of _ (by decide +kernel)) ggX9_repair_X9_wasRaw
set_option maxRecDepth 20000 in
theorem ggX9_repair_X9_segmentAt : GoodIn wsX9_repair wsX9_segmentAt := goodIn_r _ [19, 20, 21, 22, 23, 9, 24, 25, 5, 26, 27, 28, 29, 30, 31, 32, 33, 34, 35, 36, 37, 38, 39, 40, 41, 42, 43, 44, 45, 50, 51, 52, 53, 54, 55, 56, 57, 58, 59, 60, 61, 62, 63, 64, 65, 66, 67, 68, 69, 70, 71, 72, 73, 74, 75, 76, 77, 78, 79, 80, 81, 82, 83, 84, 85, 86, 87, 88, 89, 90, 91, 92, 93, 94, 95, 96, 97, 98, 99, 100, 101, 102, 103] (by decide +kernel) (by decide +kernel)
set_option maxRecDepth 20000 in
theorem gX9_repair_X9_segmentAt : GoodIn wsX9_repair (wsV RX9 240 RX9 yX9_segmentAt wsX9_segmentAt) := goodIn_app (goodIn_of _ (by decide +kernel)) ggX9_repair_X9_segmentAt
set_option maxRecDepth 20000 in
theorem ggX9_repair_X9_append : GoodIn wsX9_repair wsX9_append := goodIn_r _ [49, 11, 1, 50, 51, 52, 53, 54, 55, 56, 57, 58, 59, 60, 61, 62, 63, 64, 65, 66, 67, 68, 69, 70, 71, 72, 73, 74, 75, 76, 77, 78, 79, 80, 81, 82, 83, 84, 85, 86, 87, 88, 89, 90, 91, 92, 93, 94, 95, 96, 97, 98, 99, 100, 101, 102, 103] (by decide +kernel) (by decide +kernel)
set_option maxRecDepth 20000 in
theorem gX9_repair_X9_append : GoodIn wsX9_repair (wsV RX9 237 RX9 yX9_append wsX9_append) := goodIn_app (goodIn_of _ (by decide +kernel)) ggX9_repair_X9_append
theorem dX9_repair_0 : decode cX9_repair 0 = .ok (.aload_n 0, 1) := by decide +kernel
theorem dX9_repair_1 : decode cX9_repair 1 = .ok (.getfield 81, 3) := by decide +kernel
theorem dX9_repair_4 : decode cX9_repair 4 = .ok (.iload_n 1, 1) := by decide +kernel
theorem dX9_repair_5 : decode cX9_repair 5 = .ok (.iaload, 1) := by decide +kernel
theorem dX9_repair_6 : decode cX9_repair 6 = .ok (.istore 4, 2) := by decide +kernel
theorem dX9_repair_8 : decode cX9_repair 8 = .ok (.iconst 0, 1) := by decide +kernel
theorem dX9_repair_9 : decode cX9_repair 9 = .ok (.istore 5, 2) := by decide +kernel
theorem dX9_repair_11 : decode cX9_repair 11 = .ok (.iload 5, 2) := by decide +kernel
theorem dX9_repair_13 : decode cX9_repair 13 = .ok (.iload 4, 2) := by decide +kernel
theorem dX9_repair_15 : decode cX9_repair 15 = .ok (.if_icmp .ge 23, 3) := by decide +kernel
theorem dX9_repair_18 : decode cX9_repair 18 = .ok (.aload_n 0, 1) := by decide +kernel
theorem dX9_repair_19 : decode cX9_repair 19 = .ok (.getfield 93, 3) := by decide +kernel
theorem dX9_repair_22 : decode cX9_repair 22 = .ok (.iload 5, 2) := by decide +kernel
theorem dX9_repair_24 : decode cX9_repair 24 = .ok (.aload_n 0, 1) := by decide +kernel
theorem dX9_repair_25 : decode cX9_repair 25 = .ok (.iload_n 1, 1) := by decide +kernel
theorem dX9_repair_26 : decode cX9_repair 26 = .ok (.iload 5, 2) := by decide +kernel
theorem dX9_repair_28 : decode cX9_repair 28 = .ok (.invokevirtual 243, 3) := by decide +kernel
theorem dX9_repair_31 : decode cX9_repair 31 = .ok (.iastore, 1) := by decide +kernel
theorem dX9_repair_32 : decode cX9_repair 32 = .ok (.iinc 5 1, 3) := by decide +kernel
theorem dX9_repair_35 : decode cX9_repair 35 = .ok (.goto (-24), 3) := by decide +kernel
theorem dX9_repair_38 : decode cX9_repair 38 = .ok (.aload_n 0, 1) := by decide +kernel
theorem dX9_repair_39 : decode cX9_repair 39 = .ok (.getfield 81, 3) := by decide +kernel
theorem dX9_repair_42 : decode cX9_repair 42 = .ok (.iload_n 1, 1) := by decide +kernel
theorem dX9_repair_43 : decode cX9_repair 43 = .ok (.aload_n 0, 1) := by decide +kernel
theorem dX9_repair_44 : decode cX9_repair 44 = .ok (.getfield 90, 3) := by decide +kernel
theorem dX9_repair_47 : decode cX9_repair 47 = .ok (.iload_n 1, 1) := by decide +kernel
theorem dX9_repair_48 : decode cX9_repair 48 = .ok (.iaload, 1) := by decide +kernel
theorem dX9_repair_49 : decode cX9_repair 49 = .ok (.iconst 1, 1) := by decide +kernel
theorem dX9_repair_50 : decode cX9_repair 50 = .ok (.iadd, 1) := by decide +kernel
theorem dX9_repair_51 : decode cX9_repair 51 = .ok (.iastore, 1) := by decide +kernel
theorem dX9_repair_52 : decode cX9_repair 52 = .ok (.aload_n 0, 1) := by decide +kernel
theorem dX9_repair_53 : decode cX9_repair 53 = .ok (.getfield 87, 3) := by decide +kernel
theorem dX9_repair_56 : decode cX9_repair 56 = .ok (.iload_n 1, 1) := by decide +kernel
theorem dX9_repair_57 : decode cX9_repair 57 = .ok (.iconst 0, 1) := by decide +kernel
theorem dX9_repair_58 : decode cX9_repair 58 = .ok (.iastore, 1) := by decide +kernel
theorem dX9_repair_59 : decode cX9_repair 59 = .ok (.aload_n 0, 1) := by decide +kernel
theorem dX9_repair_60 : decode cX9_repair 60 = .ok (.iload_n 1, 1) := by decide +kernel
theorem dX9_repair_61 : decode cX9_repair 61 = .ok (.aload_n 0, 1) := by decide +kernel
theorem dX9_repair_62 : decode cX9_repair 62 = .ok (.getfield 90, 3) := by decide +kernel
theorem dX9_repair_65 : decode cX9_repair 65 = .ok (.iload_n 1, 1) := by decide +kernel
theorem dX9_repair_66 : decode cX9_repair 66 = .ok (.iaload, 1) := by decide +kernel
theorem dX9_repair_67 : decode cX9_repair 67 = .ok (.invokevirtual 243, 3) := by decide +kernel
theorem dX9_repair_70 : decode cX9_repair 70 = .ok (.istore 5, 2) := by decide +kernel
theorem dX9_repair_72 : decode cX9_repair 72 = .ok (.iload 5, 2) := by decide +kernel
theorem dX9_repair_74 : decode cX9_repair 74 = .ok (.aload_n 0, 1) := by decide +kernel
theorem dX9_repair_75 : decode cX9_repair 75 = .ok (.getfield 207, 3) := by decide +kernel
theorem dX9_repair_78 : decode cX9_repair 78 = .ok (.if_icmp .ge 58, 3) := by decide +kernel
theorem dX9_repair_81 : decode cX9_repair 81 = .ok (.iload 5, 2) := by decide +kernel
theorem dX9_repair_83 : decode cX9_repair 83 = .ok (.iload_n 2, 1) := by decide +kernel
theorem dX9_repair_84 : decode cX9_repair 84 = .ok (.if_icmp .lt 20, 3) := by decide +kernel
theorem dX9_repair_87 : decode cX9_repair 87 = .ok (.aload_n 0, 1) := by decide +kernel
theorem dX9_repair_88 : decode cX9_repair 88 = .ok (.aload_n 0, 1) := by decide +kernel
theorem dX9_repair_89 : decode cX9_repair 89 = .ok (.getfield 93, 3) := by decide +kernel
theorem dX9_repair_92 : decode cX9_repair 92 = .ok (.iload 4, 2) := by decide +kernel
theorem dX9_repair_94 : decode cX9_repair 94 = .ok (.iload 5, 2) := by decide +kernel
theorem dX9_repair_96 : decode cX9_repair 96 = .ok (.iload_n 3, 1) := by decide +kernel
theorem dX9_repair_97 : decode cX9_repair 97 = .ok (.isub, 1) := by decide +kernel
theorem dX9_repair_98 : decode cX9_repair 98 = .ok (.invokevirtual 246, 3) := by decide +kernel
theorem dX9_repair_101 : decode cX9_repair 101 = .ok (.ifCond .ne 35, 3) := by decide +kernel
theorem dX9_repair_104 : decode cX9_repair 104 = .ok (.iload 5, 2) := by decide +kernel
theorem dX9_repair_106 : decode cX9_repair 106 = .ok (.aload_n 0, 1) := by decide +kernel
theorem dX9_repair_107 : decode cX9_repair 107 = .ok (.iload_n 1, 1) := by decide +kernel
theorem dX9_repair_108 : decode cX9_repair 108 = .ok (.iload 5, 2) := by decide +kernel
theorem dX9_repair_110 : decode cX9_repair 110 = .ok (.invokevirtual 240, 3) := by decide +kernel
theorem dX9_repair_113 : decode cX9_repair 113 = .ok (.iadd, 1) := by decide +kernel
theorem dX9_repair_114 : decode cX9_repair 114 = .ok (.istore 5, 2) := by decide +kernel
theorem dX9_repair_116 : decode cX9_repair 116 = .ok (.aload_n 0, 1) := by decide +kernel
theorem dX9_repair_117 : decode cX9_repair 117 = .ok (.iload_n 1, 1) := by decide +kernel
theorem dX9_repair_118 : decode cX9_repair 118 = .ok (.iload 5, 2) := by decide +kernel
theorem dX9_repair_120 : decode cX9_repair 120 = .ok (.invokevirtual 237, 3) := by decide +kernel
theorem dX9_repair_123 : decode cX9_repair 123 = .ok (.aload_n 0, 1) := by decide +kernel
theorem dX9_repair_124 : decode cX9_repair 124 = .ok (.getfield 87, 3) := by decide +kernel
theorem dX9_repair_127 : decode cX9_repair 127 = .ok (.iload_n 1, 1) := by decide +kernel
theorem dX9_repair_128 : decode cX9_repair 128 = .ok (.dup2, 1) := by decide +kernel
theorem dX9_repair_129 : decode cX9_repair 129 = .ok (.iaload, 1) := by decide +kernel
theorem dX9_repair_130 : decode cX9_repair 130 = .ok (.iconst 1, 1) := by decide +kernel
theorem dX9_repair_131 : decode cX9_repair 131 = .ok (.iadd, 1) := by decide +kernel
theorem dX9_repair_132 : decode cX9_repair 132 = .ok (.iastore, 1) := by decide +kernel
theorem dX9_repair_133 : decode cX9_repair 133 = .ok (.goto (-61), 3) := by decide +kernel
theorem dX9_repair_136 : decode cX9_repair 136 = .ok (.iconst 0, 1) := by decide +kernel
theorem dX9_repair_137 : decode cX9_repair 137 = .ok (.istore 6, 2) := by decide +kernel
theorem dX9_repair_139 : decode cX9_repair 139 = .ok (.iload 6, 2) := by decide +kernel
theorem dX9_repair_141 : decode cX9_repair 141 = .ok (.iload 4, 2) := by decide +kernel
theorem dX9_repair_143 : decode cX9_repair 143 = .ok (.if_icmp .ge 46, 3) := by decide +kernel
theorem dX9_repair_146 : decode cX9_repair 146 = .ok (.aload_n 0, 1) := by decide +kernel
theorem dX9_repair_147 : decode cX9_repair 147 = .ok (.getfield 93, 3) := by decide +kernel
theorem dX9_repair_150 : decode cX9_repair 150 = .ok (.iload 6, 2) := by decide +kernel
theorem dX9_repair_152 : decode cX9_repair 152 = .ok (.iaload, 1) := by decide +kernel
theorem dX9_repair_153 : decode cX9_repair 153 = .ok (.iload_n 3, 1) := by decide +kernel
theorem dX9_repair_154 : decode cX9_repair 154 = .ok (.iadd, 1) := by decide +kernel
theorem dX9_repair_155 : decode cX9_repair 155 = .ok (.iload 5, 2) := by decide +kernel
theorem dX9_repair_157 : decode cX9_repair 157 = .ok (.if_icmp .le 26, 3) := by decide +kernel
theorem dX9_repair_160 : decode cX9_repair 160 = .ok (.iload 5, 2) := by decide +kernel
theorem dX9_repair_162 : decode cX9_repair 162 = .ok (.aload_n 0, 1) := by decide +kernel
theorem dX9_repair_163 : decode cX9_repair 163 = .ok (.getfield 207, 3) := by decide +kernel
theorem dX9_repair_166 : decode cX9_repair 166 = .ok (.if_icmp .ge 17, 3) := by decide +kernel
theorem dX9_repair_169 : decode cX9_repair 169 = .ok (.aload_n 0, 1) := by decide +kernel
theorem dX9_repair_170 : decode cX9_repair 170 = .ok (.iload_n 1, 1) := by decide +kernel
theorem dX9_repair_171 : decode cX9_repair 171 = .ok (.aload_n 0, 1) := by decide +kernel
theorem dX9_repair_172 : decode cX9_repair 172 = .ok (.getfield 93, 3) := by decide +kernel
theorem dX9_repair_175 : decode cX9_repair 175 = .ok (.iload 6, 2) := by decide +kernel
theorem dX9_repair_177 : decode cX9_repair 177 = .ok (.iaload, 1) := by decide +kernel
theorem dX9_repair_178 : decode cX9_repair 178 = .ok (.iload_n 3, 1) := by decide +kernel
theorem dX9_repair_179 : decode cX9_repair 179 = .ok (.iadd, 1) := by decide +kernel
theorem dX9_repair_180 : decode cX9_repair 180 = .ok (.invokevirtual 237, 3) := by decide +kernel
theorem dX9_repair_183 : decode cX9_repair 183 = .ok (.iinc 6 1, 3) := by decide +kernel
theorem dX9_repair_186 : decode cX9_repair 186 = .ok (.goto (-47), 3) := by decide +kernel
theorem dX9_repair_189 : decode cX9_repair 189 = .ok (.return_, 1) := by decide +kernel
set_option maxRecDepth 20000 in
theorem ggX9_repairAll_X9_repair : GoodIn wsX9_repairAll wsX9_repair := goodIn_r _ [5, 6, 7, 8, 9, 10, 11, 12, 13, 4, 14, 15, 16, 17, 18, 19, 20, 21, 22, 23, 24, 25, 26, 27, 28, 29, 30, 31, 32, 33, 34, 35, 36, 37, 38, 39, 40, 41, 42, 43, 44, 45, 46, 47, 48, 49, 50, 51, 52, 53, 54, 55, 56, 57, 58, 59, 60, 61, 62, 63, 64, 65, 66, 67, 68, 69, 70, 71, 72, 73, 74, 75, 76, 77, 78, 79, 80, 81, 82, 83, 84, 85, 86, 87, 88, 89, 90, 91, 92, 93, 94, 95, 96, 97, 98, 99, 100, 101, 102, 103, 104, 105, 106, 107] (by decide +kernel) (by decide +kernel)
set_option maxRecDepth 20000 in
theorem gX9_repairAll_X9_repair : GoodIn wsX9_repairAll (wsV RX9 250 RX9 yX9_repair wsX9_repair) := goodIn_app (goodIn_of _ (by decide +kernel)) ggX9_repairAll_X9_repair
theorem dX9_repairAll_0 : decode cX9_repairAll 0 = .ok (.iconst 0, 1) := by decide +kernel
theorem dX9_repairAll_1 : decode cX9_repairAll 1 = .ok (.istore_n 3, 1) := by decide +kernel
theorem dX9_repairAll_2 : decode cX9_repairAll 2 = .ok (.iload_n 3, 1) := by decide +kernel
theorem dX9_repairAll_3 : decode cX9_repairAll 3 = .ok (.iconst 3, 1) := by decide +kernel
theorem dX9_repairAll_4 : decode cX9_repairAll 4 = .ok (.if_icmp .ge 16, 3) := by decide +kernel
theorem dX9_repairAll_7 : decode cX9_repairAll 7 = .ok (.aload_n 0, 1) := by decide +kernel
theorem dX9_repairAll_8 : decode cX9_repairAll 8 = .ok (.iload_n 3, 1) := by decide +kernel
theorem dX9_repairAll_9 : decode cX9_repairAll 9 = .ok (.iload_n 1, 1) := by decide +kernel
theorem dX9_repairAll_10 : decode cX9_repairAll 10 = .ok (.iload_n 2, 1) := by decide +kernel
theorem dX9_repairAll_11 : decode cX9_repairAll 11 = .ok (.invokevirtual 250, 3) := by decide +kernel
theorem dX9_repairAll_14 : decode cX9_repairAll 14 = .ok (.iinc 3 1, 3) := by decide +kernel
theorem dX9_repairAll_17 : decode cX9_repairAll 17 = .ok (.goto (-15), 3) := by decide +kernel
theorem dX9_repairAll_20 : decode cX9_repairAll 20 = .ok (.return_, 1) := by decide +kernel
set_option maxRecDepth 20000 in
theorem ggX9_putIn_X9_findStarts : GoodIn wsX9_putIn wsX9_findStarts := goodIn_r _ [8, 9, 10, 11, 12, 13, 7, 14, 15, 16, 17, 18, 19, 20, 21, 22, 23, 24, 25, 26, 27, 1, 28, 29, 30, 31, 32, 33, 2, 34, 35, 36, 37, 38, 39, 72, 73, 74, 75, 76, 77, 78, 79, 80, 81, 82, 83, 84, 85, 86, 87, 88, 89, 90, 91, 92, 93, 94, 95, 96, 97, 98, 99, 100, 101, 102, 103, 104, 105, 106, 107, 108, 109, 110, 111, 112, 113, 114, 115, 116, 117, 118, 119, 120, 121, 122, 123, 124, 125] (by decide +kernel) (by decide +kernel)
set_option maxRecDepth 20000 in
theorem gX9_putIn_X9_findStarts : GoodIn wsX9_putIn (wsV RX9 254 RX9 yX9_findStarts wsX9_findStarts) := goodIn_app (goodIn_of _ (by decide +kernel)) ggX9_putIn_X9_findStarts
set_option maxRecDepth 20000 in
theorem ggX9_putIn_X9_repairAll : GoodIn wsX9_putIn wsX9_repairAll := goodIn_r _ [43, 44, 45, 46, 7, 47, 9, 48, 10, 49, 1, 11, 12, 13, 14, 15, 50, 51, 52, 53, 54, 55, 56, 57, 20, 58, 59, 60, 61, 25, 28, 29, 30, 31, 32, 33, 2, 34, 62, 63, 64, 65, 66, 27, 67, 35, 36, 37, 38, 39, 68, 69, 70, 71, 72, 73, 74, 75, 76, 77, 78, 79, 80, 81, 82, 83, 84, 85, 86, 87, 88, 89, 90, 91, 92, 93, 94, 95, 96, 97, 98, 99, 100, 101, 102, 103, 104, 105, 106, 107, 108, 109, 110, 111, 112, 113, 114, 115, 116, 117, 118, 119, 120, 121, 122, 123, 124, 125] (by decide +kernel) (by decide +kernel)
set_option maxRecDepth 20000 in
theorem gX9_putIn_X9_repairAll : GoodIn wsX9_putIn (wsV RX9 257 RX9 yX9_repairAll wsX9_repairAll) := goodIn_app (goodIn_of _ (by decide +kernel)) ggX9_putIn_X9_repairAll
theorem dX9_putIn_0 : decode cX9_putIn 0 = .ok (.aload_n 0, 1) := by decide +kernel
theorem dX9_putIn_1 : decode cX9_putIn 1 = .ok (.iload_n 1, 1) := by decide +kernel
theorem dX9_putIn_2 : decode cX9_putIn 2 = .ok (.invokevirtual 254, 3) := by decide +kernel
theorem dX9_putIn_5 : decode cX9_putIn 5 = .ok (.aload_n 0, 1) := by decide +kernel
theorem dX9_putIn_6 : decode cX9_putIn 6 = .ok (.getfield 207, 3) := by decide +kernel
theorem dX9_putIn_9 : decode cX9_putIn 9 = .ok (.iconst 1, 1) := by decide +kernel
theorem dX9_putIn_10 : decode cX9_putIn 10 = .ok (.isub, 1) := by decide +kernel
theorem dX9_putIn_11 : decode cX9_putIn 11 = .ok (.istore_n 3, 1) := by decide +kernel
theorem dX9_putIn_12 : decode cX9_putIn 12 = .ok (.iload_n 3, 1) := by decide +kernel
theorem dX9_putIn_13 : decode cX9_putIn 13 = .ok (.iload_n 1, 1) := by decide +kernel
theorem dX9_putIn_14 : decode cX9_putIn 14 = .ok (.if_icmp .lt 23, 3) := by decide +kernel
theorem dX9_putIn_17 : decode cX9_putIn 17 = .ok (.aload_n 0, 1) := by decide +kernel
theorem dX9_putIn_18 : decode cX9_putIn 18 = .ok (.getfield 78, 3) := by decide +kernel
theorem dX9_putIn_21 : decode cX9_putIn 21 = .ok (.iload_n 3, 1) := by decide +kernel
theorem dX9_putIn_22 : decode cX9_putIn 22 = .ok (.iload_n 2, 1) := by decide +kernel
theorem dX9_putIn_23 : decode cX9_putIn 23 = .ok (.iadd, 1) := by decide +kernel
theorem dX9_putIn_24 : decode cX9_putIn 24 = .ok (.aload_n 0, 1) := by decide +kernel
theorem dX9_putIn_25 : decode cX9_putIn 25 = .ok (.getfield 78, 3) := by decide +kernel
theorem dX9_putIn_28 : decode cX9_putIn 28 = .ok (.iload_n 3, 1) := by decide +kernel
theorem dX9_putIn_29 : decode cX9_putIn 29 = .ok (.caload, 1) := by decide +kernel
theorem dX9_putIn_30 : decode cX9_putIn 30 = .ok (.castore, 1) := by decide +kernel
theorem dX9_putIn_31 : decode cX9_putIn 31 = .ok (.iinc 3 (-1), 3) := by decide +kernel
theorem dX9_putIn_34 : decode cX9_putIn 34 = .ok (.goto (-22), 3) := by decide +kernel
theorem dX9_putIn_37 : decode cX9_putIn 37 = .ok (.iconst 0, 1) := by decide +kernel
theorem dX9_putIn_38 : decode cX9_putIn 38 = .ok (.istore_n 3, 1) := by decide +kernel
theorem dX9_putIn_39 : decode cX9_putIn 39 = .ok (.iload_n 3, 1) := by decide +kernel
theorem dX9_putIn_40 : decode cX9_putIn 40 = .ok (.iload_n 2, 1) := by decide +kernel
theorem dX9_putIn_41 : decode cX9_putIn 41 = .ok (.if_icmp .ge 23, 3) := by decide +kernel
theorem dX9_putIn_44 : decode cX9_putIn 44 = .ok (.aload_n 0, 1) := by decide +kernel
theorem dX9_putIn_45 : decode cX9_putIn 45 = .ok (.getfield 78, 3) := by decide +kernel
theorem dX9_putIn_48 : decode cX9_putIn 48 = .ok (.iload_n 1, 1) := by decide +kernel
theorem dX9_putIn_49 : decode cX9_putIn 49 = .ok (.iload_n 3, 1) := by decide +kernel
theorem dX9_putIn_50 : decode cX9_putIn 50 = .ok (.iadd, 1) := by decide +kernel
theorem dX9_putIn_51 : decode cX9_putIn 51 = .ok (.aload_n 0, 1) := by decide +kernel
theorem dX9_putIn_52 : decode cX9_putIn 52 = .ok (.getfield 96, 3) := by decide +kernel
theorem dX9_putIn_55 : decode cX9_putIn 55 = .ok (.iload_n 3, 1) := by decide +kernel
theorem dX9_putIn_56 : decode cX9_putIn 56 = .ok (.caload, 1) := by decide +kernel
theorem dX9_putIn_57 : decode cX9_putIn 57 = .ok (.castore, 1) := by decide +kernel
theorem dX9_putIn_58 : decode cX9_putIn 58 = .ok (.iinc 3 1, 3) := by decide +kernel
theorem dX9_putIn_61 : decode cX9_putIn 61 = .ok (.goto (-22), 3) := by decide +kernel
theorem dX9_putIn_64 : decode cX9_putIn 64 = .ok (.aload_n 0, 1) := by decide +kernel
theorem dX9_putIn_65 : decode cX9_putIn 65 = .ok (.dup, 1) := by decide +kernel
theorem dX9_putIn_66 : decode cX9_putIn 66 = .ok (.getfield 207, 3) := by decide +kernel
theorem dX9_putIn_69 : decode cX9_putIn 69 = .ok (.iload_n 2, 1) := by decide +kernel
theorem dX9_putIn_70 : decode cX9_putIn 70 = .ok (.iadd, 1) := by decide +kernel
theorem dX9_putIn_71 : decode cX9_putIn 71 = .ok (.putfield 207, 3) := by decide +kernel
theorem dX9_putIn_74 : decode cX9_putIn 74 = .ok (.aload_n 0, 1) := by decide +kernel
theorem dX9_putIn_75 : decode cX9_putIn 75 = .ok (.iload_n 1, 1) := by decide +kernel
theorem dX9_putIn_76 : decode cX9_putIn 76 = .ok (.iload_n 2, 1) := by decide +kernel
theorem dX9_putIn_77 : decode cX9_putIn 77 = .ok (.iadd, 1) := by decide +kernel
theorem dX9_putIn_78 : decode cX9_putIn 78 = .ok (.iload_n 2, 1) := by decide +kernel
theorem dX9_putIn_79 : decode cX9_putIn 79 = .ok (.invokevirtual 257, 3) := by decide +kernel
theorem dX9_putIn_82 : decode cX9_putIn 82 = .ok (.return_, 1) := by decide +kernel
set_option maxRecDepth 20000 in
theorem ggX9_takeOut_X9_findStarts : GoodIn wsX9_takeOut wsX9_findStarts := goodIn_r _ [7, 8, 9, 10, 11, 12, 6, 13, 14, 15, 16, 17, 18, 19, 20, 21, 22, 23, 24, 25, 26, 1, 27, 28, 29, 30, 31, 32, 2, 33, 34, 35, 36, 37, 38, 71, 72, 73, 74, 75, 76, 77, 78, 79, 80, 81, 82, 83, 84, 85, 86, 87, 88, 89, 90, 91, 92, 93, 94, 95, 96, 97, 98, 99, 100, 101, 102, 103, 104, 105, 106, 107, 108, 109, 110, 111, 112, 113, 114, 115, 116, 117, 118, 119, 120, 121, 122, 123, 124] (by decide +kernel) (by decide +kernel)
set_option maxRecDepth 20000 in
theorem gX9_takeOut_X9_findStarts : GoodIn wsX9_takeOut (wsV RX9 254 RX9 yX9_findStarts wsX9_findStarts) := goodIn_app (goodIn_of _ (by decide +kernel)) ggX9_takeOut_X9_findStarts
set_option maxRecDepth 20000 in
theorem ggX9_takeOut_X9_repairAll : GoodIn wsX9_takeOut wsX9_repairAll := goodIn_r _ [42, 43, 44, 45, 6, 46, 8, 47, 9, 48, 1, 10, 11, 12, 13, 14, 49, 50, 51, 52, 53, 54, 55, 56, 19, 57, 58, 59, 60, 24, 27, 28, 29, 30, 31, 32, 2, 33, 61, 62, 63, 64, 65, 26, 66, 34, 35, 36, 37, 38, 67, 68, 69, 70, 71, 72, 73, 74, 75, 76, 77, 78, 79, 80, 81, 82, 83, 84, 85, 86, 87, 88, 89, 90, 91, 92, 93, 94, 95, 96, 97, 98, 99, 100, 101, 102, 103, 104, 105, 106, 107, 108, 109, 110, 111, 112, 113, 114, 115, 116, 117, 118, 119, 120, 121, 122, 123, 124] (by decide +kernel) (by decide +kernel)
set_option maxRecDepth 20000 in
theorem gX9_takeOut_X9_repairAll : GoodIn wsX9_takeOut (wsV RX9 257 RX9 yX9_repairAll wsX9_repairAll) := goodIn_app (goodIn_of _ (by decide +kernel)) ggX9_takeOut_X9_repairAll
theorem dX9_takeOut_0 : decode cX9_takeOut 0 = .ok (.aload_n 0, 1) := by decide +kernel
theorem dX9_takeOut_1 : decode cX9_takeOut 1 = .ok (.iload_n 1, 1) := by decide +kernel
theorem dX9_takeOut_2 : decode cX9_takeOut 2 = .ok (.invokevirtual 254, 3) := by decide +kernel
theorem dX9_takeOut_5 : decode cX9_takeOut 5 = .ok (.aload_n 0, 1) := by decide +kernel
theorem dX9_takeOut_6 : decode cX9_takeOut 6 = .ok (.dup, 1) := by decide +kernel
theorem dX9_takeOut_7 : decode cX9_takeOut 7 = .ok (.getfield 207, 3) := by decide +kernel
theorem dX9_takeOut_10 : decode cX9_takeOut 10 = .ok (.iload_n 2, 1) := by decide +kernel
theorem dX9_takeOut_11 : decode cX9_takeOut 11 = .ok (.isub, 1) := by decide +kernel
theorem dX9_takeOut_12 : decode cX9_takeOut 12 = .ok (.putfield 207, 3) := by decide +kernel
theorem dX9_takeOut_15 : decode cX9_takeOut 15 = .ok (.iload_n 1, 1) := by decide +kernel
theorem dX9_takeOut_16 : decode cX9_takeOut 16 = .ok (.istore_n 3, 1) := by decide +kernel
theorem dX9_takeOut_17 : decode cX9_takeOut 17 = .ok (.iload_n 3, 1) := by decide +kernel
theorem dX9_takeOut_18 : decode cX9_takeOut 18 = .ok (.aload_n 0, 1) := by decide +kernel
theorem dX9_takeOut_19 : decode cX9_takeOut 19 = .ok (.getfield 207, 3) := by decide +kernel
theorem dX9_takeOut_22 : decode cX9_takeOut 22 = .ok (.if_icmp .ge 23, 3) := by decide +kernel
theorem dX9_takeOut_25 : decode cX9_takeOut 25 = .ok (.aload_n 0, 1) := by decide +kernel
theorem dX9_takeOut_26 : decode cX9_takeOut 26 = .ok (.getfield 78, 3) := by decide +kernel
theorem dX9_takeOut_29 : decode cX9_takeOut 29 = .ok (.iload_n 3, 1) := by decide +kernel
theorem dX9_takeOut_30 : decode cX9_takeOut 30 = .ok (.aload_n 0, 1) := by decide +kernel
theorem dX9_takeOut_31 : decode cX9_takeOut 31 = .ok (.getfield 78, 3) := by decide +kernel
theorem dX9_takeOut_34 : decode cX9_takeOut 34 = .ok (.iload_n 3, 1) := by decide +kernel
theorem dX9_takeOut_35 : decode cX9_takeOut 35 = .ok (.iload_n 2, 1) := by decide +kernel
theorem dX9_takeOut_36 : decode cX9_takeOut 36 = .ok (.iadd, 1) := by decide +kernel
theorem dX9_takeOut_37 : decode cX9_takeOut 37 = .ok (.caload, 1) := by decide +kernel
theorem dX9_takeOut_38 : decode cX9_takeOut 38 = .ok (.castore, 1) := by decide +kernel
theorem dX9_takeOut_39 : decode cX9_takeOut 39 = .ok (.iinc 3 1, 3) := by decide +kernel
theorem dX9_takeOut_42 : decode cX9_takeOut 42 = .ok (.goto (-25), 3) := by decide +kernel
theorem dX9_takeOut_45 : decode cX9_takeOut 45 = .ok (.aload_n 0, 1) := by decide +kernel
theorem dX9_takeOut_46 : decode cX9_takeOut 46 = .ok (.iload_n 1, 1) := by decide +kernel
theorem dX9_takeOut_47 : decode cX9_takeOut 47 = .ok (.iload_n 2, 1) := by decide +kernel
theorem dX9_takeOut_48 : decode cX9_takeOut 48 = .ok (.ineg, 1) := by decide +kernel
theorem dX9_takeOut_49 : decode cX9_takeOut 49 = .ok (.invokevirtual 257, 3) := by decide +kernel
theorem dX9_takeOut_52 : decode cX9_takeOut 52 = .ok (.return_, 1) := by decide +kernel
theorem dX9_remember_0 : decode cX9_remember 0 = .ok (.aload_n 0, 1) := by decide +kernel
theorem dX9_remember_1 : decode cX9_remember 1 = .ok (.getfield 260, 3) := by decide +kernel
theorem dX9_remember_4 : decode cX9_remember 4 = .ok (.bipush 30, 2) := by decide +kernel
theorem dX9_remember_6 : decode cX9_remember 6 = .ok (.if_icmp .ne 124, 3) := by decide +kernel
theorem dX9_remember_9 : decode cX9_remember 9 = .ok (.aload_n 0, 1) := by decide +kernel
theorem dX9_remember_10 : decode cX9_remember 10 = .ok (.dup, 1) := by decide +kernel
theorem dX9_remember_11 : decode cX9_remember 11 = .ok (.getfield 260, 3) := by decide +kernel
theorem dX9_remember_14 : decode cX9_remember 14 = .ok (.iconst 1, 1) := by decide +kernel
theorem dX9_remember_15 : decode cX9_remember 15 = .ok (.isub, 1) := by decide +kernel
theorem dX9_remember_16 : decode cX9_remember 16 = .ok (.putfield 260, 3) := by decide +kernel
theorem dX9_remember_19 : decode cX9_remember 19 = .ok (.iconst 0, 1) := by decide +kernel
theorem dX9_remember_20 : decode cX9_remember 20 = .ok (.istore 4, 2) := by decide +kernel
theorem dX9_remember_22 : decode cX9_remember 22 = .ok (.iload 4, 2) := by decide +kernel
theorem dX9_remember_24 : decode cX9_remember 24 = .ok (.aload_n 0, 1) := by decide +kernel
theorem dX9_remember_25 : decode cX9_remember 25 = .ok (.getfield 260, 3) := by decide +kernel
theorem dX9_remember_28 : decode cX9_remember 28 = .ok (.if_icmp .ge 102, 3) := by decide +kernel
theorem dX9_remember_31 : decode cX9_remember 31 = .ok (.aload_n 0, 1) := by decide +kernel
theorem dX9_remember_32 : decode cX9_remember 32 = .ok (.getfield 99, 3) := by decide +kernel
theorem dX9_remember_35 : decode cX9_remember 35 = .ok (.iload 4, 2) := by decide +kernel
theorem dX9_remember_37 : decode cX9_remember 37 = .ok (.aload_n 0, 1) := by decide +kernel
theorem dX9_remember_38 : decode cX9_remember 38 = .ok (.getfield 99, 3) := by decide +kernel
theorem dX9_remember_41 : decode cX9_remember 41 = .ok (.iload 4, 2) := by decide +kernel
theorem dX9_remember_43 : decode cX9_remember 43 = .ok (.iconst 1, 1) := by decide +kernel
theorem dX9_remember_44 : decode cX9_remember 44 = .ok (.iadd, 1) := by decide +kernel
theorem dX9_remember_45 : decode cX9_remember 45 = .ok (.baload, 1) := by decide +kernel
theorem dX9_remember_46 : decode cX9_remember 46 = .ok (.bastore, 1) := by decide +kernel
theorem dX9_remember_47 : decode cX9_remember 47 = .ok (.aload_n 0, 1) := by decide +kernel
theorem dX9_remember_48 : decode cX9_remember 48 = .ok (.getfield 102, 3) := by decide +kernel
theorem dX9_remember_51 : decode cX9_remember 51 = .ok (.iload 4, 2) := by decide +kernel
theorem dX9_remember_53 : decode cX9_remember 53 = .ok (.aload_n 0, 1) := by decide +kernel
theorem dX9_remember_54 : decode cX9_remember 54 = .ok (.getfield 102, 3) := by decide +kernel
theorem dX9_remember_57 : decode cX9_remember 57 = .ok (.iload 4, 2) := by decide +kernel
theorem dX9_remember_59 : decode cX9_remember 59 = .ok (.iconst 1, 1) := by decide +kernel
theorem dX9_remember_60 : decode cX9_remember 60 = .ok (.iadd, 1) := by decide +kernel
theorem dX9_remember_61 : decode cX9_remember 61 = .ok (.iaload, 1) := by decide +kernel
theorem dX9_remember_62 : decode cX9_remember 62 = .ok (.iastore, 1) := by decide +kernel
theorem dX9_remember_63 : decode cX9_remember 63 = .ok (.aload_n 0, 1) := by decide +kernel
theorem dX9_remember_64 : decode cX9_remember 64 = .ok (.getfield 105, 3) := by decide +kernel
theorem dX9_remember_67 : decode cX9_remember 67 = .ok (.iload 4, 2) := by decide +kernel
theorem dX9_remember_69 : decode cX9_remember 69 = .ok (.aload_n 0, 1) := by decide +kernel
theorem dX9_remember_70 : decode cX9_remember 70 = .ok (.getfield 105, 3) := by decide +kernel
theorem dX9_remember_73 : decode cX9_remember 73 = .ok (.iload 4, 2) := by decide +kernel
theorem dX9_remember_75 : decode cX9_remember 75 = .ok (.iconst 1, 1) := by decide +kernel
theorem dX9_remember_76 : decode cX9_remember 76 = .ok (.iadd, 1) := by decide +kernel
theorem dX9_remember_77 : decode cX9_remember 77 = .ok (.iaload, 1) := by decide +kernel
theorem dX9_remember_78 : decode cX9_remember 78 = .ok (.iastore, 1) := by decide +kernel
theorem dX9_remember_79 : decode cX9_remember 79 = .ok (.iconst 0, 1) := by decide +kernel
theorem dX9_remember_80 : decode cX9_remember 80 = .ok (.istore 5, 2) := by decide +kernel
theorem dX9_remember_82 : decode cX9_remember 82 = .ok (.iload 5, 2) := by decide +kernel
theorem dX9_remember_84 : decode cX9_remember 84 = .ok (.bipush 100, 2) := by decide +kernel
theorem dX9_remember_86 : decode cX9_remember 86 = .ok (.if_icmp .ge 38, 3) := by decide +kernel
theorem dX9_remember_89 : decode cX9_remember 89 = .ok (.aload_n 0, 1) := by decide +kernel
theorem dX9_remember_90 : decode cX9_remember 90 = .ok (.getfield 108, 3) := by decide +kernel
theorem dX9_remember_93 : decode cX9_remember 93 = .ok (.bipush 100, 2) := by decide +kernel
theorem dX9_remember_95 : decode cX9_remember 95 = .ok (.iload 4, 2) := by decide +kernel
theorem dX9_remember_97 : decode cX9_remember 97 = .ok (.imul, 1) := by decide +kernel
theorem dX9_remember_98 : decode cX9_remember 98 = .ok (.iload 5, 2) := by decide +kernel
theorem dX9_remember_100 : decode cX9_remember 100 = .ok (.iadd, 1) := by decide +kernel
theorem dX9_remember_101 : decode cX9_remember 101 = .ok (.aload_n 0, 1) := by decide +kernel
theorem dX9_remember_102 : decode cX9_remember 102 = .ok (.getfield 108, 3) := by decide +kernel
theorem dX9_remember_105 : decode cX9_remember 105 = .ok (.bipush 100, 2) := by decide +kernel
theorem dX9_remember_107 : decode cX9_remember 107 = .ok (.iload 4, 2) := by decide +kernel
theorem dX9_remember_109 : decode cX9_remember 109 = .ok (.imul, 1) := by decide +kernel
theorem dX9_remember_110 : decode cX9_remember 110 = .ok (.bipush 100, 2) := by decide +kernel
theorem dX9_remember_112 : decode cX9_remember 112 = .ok (.iadd, 1) := by decide +kernel
theorem dX9_remember_113 : decode cX9_remember 113 = .ok (.iload 5, 2) := by decide +kernel
theorem dX9_remember_115 : decode cX9_remember 115 = .ok (.iadd, 1) := by decide +kernel
theorem dX9_remember_116 : decode cX9_remember 116 = .ok (.caload, 1) := by decide +kernel
theorem dX9_remember_117 : decode cX9_remember 117 = .ok (.castore, 1) := by decide +kernel
theorem dX9_remember_118 : decode cX9_remember 118 = .ok (.iinc 5 1, 3) := by decide +kernel
theorem dX9_remember_121 : decode cX9_remember 121 = .ok (.goto (-39), 3) := by decide +kernel
theorem dX9_remember_124 : decode cX9_remember 124 = .ok (.iinc 4 1, 3) := by decide +kernel
theorem dX9_remember_127 : decode cX9_remember 127 = .ok (.goto (-105), 3) := by decide +kernel
theorem dX9_remember_130 : decode cX9_remember 130 = .ok (.aload_n 0, 1) := by decide +kernel
theorem dX9_remember_131 : decode cX9_remember 131 = .ok (.getfield 99, 3) := by decide +kernel
theorem dX9_remember_134 : decode cX9_remember 134 = .ok (.aload_n 0, 1) := by decide +kernel
theorem dX9_remember_135 : decode cX9_remember 135 = .ok (.getfield 260, 3) := by decide +kernel
theorem dX9_remember_138 : decode cX9_remember 138 = .ok (.iload_n 1, 1) := by decide +kernel
theorem dX9_remember_139 : decode cX9_remember 139 = .ok (.bastore, 1) := by decide +kernel
theorem dX9_remember_140 : decode cX9_remember 140 = .ok (.aload_n 0, 1) := by decide +kernel
theorem dX9_remember_141 : decode cX9_remember 141 = .ok (.getfield 102, 3) := by decide +kernel
theorem dX9_remember_144 : decode cX9_remember 144 = .ok (.aload_n 0, 1) := by decide +kernel
theorem dX9_remember_145 : decode cX9_remember 145 = .ok (.getfield 260, 3) := by decide +kernel
theorem dX9_remember_148 : decode cX9_remember 148 = .ok (.iload_n 2, 1) := by decide +kernel
theorem dX9_remember_149 : decode cX9_remember 149 = .ok (.iastore, 1) := by decide +kernel
theorem dX9_remember_150 : decode cX9_remember 150 = .ok (.aload_n 0, 1) := by decide +kernel
theorem dX9_remember_151 : decode cX9_remember 151 = .ok (.getfield 105, 3) := by decide +kernel
theorem dX9_remember_154 : decode cX9_remember 154 = .ok (.aload_n 0, 1) := by decide +kernel
theorem dX9_remember_155 : decode cX9_remember 155 = .ok (.getfield 260, 3) := by decide +kernel
theorem dX9_remember_158 : decode cX9_remember 158 = .ok (.iload_n 3, 1) := by decide +kernel
theorem dX9_remember_159 : decode cX9_remember 159 = .ok (.iastore, 1) := by decide +kernel
theorem dX9_remember_160 : decode cX9_remember 160 = .ok (.iconst 0, 1) := by decide +kernel
theorem dX9_remember_161 : decode cX9_remember 161 = .ok (.istore 4, 2) := by decide +kernel
theorem dX9_remember_163 : decode cX9_remember 163 = .ok (.iload 4, 2) := by decide +kernel
theorem dX9_remember_165 : decode cX9_remember 165 = .ok (.iload_n 3, 1) := by decide +kernel
theorem dX9_remember_166 : decode cX9_remember 166 = .ok (.if_icmp .ge 31, 3) := by decide +kernel
theorem dX9_remember_169 : decode cX9_remember 169 = .ok (.aload_n 0, 1) := by decide +kernel
theorem dX9_remember_170 : decode cX9_remember 170 = .ok (.getfield 108, 3) := by decide +kernel
theorem dX9_remember_173 : decode cX9_remember 173 = .ok (.bipush 100, 2) := by decide +kernel
theorem dX9_remember_175 : decode cX9_remember 175 = .ok (.aload_n 0, 1) := by decide +kernel
theorem dX9_remember_176 : decode cX9_remember 176 = .ok (.getfield 260, 3) := by decide +kernel
theorem dX9_remember_179 : decode cX9_remember 179 = .ok (.imul, 1) := by decide +kernel
theorem dX9_remember_180 : decode cX9_remember 180 = .ok (.iload 4, 2) := by decide +kernel
theorem dX9_remember_182 : decode cX9_remember 182 = .ok (.iadd, 1) := by decide +kernel
theorem dX9_remember_183 : decode cX9_remember 183 = .ok (.aload_n 0, 1) := by decide +kernel
theorem dX9_remember_184 : decode cX9_remember 184 = .ok (.getfield 96, 3) := by decide +kernel
theorem dX9_remember_187 : decode cX9_remember 187 = .ok (.iload 4, 2) := by decide +kernel
theorem dX9_remember_189 : decode cX9_remember 189 = .ok (.caload, 1) := by decide +kernel
theorem dX9_remember_190 : decode cX9_remember 190 = .ok (.castore, 1) := by decide +kernel
theorem dX9_remember_191 : decode cX9_remember 191 = .ok (.iinc 4 1, 3) := by decide +kernel
theorem dX9_remember_194 : decode cX9_remember 194 = .ok (.goto (-31), 3) := by decide +kernel
theorem dX9_remember_197 : decode cX9_remember 197 = .ok (.aload_n 0, 1) := by decide +kernel
theorem dX9_remember_198 : decode cX9_remember 198 = .ok (.dup, 1) := by decide +kernel
theorem dX9_remember_199 : decode cX9_remember 199 = .ok (.getfield 260, 3) := by decide +kernel
theorem dX9_remember_202 : decode cX9_remember 202 = .ok (.iconst 1, 1) := by decide +kernel
theorem dX9_remember_203 : decode cX9_remember 203 = .ok (.iadd, 1) := by decide +kernel
theorem dX9_remember_204 : decode cX9_remember 204 = .ok (.putfield 260, 3) := by decide +kernel
theorem dX9_remember_207 : decode cX9_remember 207 = .ok (.return_, 1) := by decide +kernel
set_option maxRecDepth 20000 in
theorem ggX9_insert_X9_noPosition : GoodIn wsX9_insert wsX9_noPosition := goodIn_r _ [8, 1, 9, 10, 7, 11, 93, 94, 95, 96, 97, 98, 99, 100, 101, 102, 103, 104, 105, 106, 107, 108, 109, 110, 111, 112, 113, 114, 115, 116, 117, 118, 119, 120, 121, 122, 123, 124, 125, 126, 127, 128, 129, 130, 131, 132, 133, 134, 135, 136, 137, 138, 139, 140, 141, 142, 143, 144, 145, 146] (by decide +kernel) (by decide +kernel)
set_option maxRecDepth 20000 in
theorem gX9_insert_X9_noPosition : GoodIn wsX9_insert (wsV RX9 221 RX9 yX9_noPosition wsX9_noPosition) := goodIn_app (goodIn_of _ (by decide +kernel)) ggX9_insert_X9_noPosition
set_option maxRecDepth 20000 in
theorem ggX9_insert_X9_in : GoodIn wsX9_insert wsX9_in := goodIn_r _ [11] (by decide +kernel) (by decide +kernel)
set_option maxRecDepth 20000 in
theorem gX9_insert_X9_in : GoodIn wsX9_insert (va_wsS RX9 136 yX9_in wsX9_in) := goodIn_app (goodIn_of _ (by decide +kernel)) ggX9_insert_X9_in
set_option maxRecDepth 20000 in
theorem ggX9_insert_X9_remember : GoodIn wsX9_insert wsX9_remember := goodIn_r _ [15, 16, 17, 18, 19, 20, 2, 93, 94, 95, 96, 97, 98, 99, 100, 101, 102, 103, 104, 105, 106, 107, 108, 109, 110, 111, 112, 113, 114, 115, 116, 117, 118, 119, 120, 121, 122, 123, 124, 125, 126, 127, 128, 129, 130, 131, 132, 133, 134, 135, 136, 137, 138, 139, 140, 141, 142, 143, 144, 145, 146] (by decide +kernel) (by decide +kernel)
set_option maxRecDepth 20000 in
theorem gX9_insert_X9_remember : GoodIn wsX9_insert (wsV RX9 263 RX9 yX9_remember wsX9_remember) := goodIn_app (goodIn_of _ (by decide +kernel)) ggX9_insert_X9_remember
set_option maxRecDepth 20000 in
theorem ggX9_insert_X9_putIn : GoodIn wsX9_insert wsX9_putIn := goodIn_r _ [24, 1, 25, 2, 26, 27, 28, 7, 29, 30, 31, 32, 33, 34, 35, 36, 37, 38, 39, 40, 41, 42, 43, 44, 45, 46, 47, 48, 49, 50, 51, 52, 53, 54, 55, 56, 57, 58, 59, 60, 61, 62, 63, 64, 65, 66, 67, 68, 69, 70, 71, 72, 73, 74, 75, 76, 77, 78, 79, 80, 81, 82, 83, 84, 85, 86, 87, 88, 89, 90, 91, 92, 93, 94, 95, 96, 97, 98, 99, 100, 101, 102, 103, 104, 105, 106, 107, 108, 109, 110, 111, 112, 113, 114, 115, 116, 117, 118, 119, 120, 121, 122, 123, 124, 125, 126, 127, 128, 129, 130, 131, 132, 133, 134, 135, 136, 137, 138, 139, 140, 141, 142, 143, 144, 145, 146] (by decide +kernel) (by decide +kernel)
set_option maxRecDepth 20000 in
theorem gX9_insert_X9_putIn : GoodIn wsX9_insert (wsV RX9 270 RX9 yX9_putIn wsX9_putIn) := goodIn_app (goodIn_of _ (by decide +kernel)) ggX9_insert_X9_putIn
theorem dX9_insert_0 : decode cX9_insert 0 = .ok (.aload_n 0, 1) := by decide +kernel
theorem dX9_insert_1 : decode cX9_insert 1 = .ok (.iload_n 1, 1) := by decide +kernel
theorem dX9_insert_2 : decode cX9_insert 2 = .ok (.invokevirtual 221, 3) := by decide +kernel
theorem dX9_insert_5 : decode cX9_insert 5 = .ok (.ifCond .eq 5, 3) := by decide +kernel
theorem dX9_insert_8 : decode cX9_insert 8 = .ok (.iconst (-1), 1) := by decide +kernel
theorem dX9_insert_9 : decode cX9_insert 9 = .ok (.ireturn, 1) := by decide +kernel
theorem dX9_insert_10 : decode cX9_insert 10 = .ok (.iload_n 2, 1) := by decide +kernel
theorem dX9_insert_11 : decode cX9_insert 11 = .ok (.bipush 32, 2) := by decide +kernel
theorem dX9_insert_13 : decode cX9_insert 13 = .ok (.bipush 126, 2) := by decide +kernel
theorem dX9_insert_15 : decode cX9_insert 15 = .ok (.invokestatic 136, 3) := by decide +kernel
theorem dX9_insert_18 : decode cX9_insert 18 = .ok (.ifCond .ne 6, 3) := by decide +kernel
theorem dX9_insert_21 : decode cX9_insert 21 = .ok (.bipush (-2), 2) := by decide +kernel
theorem dX9_insert_23 : decode cX9_insert 23 = .ok (.ireturn, 1) := by decide +kernel
theorem dX9_insert_24 : decode cX9_insert 24 = .ok (.aload_n 0, 1) := by decide +kernel
theorem dX9_insert_25 : decode cX9_insert 25 = .ok (.getfield 207, 3) := by decide +kernel
theorem dX9_insert_28 : decode cX9_insert 28 = .ok (.bipush 100, 2) := by decide +kernel
theorem dX9_insert_30 : decode cX9_insert 30 = .ok (.if_icmp .ne 6, 3) := by decide +kernel
theorem dX9_insert_33 : decode cX9_insert 33 = .ok (.bipush (-3), 2) := by decide +kernel
theorem dX9_insert_35 : decode cX9_insert 35 = .ok (.ireturn, 1) := by decide +kernel
theorem dX9_insert_36 : decode cX9_insert 36 = .ok (.aload_n 0, 1) := by decide +kernel
theorem dX9_insert_37 : decode cX9_insert 37 = .ok (.getfield 96, 3) := by decide +kernel
theorem dX9_insert_40 : decode cX9_insert 40 = .ok (.iconst 0, 1) := by decide +kernel
theorem dX9_insert_41 : decode cX9_insert 41 = .ok (.iload_n 2, 1) := by decide +kernel
theorem dX9_insert_42 : decode cX9_insert 42 = .ok (.castore, 1) := by decide +kernel
theorem dX9_insert_43 : decode cX9_insert 43 = .ok (.aload_n 0, 1) := by decide +kernel
theorem dX9_insert_44 : decode cX9_insert 44 = .ok (.iconst 1, 1) := by decide +kernel
theorem dX9_insert_45 : decode cX9_insert 45 = .ok (.iload_n 1, 1) := by decide +kernel
theorem dX9_insert_46 : decode cX9_insert 46 = .ok (.iconst 1, 1) := by decide +kernel
theorem dX9_insert_47 : decode cX9_insert 47 = .ok (.invokevirtual 263, 3) := by decide +kernel
theorem dX9_insert_50 : decode cX9_insert 50 = .ok (.aload_n 0, 1) := by decide +kernel
theorem dX9_insert_51 : decode cX9_insert 51 = .ok (.iconst 0, 1) := by decide +kernel
theorem dX9_insert_52 : decode cX9_insert 52 = .ok (.putfield 267, 3) := by decide +kernel
theorem dX9_insert_55 : decode cX9_insert 55 = .ok (.aload_n 0, 1) := by decide +kernel
theorem dX9_insert_56 : decode cX9_insert 56 = .ok (.iload_n 1, 1) := by decide +kernel
theorem dX9_insert_57 : decode cX9_insert 57 = .ok (.iconst 1, 1) := by decide +kernel
theorem dX9_insert_58 : decode cX9_insert 58 = .ok (.invokevirtual 270, 3) := by decide +kernel
theorem dX9_insert_61 : decode cX9_insert 61 = .ok (.aload_n 0, 1) := by decide +kernel
theorem dX9_insert_62 : decode cX9_insert 62 = .ok (.getfield 207, 3) := by decide +kernel
theorem dX9_insert_65 : decode cX9_insert 65 = .ok (.ireturn, 1) := by decide +kernel
set_option maxRecDepth 20000 in
theorem ggX9_erase_X9_in : GoodIn wsX9_erase wsX9_in := goodIn_r _ [8] (by decide +kernel) (by decide +kernel)
set_option maxRecDepth 20000 in
theorem gX9_erase_X9_in : GoodIn wsX9_erase (va_wsS RX9 136 yX9_in wsX9_in) := goodIn_app (goodIn_of _ (by decide +kernel)) ggX9_erase_X9_in
set_option maxRecDepth 20000 in
theorem ggX9_erase_X9_remember : GoodIn wsX9_erase wsX9_remember := goodIn_r _ [12, 13, 14, 15, 16, 17, 2, 89, 90, 91, 92, 93, 94, 95, 96, 97, 98, 99, 100, 101, 102, 103, 104, 105, 106, 107, 108, 109, 110, 111, 112, 113, 114, 115, 116, 117, 118, 119, 120, 121, 122, 123, 124, 125, 126, 127, 128, 129, 130, 131, 132, 133, 134, 135, 136, 137, 138, 139, 140, 141, 142] (by decide +kernel) (by decide +kernel)
set_option maxRecDepth 20000 in
theorem gX9_erase_X9_remember : GoodIn wsX9_erase (wsV RX9 263 RX9 yX9_remember wsX9_remember) := goodIn_app (goodIn_of _ (by decide +kernel)) ggX9_erase_X9_remember
set_option maxRecDepth 20000 in
theorem ggX9_erase_X9_takeOut : GoodIn wsX9_erase wsX9_takeOut := goodIn_r _ [21, 1, 3, 22, 23, 24, 7, 25, 26, 27, 28, 29, 30, 31, 32, 33, 34, 35, 36, 37, 38, 39, 40, 41, 42, 43, 44, 45, 46, 47, 48, 49, 50, 51, 52, 53, 54, 55, 56, 57, 58, 59, 60, 61, 62, 63, 64, 65, 66, 67, 68, 69, 70, 71, 72, 73, 74, 75, 76, 77, 78, 79, 80, 81, 82, 83, 84, 85, 86, 87, 88, 89, 90, 91, 92, 93, 94, 95, 96, 97, 98, 99, 100, 101, 102, 103, 104, 105, 106, 107, 108, 109, 110, 111, 112, 113, 114, 115, 116, 117, 118, 119, 120, 121, 122, 123, 124, 125, 126, 127, 128, 129, 130, 131, 132, 133, 134, 135, 136, 137, 138, 139, 140, 141, 142] (by decide +kernel) (by decide +kernel)
set_option maxRecDepth 20000 in
theorem gX9_erase_X9_takeOut : GoodIn wsX9_erase (wsV RX9 273 RX9 yX9_takeOut wsX9_takeOut) := goodIn_app (goodIn_of _ (by decide +kernel)) ggX9_erase_X9_takeOut
theorem dX9_erase_0 : decode cX9_erase 0 = .ok (.iload_n 1, 1) := by decide +kernel
theorem dX9_erase_1 : decode cX9_erase 1 = .ok (.iconst 0, 1) := by decide +kernel
theorem dX9_erase_2 : decode cX9_erase 2 = .ok (.aload_n 0, 1) := by decide +kernel
theorem dX9_erase_3 : decode cX9_erase 3 = .ok (.getfield 207, 3) := by decide +kernel
theorem dX9_erase_6 : decode cX9_erase 6 = .ok (.iconst 1, 1) := by decide +kernel
theorem dX9_erase_7 : decode cX9_erase 7 = .ok (.isub, 1) := by decide +kernel
theorem dX9_erase_8 : decode cX9_erase 8 = .ok (.invokestatic 136, 3) := by decide +kernel
theorem dX9_erase_11 : decode cX9_erase 11 = .ok (.ifCond .ne 5, 3) := by decide +kernel
theorem dX9_erase_14 : decode cX9_erase 14 = .ok (.iconst (-1), 1) := by decide +kernel
theorem dX9_erase_15 : decode cX9_erase 15 = .ok (.ireturn, 1) := by decide +kernel
theorem dX9_erase_16 : decode cX9_erase 16 = .ok (.iload_n 2, 1) := by decide +kernel
theorem dX9_erase_17 : decode cX9_erase 17 = .ok (.iconst 1, 1) := by decide +kernel
theorem dX9_erase_18 : decode cX9_erase 18 = .ok (.aload_n 0, 1) := by decide +kernel
theorem dX9_erase_19 : decode cX9_erase 19 = .ok (.getfield 207, 3) := by decide +kernel
theorem dX9_erase_22 : decode cX9_erase 22 = .ok (.iload_n 1, 1) := by decide +kernel
theorem dX9_erase_23 : decode cX9_erase 23 = .ok (.isub, 1) := by decide +kernel
theorem dX9_erase_24 : decode cX9_erase 24 = .ok (.invokestatic 136, 3) := by decide +kernel
theorem dX9_erase_27 : decode cX9_erase 27 = .ok (.ifCond .ne 6, 3) := by decide +kernel
theorem dX9_erase_30 : decode cX9_erase 30 = .ok (.bipush (-2), 2) := by decide +kernel
theorem dX9_erase_32 : decode cX9_erase 32 = .ok (.ireturn, 1) := by decide +kernel
theorem dX9_erase_33 : decode cX9_erase 33 = .ok (.iconst 0, 1) := by decide +kernel
