theorem dX9_previous_7 : decode cX9_previous 7 = .ok (.iload_n 3, 1) := by decide +kernel
theorem dX9_previous_8 : decode cX9_previous 8 = .ok (.ifCond .ge 5, 3) := by decide +kernel
theorem dX9_previous_11 : decode cX9_previous 11 = .ok (.iload_n 3, 1) := by decide +kernel
theorem dX9_previous_12 : decode cX9_previous 12 = .ok (.ireturn, 1) := by decide +kernel
theorem dX9_previous_13 : decode cX9_previous 13 = .ok (.aload_n 0, 1) := by decide +kernel
theorem dX9_previous_14 : decode cX9_previous 14 = .ok (.getfield 81, 3) := by decide +kernel
theorem dX9_previous_17 : decode cX9_previous 17 = .ok (.iload_n 1, 1) := by decide +kernel
theorem dX9_previous_18 : decode cX9_previous 18 = .ok (.iaload, 1) := by decide +kernel
theorem dX9_previous_19 : decode cX9_previous 19 = .ok (.iconst 1, 1) := by decide +kernel
theorem dX9_previous_20 : decode cX9_previous 20 = .ok (.isub, 1) := by decide +kernel
theorem dX9_previous_21 : decode cX9_previous 21 = .ok (.istore 4, 2) := by decide +kernel
theorem dX9_previous_23 : decode cX9_previous 23 = .ok (.iload 4, 2) := by decide +kernel
theorem dX9_previous_25 : decode cX9_previous 25 = .ok (.ifCond .lt 43, 3) := by decide +kernel
theorem dX9_previous_28 : decode cX9_previous 28 = .ok (.aload_n 0, 1) := by decide +kernel
theorem dX9_previous_29 : decode cX9_previous 29 = .ok (.iload_n 1, 1) := by decide +kernel
theorem dX9_previous_30 : decode cX9_previous 30 = .ok (.iload 4, 2) := by decide +kernel
theorem dX9_previous_32 : decode cX9_previous 32 = .ok (.invokevirtual 243, 3) := by decide +kernel
theorem dX9_previous_35 : decode cX9_previous 35 = .ok (.iload_n 2, 1) := by decide +kernel
theorem dX9_previous_36 : decode cX9_previous 36 = .ok (.if_icmp .ge 26, 3) := by decide +kernel
theorem dX9_previous_39 : decode cX9_previous 39 = .ok (.aload_n 0, 1) := by decide +kernel
theorem dX9_previous_40 : decode cX9_previous 40 = .ok (.iload_n 1, 1) := by decide +kernel
theorem dX9_previous_41 : decode cX9_previous 41 = .ok (.aload_n 0, 1) := by decide +kernel
theorem dX9_previous_42 : decode cX9_previous 42 = .ok (.iload_n 1, 1) := by decide +kernel
theorem dX9_previous_43 : decode cX9_previous 43 = .ok (.iload 4, 2) := by decide +kernel
theorem dX9_previous_45 : decode cX9_previous 45 = .ok (.invokevirtual 243, 3) := by decide +kernel
theorem dX9_previous_48 : decode cX9_previous 48 = .ok (.invokevirtual 291, 3) := by decide +kernel
theorem dX9_previous_51 : decode cX9_previous 51 = .ok (.ifCond .ne 11, 3) := by decide +kernel
theorem dX9_previous_54 : decode cX9_previous 54 = .ok (.aload_n 0, 1) := by decide +kernel
theorem dX9_previous_55 : decode cX9_previous 55 = .ok (.iload_n 1, 1) := by decide +kernel
theorem dX9_previous_56 : decode cX9_previous 56 = .ok (.iload 4, 2) := by decide +kernel
theorem dX9_previous_58 : decode cX9_previous 58 = .ok (.invokevirtual 243, 3) := by decide +kernel
theorem dX9_previous_61 : decode cX9_previous 61 = .ok (.ireturn, 1) := by decide +kernel
theorem dX9_previous_62 : decode cX9_previous 62 = .ok (.iinc 4 (-1), 3) := by decide +kernel
theorem dX9_previous_65 : decode cX9_previous 65 = .ok (.goto (-42), 3) := by decide +kernel
theorem dX9_previous_68 : decode cX9_previous 68 = .ok (.bipush (-5), 2) := by decide +kernel
theorem dX9_previous_70 : decode cX9_previous 70 = .ok (.ireturn, 1) := by decide +kernel
set_option maxRecDepth 20000 in
theorem ggX9_layBoundaries_X9_raw : GoodIn wsX9_layBoundaries wsX9_raw := goodIn_r _ [8, 9, 24, 25, 26, 27, 28, 29, 30, 31, 32, 33, 34, 35, 36, 37, 38, 39, 40, 41, 42, 43, 44, 45, 46, 47, 48, 49, 50, 51, 52, 53, 54, 55, 56, 57, 58, 59, 60, 61, 62, 63, 64, 65, 66, 67, 68, 69, 70, 71, 72, 73, 74, 75, 76, 77] (by decide +kernel) (by decide +kernel)
set_option maxRecDepth 20000 in
theorem gX9_layBoundaries_X9_raw : GoodIn wsX9_layBoundaries (wsV RX9 243 RX9 yX9_raw wsX9_raw) := goodIn_app (goodIn_of _ (by decide +kernel)) ggX9_layBoundaries_X9_raw
set_option maxRecDepth 20000 in
theorem ggX9_layBoundaries_X9_isSuppressed : GoodIn wsX9_layBoundaries wsX9_isSuppressed := goodIn_r _ [13, 14, 15, 16, 17, 18, 19, 7, 20, 21, 22, 23, 24, 25, 26, 27, 28, 29, 30, 31, 32, 33, 34, 35, 36, 37, 38, 39, 40, 41, 42, 43, 44, 45, 46, 47, 48, 49, 50, 51, 52, 53, 54, 55, 56, 57, 58, 59, 60, 61, 62, 63, 64, 65, 66, 67, 68, 69, 70, 71, 72, 73, 74, 75, 76, 77] (by decide +kernel) (by decide +kernel)
set_option maxRecDepth 20000 in
theorem gX9_layBoundaries_X9_isSuppressed : GoodIn wsX9_layBoundaries (wsV RX9 291 RX9 yX9_isSuppressed wsX9_isSuppressed) := goodIn_app (goodIn_of _ (by decide +kernel)) ggX9_layBoundaries_X9_isSuppressed
theorem dX9_layBoundaries_0 : decode cX9_layBoundaries 0 = .ok (.aload_n 0, 1) := by decide +kernel
theorem dX9_layBoundaries_1 : decode cX9_layBoundaries 1 = .ok (.iconst 0, 1) := by decide +kernel
theorem dX9_layBoundaries_2 : decode cX9_layBoundaries 2 = .ok (.putfield 294, 3) := by decide +kernel
theorem dX9_layBoundaries_5 : decode cX9_layBoundaries 5 = .ok (.iconst 0, 1) := by decide +kernel
theorem dX9_layBoundaries_6 : decode cX9_layBoundaries 6 = .ok (.istore_n 2, 1) := by decide +kernel
theorem dX9_layBoundaries_7 : decode cX9_layBoundaries 7 = .ok (.iload_n 2, 1) := by decide +kernel
theorem dX9_layBoundaries_8 : decode cX9_layBoundaries 8 = .ok (.aload_n 0, 1) := by decide +kernel
theorem dX9_layBoundaries_9 : decode cX9_layBoundaries 9 = .ok (.getfield 81, 3) := by decide +kernel
theorem dX9_layBoundaries_12 : decode cX9_layBoundaries 12 = .ok (.iload_n 1, 1) := by decide +kernel
theorem dX9_layBoundaries_13 : decode cX9_layBoundaries 13 = .ok (.iaload, 1) := by decide +kernel
theorem dX9_layBoundaries_14 : decode cX9_layBoundaries 14 = .ok (.if_icmp .ge 48, 3) := by decide +kernel
theorem dX9_layBoundaries_17 : decode cX9_layBoundaries 17 = .ok (.aload_n 0, 1) := by decide +kernel
theorem dX9_layBoundaries_18 : decode cX9_layBoundaries 18 = .ok (.iload_n 1, 1) := by decide +kernel
theorem dX9_layBoundaries_19 : decode cX9_layBoundaries 19 = .ok (.aload_n 0, 1) := by decide +kernel
theorem dX9_layBoundaries_20 : decode cX9_layBoundaries 20 = .ok (.iload_n 1, 1) := by decide +kernel
theorem dX9_layBoundaries_21 : decode cX9_layBoundaries 21 = .ok (.iload_n 2, 1) := by decide +kernel
theorem dX9_layBoundaries_22 : decode cX9_layBoundaries 22 = .ok (.invokevirtual 243, 3) := by decide +kernel
theorem dX9_layBoundaries_25 : decode cX9_layBoundaries 25 = .ok (.invokevirtual 291, 3) := by decide +kernel
theorem dX9_layBoundaries_28 : decode cX9_layBoundaries 28 = .ok (.ifCond .ne 28, 3) := by decide +kernel
theorem dX9_layBoundaries_31 : decode cX9_layBoundaries 31 = .ok (.aload_n 0, 1) := by decide +kernel
theorem dX9_layBoundaries_32 : decode cX9_layBoundaries 32 = .ok (.getfield 129, 3) := by decide +kernel
theorem dX9_layBoundaries_35 : decode cX9_layBoundaries 35 = .ok (.aload_n 0, 1) := by decide +kernel
theorem dX9_layBoundaries_36 : decode cX9_layBoundaries 36 = .ok (.getfield 294, 3) := by decide +kernel
theorem dX9_layBoundaries_39 : decode cX9_layBoundaries 39 = .ok (.aload_n 0, 1) := by decide +kernel
theorem dX9_layBoundaries_40 : decode cX9_layBoundaries 40 = .ok (.iload_n 1, 1) := by decide +kernel
theorem dX9_layBoundaries_41 : decode cX9_layBoundaries 41 = .ok (.iload_n 2, 1) := by decide +kernel
theorem dX9_layBoundaries_42 : decode cX9_layBoundaries 42 = .ok (.invokevirtual 243, 3) := by decide +kernel
theorem dX9_layBoundaries_45 : decode cX9_layBoundaries 45 = .ok (.iastore, 1) := by decide +kernel
theorem dX9_layBoundaries_46 : decode cX9_layBoundaries 46 = .ok (.aload_n 0, 1) := by decide +kernel
theorem dX9_layBoundaries_47 : decode cX9_layBoundaries 47 = .ok (.dup, 1) := by decide +kernel
theorem dX9_layBoundaries_48 : decode cX9_layBoundaries 48 = .ok (.getfield 294, 3) := by decide +kernel
theorem dX9_layBoundaries_51 : decode cX9_layBoundaries 51 = .ok (.iconst 1, 1) := by decide +kernel
theorem dX9_layBoundaries_52 : decode cX9_layBoundaries 52 = .ok (.iadd, 1) := by decide +kernel
theorem dX9_layBoundaries_53 : decode cX9_layBoundaries 53 = .ok (.putfield 294, 3) := by decide +kernel
theorem dX9_layBoundaries_56 : decode cX9_layBoundaries 56 = .ok (.iinc 2 1, 3) := by decide +kernel
theorem dX9_layBoundaries_59 : decode cX9_layBoundaries 59 = .ok (.goto (-52), 3) := by decide +kernel
theorem dX9_layBoundaries_62 : decode cX9_layBoundaries 62 = .ok (.return_, 1) := by decide +kernel
set_option maxRecDepth 20000 in
theorem ggX9_segmentCount_X9_noKind : GoodIn wsX9_segmentCount wsX9_noKind := goodIn_r _ [5, 6, 7, 4, 8] (by decide +kernel) (by decide +kernel)
set_option maxRecDepth 20000 in
theorem gX9_segmentCount_X9_noKind : GoodIn wsX9_segmentCount (va_wsS RX9 231 yX9_noKind wsX9_noKind) := goodIn_app (goodIn_of _ (by decide +kernel)) ggX9_segmentCount_X9_noKind
set_option maxRecDepth 20000 in
theorem ggX9_segmentCount_X9_layBoundaries : GoodIn wsX9_segmentCount wsX9_layBoundaries := goodIn_r _ [12, 1, 13, 14, 15, 16, 17, 4, 18, 19, 20, 21, 22, 23, 24, 25, 26, 27, 28, 29, 30, 31, 32, 33, 34, 35, 36, 37, 38, 39, 40, 41, 42, 43, 44, 45, 46, 47, 48, 49, 50, 51, 52, 53, 54, 55, 56, 57, 58, 59, 60, 61, 62, 63, 64, 65, 66, 67, 68, 69, 70, 71, 72, 73, 74, 75, 76, 77, 78, 79, 80, 81, 82, 83, 84, 85, 86, 87] (by decide +kernel) (by decide +kernel)
set_option maxRecDepth 20000 in
theorem gX9_segmentCount_X9_layBoundaries : GoodIn wsX9_segmentCount (wsV RX9 297 RX9 yX9_layBoundaries wsX9_layBoundaries) := goodIn_app (goodIn_of _ (by decide +kernel)) ggX9_segmentCount_X9_layBoundaries
theorem dX9_segmentCount_0 : decode cX9_segmentCount 0 = .ok (.iload_n 1, 1) := by decide +kernel
theorem dX9_segmentCount_1 : decode cX9_segmentCount 1 = .ok (.invokestatic 231, 3) := by decide +kernel
theorem dX9_segmentCount_4 : decode cX9_segmentCount 4 = .ok (.ifCond .eq 6, 3) := by decide +kernel
theorem dX9_segmentCount_7 : decode cX9_segmentCount 7 = .ok (.bipush (-2), 2) := by decide +kernel
theorem dX9_segmentCount_9 : decode cX9_segmentCount 9 = .ok (.ireturn, 1) := by decide +kernel
theorem dX9_segmentCount_10 : decode cX9_segmentCount 10 = .ok (.aload_n 0, 1) := by decide +kernel
theorem dX9_segmentCount_11 : decode cX9_segmentCount 11 = .ok (.iload_n 1, 1) := by decide +kernel
theorem dX9_segmentCount_12 : decode cX9_segmentCount 12 = .ok (.invokevirtual 297, 3) := by decide +kernel
theorem dX9_segmentCount_15 : decode cX9_segmentCount 15 = .ok (.aload_n 0, 1) := by decide +kernel
theorem dX9_segmentCount_16 : decode cX9_segmentCount 16 = .ok (.getfield 294, 3) := by decide +kernel
theorem dX9_segmentCount_19 : decode cX9_segmentCount 19 = .ok (.iconst 1, 1) := by decide +kernel
theorem dX9_segmentCount_20 : decode cX9_segmentCount 20 = .ok (.isub, 1) := by decide +kernel
theorem dX9_segmentCount_21 : decode cX9_segmentCount 21 = .ok (.ireturn, 1) := by decide +kernel
set_option maxRecDepth 20000 in
theorem ggX9_segment_X9_noKind : GoodIn wsX9_segment wsX9_noKind := goodIn_r _ [6, 7, 8, 5, 9] (by decide +kernel) (by decide +kernel)
set_option maxRecDepth 20000 in
theorem gX9_segment_X9_noKind : GoodIn wsX9_segment (va_wsS RX9 231 yX9_noKind wsX9_noKind) := goodIn_app (goodIn_of _ (by decide +kernel)) ggX9_segment_X9_noKind
set_option maxRecDepth 20000 in
theorem ggX9_segment_X9_layBoundaries : GoodIn wsX9_segment wsX9_layBoundaries := goodIn_r _ [13, 1, 14, 2, 15, 16, 17, 5, 18, 19, 20, 21, 22, 23, 24, 25, 26, 27, 28, 29, 30, 31, 32, 33, 34, 35, 36, 37, 38, 39, 40, 41, 42, 43, 44, 45, 46, 47, 48, 49, 50, 51, 52, 53, 54, 55, 56, 57, 58, 59, 60, 61, 62, 63, 64, 65, 66, 67, 68, 69, 70, 71, 72, 73, 74, 75, 76, 77, 78, 79, 80, 81, 82, 83, 84, 85, 86, 87] (by decide +kernel) (by decide +kernel)
set_option maxRecDepth 20000 in
theorem gX9_segment_X9_layBoundaries : GoodIn wsX9_segment (wsV RX9 297 RX9 yX9_layBoundaries wsX9_layBoundaries) := goodIn_app (goodIn_of _ (by decide +kernel)) ggX9_segment_X9_layBoundaries
theorem dX9_segment_0 : decode cX9_segment 0 = .ok (.iload_n 1, 1) := by decide +kernel
theorem dX9_segment_1 : decode cX9_segment 1 = .ok (.invokestatic 231, 3) := by decide +kernel
theorem dX9_segment_4 : decode cX9_segment 4 = .ok (.ifCond .ne 7, 3) := by decide +kernel
theorem dX9_segment_7 : decode cX9_segment 7 = .ok (.iload_n 2, 1) := by decide +kernel
theorem dX9_segment_8 : decode cX9_segment 8 = .ok (.ifCond .ge 6, 3) := by decide +kernel
theorem dX9_segment_11 : decode cX9_segment 11 = .ok (.bipush (-2), 2) := by decide +kernel
theorem dX9_segment_13 : decode cX9_segment 13 = .ok (.ireturn, 1) := by decide +kernel
theorem dX9_segment_14 : decode cX9_segment 14 = .ok (.aload_n 0, 1) := by decide +kernel
theorem dX9_segment_15 : decode cX9_segment 15 = .ok (.iload_n 1, 1) := by decide +kernel
theorem dX9_segment_16 : decode cX9_segment 16 = .ok (.invokevirtual 297, 3) := by decide +kernel
theorem dX9_segment_19 : decode cX9_segment 19 = .ok (.iload_n 2, 1) := by decide +kernel
theorem dX9_segment_20 : decode cX9_segment 20 = .ok (.aload_n 0, 1) := by decide +kernel
theorem dX9_segment_21 : decode cX9_segment 21 = .ok (.getfield 294, 3) := by decide +kernel
theorem dX9_segment_24 : decode cX9_segment 24 = .ok (.iconst 1, 1) := by decide +kernel
theorem dX9_segment_25 : decode cX9_segment 25 = .ok (.isub, 1) := by decide +kernel
theorem dX9_segment_26 : decode cX9_segment 26 = .ok (.if_icmp .ge 12, 3) := by decide +kernel
theorem dX9_segment_29 : decode cX9_segment 29 = .ok (.aload_n 0, 1) := by decide +kernel
theorem dX9_segment_30 : decode cX9_segment 30 = .ok (.getfield 129, 3) := by decide +kernel
theorem dX9_segment_33 : decode cX9_segment 33 = .ok (.iload_n 2, 1) := by decide +kernel
theorem dX9_segment_34 : decode cX9_segment 34 = .ok (.iaload, 1) := by decide +kernel
theorem dX9_segment_35 : decode cX9_segment 35 = .ok (.goto 5, 3) := by decide +kernel
theorem dX9_segment_38 : decode cX9_segment 38 = .ok (.bipush (-5), 2) := by decide +kernel
theorem dX9_segment_40 : decode cX9_segment 40 = .ok (.ireturn, 1) := by decide +kernel
set_option maxRecDepth 20000 in
theorem ggX9_longest_X9_noKind : GoodIn wsX9_longest wsX9_noKind := goodIn_r _ [6, 7, 8, 5, 9] (by decide +kernel) (by decide +kernel)
set_option maxRecDepth 20000 in
theorem gX9_longest_X9_noKind : GoodIn wsX9_longest (va_wsS RX9 231 yX9_noKind wsX9_noKind) := goodIn_app (goodIn_of _ (by decide +kernel)) ggX9_longest_X9_noKind
set_option maxRecDepth 20000 in
theorem ggX9_longest_X9_layBoundaries : GoodIn wsX9_longest wsX9_layBoundaries := goodIn_r _ [13, 1, 14, 2, 15, 16, 17, 5, 18, 19, 20, 21, 22, 23, 24, 25, 26, 27, 28, 29, 30, 31, 32, 33, 34, 35, 36, 37, 38, 39, 40, 41, 42, 43, 44, 45, 46, 47, 48, 49, 50, 51, 52, 53, 54, 55, 56, 57, 58, 59, 60, 61, 62, 63, 64, 65, 66, 67, 68, 69, 70, 71, 72, 73, 74, 75, 76, 77, 78, 79, 80, 81, 82, 83, 84, 85, 86, 87] (by decide +kernel) (by decide +kernel)
set_option maxRecDepth 20000 in
theorem gX9_longest_X9_layBoundaries : GoodIn wsX9_longest (wsV RX9 297 RX9 yX9_layBoundaries wsX9_layBoundaries) := goodIn_app (goodIn_of _ (by decide +kernel)) ggX9_longest_X9_layBoundaries
theorem dX9_longest_0 : decode cX9_longest 0 = .ok (.iload_n 1, 1) := by decide +kernel
theorem dX9_longest_1 : decode cX9_longest 1 = .ok (.invokestatic 231, 3) := by decide +kernel
theorem dX9_longest_4 : decode cX9_longest 4 = .ok (.ifCond .eq 6, 3) := by decide +kernel
theorem dX9_longest_7 : decode cX9_longest 7 = .ok (.bipush (-2), 2) := by decide +kernel
theorem dX9_longest_9 : decode cX9_longest 9 = .ok (.ireturn, 1) := by decide +kernel
theorem dX9_longest_10 : decode cX9_longest 10 = .ok (.aload_n 0, 1) := by decide +kernel
theorem dX9_longest_11 : decode cX9_longest 11 = .ok (.iload_n 1, 1) := by decide +kernel
theorem dX9_longest_12 : decode cX9_longest 12 = .ok (.invokevirtual 297, 3) := by decide +kernel
theorem dX9_longest_15 : decode cX9_longest 15 = .ok (.bipush (-5), 2) := by decide +kernel
theorem dX9_longest_17 : decode cX9_longest 17 = .ok (.istore_n 2, 1) := by decide +kernel
theorem dX9_longest_18 : decode cX9_longest 18 = .ok (.iconst 0, 1) := by decide +kernel
theorem dX9_longest_19 : decode cX9_longest 19 = .ok (.istore_n 3, 1) := by decide +kernel
theorem dX9_longest_20 : decode cX9_longest 20 = .ok (.iconst 0, 1) := by decide +kernel
theorem dX9_longest_21 : decode cX9_longest 21 = .ok (.istore 4, 2) := by decide +kernel
theorem dX9_longest_23 : decode cX9_longest 23 = .ok (.iload 4, 2) := by decide +kernel
theorem dX9_longest_25 : decode cX9_longest 25 = .ok (.aload_n 0, 1) := by decide +kernel
theorem dX9_longest_26 : decode cX9_longest 26 = .ok (.getfield 294, 3) := by decide +kernel
theorem dX9_longest_29 : decode cX9_longest 29 = .ok (.iconst 1, 1) := by decide +kernel
theorem dX9_longest_30 : decode cX9_longest 30 = .ok (.isub, 1) := by decide +kernel
theorem dX9_longest_31 : decode cX9_longest 31 = .ok (.if_icmp .ge 59, 3) := by decide +kernel
theorem dX9_longest_34 : decode cX9_longest 34 = .ok (.aload_n 0, 1) := by decide +kernel
theorem dX9_longest_35 : decode cX9_longest 35 = .ok (.getfield 129, 3) := by decide +kernel
theorem dX9_longest_38 : decode cX9_longest 38 = .ok (.iload 4, 2) := by decide +kernel
theorem dX9_longest_40 : decode cX9_longest 40 = .ok (.iconst 1, 1) := by decide +kernel
theorem dX9_longest_41 : decode cX9_longest 41 = .ok (.iadd, 1) := by decide +kernel
theorem dX9_longest_42 : decode cX9_longest 42 = .ok (.iaload, 1) := by decide +kernel
theorem dX9_longest_43 : decode cX9_longest 43 = .ok (.aload_n 0, 1) := by decide +kernel
theorem dX9_longest_44 : decode cX9_longest 44 = .ok (.getfield 129, 3) := by decide +kernel
theorem dX9_longest_47 : decode cX9_longest 47 = .ok (.iload 4, 2) := by decide +kernel
theorem dX9_longest_49 : decode cX9_longest 49 = .ok (.iaload, 1) := by decide +kernel
theorem dX9_longest_50 : decode cX9_longest 50 = .ok (.isub, 1) := by decide +kernel
theorem dX9_longest_51 : decode cX9_longest 51 = .ok (.istore 5, 2) := by decide +kernel
theorem dX9_longest_53 : decode cX9_longest 53 = .ok (.iload 5, 2) := by decide +kernel
theorem dX9_longest_55 : decode cX9_longest 55 = .ok (.iload_n 3, 1) := by decide +kernel
theorem dX9_longest_56 : decode cX9_longest 56 = .ok (.if_icmp .le 13, 3) := by decide +kernel
theorem dX9_longest_59 : decode cX9_longest 59 = .ok (.aload_n 0, 1) := by decide +kernel
theorem dX9_longest_60 : decode cX9_longest 60 = .ok (.getfield 129, 3) := by decide +kernel
theorem dX9_longest_63 : decode cX9_longest 63 = .ok (.iload 4, 2) := by decide +kernel
theorem dX9_longest_65 : decode cX9_longest 65 = .ok (.iaload, 1) := by decide +kernel
theorem dX9_longest_66 : decode cX9_longest 66 = .ok (.goto 4, 3) := by decide +kernel
theorem dX9_longest_69 : decode cX9_longest 69 = .ok (.iload_n 2, 1) := by decide +kernel
theorem dX9_longest_70 : decode cX9_longest 70 = .ok (.istore_n 2, 1) := by decide +kernel
theorem dX9_longest_71 : decode cX9_longest 71 = .ok (.iload 5, 2) := by decide +kernel
theorem dX9_longest_73 : decode cX9_longest 73 = .ok (.iload_n 3, 1) := by decide +kernel
theorem dX9_longest_74 : decode cX9_longest 74 = .ok (.if_icmp .le 8, 3) := by decide +kernel
theorem dX9_longest_77 : decode cX9_longest 77 = .ok (.iload 5, 2) := by decide +kernel
theorem dX9_longest_79 : decode cX9_longest 79 = .ok (.goto 4, 3) := by decide +kernel
theorem dX9_longest_82 : decode cX9_longest 82 = .ok (.iload_n 3, 1) := by decide +kernel
theorem dX9_longest_83 : decode cX9_longest 83 = .ok (.istore_n 3, 1) := by decide +kernel
theorem dX9_longest_84 : decode cX9_longest 84 = .ok (.iinc 4 1, 3) := by decide +kernel
theorem dX9_longest_87 : decode cX9_longest 87 = .ok (.goto (-64), 3) := by decide +kernel
theorem dX9_longest_90 : decode cX9_longest 90 = .ok (.iload_n 2, 1) := by decide +kernel
theorem dX9_longest_91 : decode cX9_longest 91 = .ok (.ireturn, 1) := by decide +kernel
set_option maxRecDepth 20000 in
theorem ggX9_segmentsWith_X9_noKind : GoodIn wsX9_segmentsWith wsX9_noKind := goodIn_r _ [8, 9, 10, 7, 11] (by decide +kernel) (by decide +kernel)
set_option maxRecDepth 20000 in
theorem gX9_segmentsWith_X9_noKind : GoodIn wsX9_segmentsWith (va_wsS RX9 231 yX9_noKind wsX9_noKind) := goodIn_app (goodIn_of _ (by decide +kernel)) ggX9_segmentsWith_X9_noKind
set_option maxRecDepth 20000 in
theorem ggX9_segmentsWith_X9_in : GoodIn wsX9_segmentsWith wsX9_in := goodIn_r _ [11] (by decide +kernel) (by decide +kernel)
set_option maxRecDepth 20000 in
theorem gX9_segmentsWith_X9_in : GoodIn wsX9_segmentsWith (va_wsS RX9 136 yX9_in wsX9_in) := goodIn_app (goodIn_of _ (by decide +kernel)) ggX9_segmentsWith_X9_in
set_option maxRecDepth 20000 in
theorem ggX9_segmentsWith_X9_layBoundaries : GoodIn wsX9_segmentsWith wsX9_layBoundaries := goodIn_r _ [15, 1, 16, 2, 17, 18, 19, 7, 20, 21, 22, 23, 24, 25, 26, 4, 3, 27, 28, 29, 30, 31, 32, 33, 34, 35, 36, 37, 38, 39, 40, 41, 42, 43, 44, 45, 46, 47, 48, 49, 50, 51, 52, 53, 54, 55, 56, 57, 58, 59, 60, 61, 62, 63, 64, 65, 66, 67, 68, 69, 70, 71, 72, 73, 74, 75, 76, 77, 78, 79, 80, 81, 82, 83, 84, 85, 86, 87] (by decide +kernel) (by decide +kernel)
set_option maxRecDepth 20000 in
theorem gX9_segmentsWith_X9_layBoundaries : GoodIn wsX9_segmentsWith (wsV RX9 297 RX9 yX9_layBoundaries wsX9_layBoundaries) := goodIn_app (goodIn_of _ (by decide +kernel)) ggX9_segmentsWith_X9_layBoundaries
theorem dX9_segmentsWith_0 : decode cX9_segmentsWith 0 = .ok (.iload_n 1, 1) := by decide +kernel
theorem dX9_segmentsWith_1 : decode cX9_segmentsWith 1 = .ok (.invokestatic 231, 3) := by decide +kernel
theorem dX9_segmentsWith_4 : decode cX9_segmentsWith 4 = .ok (.ifCond .ne 13, 3) := by decide +kernel
theorem dX9_segmentsWith_7 : decode cX9_segmentsWith 7 = .ok (.iload_n 2, 1) := by decide +kernel
theorem dX9_segmentsWith_8 : decode cX9_segmentsWith 8 = .ok (.iconst 0, 1) := by decide +kernel
theorem dX9_segmentsWith_9 : decode cX9_segmentsWith 9 = .ok (.bipush 11, 2) := by decide +kernel
theorem dX9_segmentsWith_11 : decode cX9_segmentsWith 11 = .ok (.invokestatic 136, 3) := by decide +kernel
theorem dX9_segmentsWith_14 : decode cX9_segmentsWith 14 = .ok (.ifCond .ne 6, 3) := by decide +kernel
theorem dX9_segmentsWith_17 : decode cX9_segmentsWith 17 = .ok (.bipush (-2), 2) := by decide +kernel
theorem dX9_segmentsWith_19 : decode cX9_segmentsWith 19 = .ok (.ireturn, 1) := by decide +kernel
theorem dX9_segmentsWith_20 : decode cX9_segmentsWith 20 = .ok (.aload_n 0, 1) := by decide +kernel
theorem dX9_segmentsWith_21 : decode cX9_segmentsWith 21 = .ok (.iload_n 1, 1) := by decide +kernel
theorem dX9_segmentsWith_22 : decode cX9_segmentsWith 22 = .ok (.invokevirtual 297, 3) := by decide +kernel
theorem dX9_segmentsWith_25 : decode cX9_segmentsWith 25 = .ok (.iconst 0, 1) := by decide +kernel
theorem dX9_segmentsWith_26 : decode cX9_segmentsWith 26 = .ok (.istore_n 3, 1) := by decide +kernel
theorem dX9_segmentsWith_27 : decode cX9_segmentsWith 27 = .ok (.iconst 0, 1) := by decide +kernel
theorem dX9_segmentsWith_28 : decode cX9_segmentsWith 28 = .ok (.istore 4, 2) := by decide +kernel
theorem dX9_segmentsWith_30 : decode cX9_segmentsWith 30 = .ok (.iload 4, 2) := by decide +kernel
theorem dX9_segmentsWith_32 : decode cX9_segmentsWith 32 = .ok (.aload_n 0, 1) := by decide +kernel
theorem dX9_segmentsWith_33 : decode cX9_segmentsWith 33 = .ok (.getfield 294, 3) := by decide +kernel
theorem dX9_segmentsWith_36 : decode cX9_segmentsWith 36 = .ok (.iconst 1, 1) := by decide +kernel
theorem dX9_segmentsWith_37 : decode cX9_segmentsWith 37 = .ok (.isub, 1) := by decide +kernel
theorem dX9_segmentsWith_38 : decode cX9_segmentsWith 38 = .ok (.if_icmp .ge 82, 3) := by decide +kernel
theorem dX9_segmentsWith_41 : decode cX9_segmentsWith 41 = .ok (.iconst 0, 1) := by decide +kernel
theorem dX9_segmentsWith_42 : decode cX9_segmentsWith 42 = .ok (.istore 5, 2) := by decide +kernel
theorem dX9_segmentsWith_44 : decode cX9_segmentsWith 44 = .ok (.aload_n 0, 1) := by decide +kernel
theorem dX9_segmentsWith_45 : decode cX9_segmentsWith 45 = .ok (.getfield 129, 3) := by decide +kernel
theorem dX9_segmentsWith_48 : decode cX9_segmentsWith 48 = .ok (.iload 4, 2) := by decide +kernel
theorem dX9_segmentsWith_50 : decode cX9_segmentsWith 50 = .ok (.iaload, 1) := by decide +kernel
theorem dX9_segmentsWith_51 : decode cX9_segmentsWith 51 = .ok (.istore 6, 2) := by decide +kernel
theorem dX9_segmentsWith_53 : decode cX9_segmentsWith 53 = .ok (.iload 6, 2) := by decide +kernel
theorem dX9_segmentsWith_55 : decode cX9_segmentsWith 55 = .ok (.aload_n 0, 1) := by decide +kernel
theorem dX9_segmentsWith_56 : decode cX9_segmentsWith 56 = .ok (.getfield 129, 3) := by decide +kernel
theorem dX9_segmentsWith_59 : decode cX9_segmentsWith 59 = .ok (.iload 4, 2) := by decide +kernel
theorem dX9_segmentsWith_61 : decode cX9_segmentsWith 61 = .ok (.iconst 1, 1) := by decide +kernel
theorem dX9_segmentsWith_62 : decode cX9_segmentsWith 62 = .ok (.iadd, 1) := by decide +kernel
theorem dX9_segmentsWith_63 : decode cX9_segmentsWith 63 = .ok (.iaload, 1) := by decide +kernel
theorem dX9_segmentsWith_64 : decode cX9_segmentsWith 64 = .ok (.if_icmp .ge 37, 3) := by decide +kernel
theorem dX9_segmentsWith_67 : decode cX9_segmentsWith 67 = .ok (.iload 5, 2) := by decide +kernel
theorem dX9_segmentsWith_69 : decode cX9_segmentsWith 69 = .ok (.ifCond .ne 19, 3) := by decide +kernel
theorem dX9_segmentsWith_72 : decode cX9_segmentsWith 72 = .ok (.aload_n 0, 1) := by decide +kernel
theorem dX9_segmentsWith_73 : decode cX9_segmentsWith 73 = .ok (.getfield 7, 3) := by decide +kernel
theorem dX9_segmentsWith_76 : decode cX9_segmentsWith 76 = .ok (.aload_n 0, 1) := by decide +kernel
theorem dX9_segmentsWith_77 : decode cX9_segmentsWith 77 = .ok (.getfield 78, 3) := by decide +kernel
theorem dX9_segmentsWith_80 : decode cX9_segmentsWith 80 = .ok (.iload 6, 2) := by decide +kernel
theorem dX9_segmentsWith_82 : decode cX9_segmentsWith 82 = .ok (.caload, 1) := by decide +kernel
theorem dX9_segmentsWith_83 : decode cX9_segmentsWith 83 = .ok (.iaload, 1) := by decide +kernel
theorem dX9_segmentsWith_84 : decode cX9_segmentsWith 84 = .ok (.iload_n 2, 1) := by decide +kernel
theorem dX9_segmentsWith_85 : decode cX9_segmentsWith 85 = .ok (.if_icmp .ne 7, 3) := by decide +kernel
theorem dX9_segmentsWith_88 : decode cX9_segmentsWith 88 = .ok (.iconst 1, 1) := by decide +kernel
theorem dX9_segmentsWith_89 : decode cX9_segmentsWith 89 = .ok (.goto 4, 3) := by decide +kernel
theorem dX9_segmentsWith_92 : decode cX9_segmentsWith 92 = .ok (.iconst 0, 1) := by decide +kernel
theorem dX9_segmentsWith_93 : decode cX9_segmentsWith 93 = .ok (.istore 5, 2) := by decide +kernel
theorem dX9_segmentsWith_95 : decode cX9_segmentsWith 95 = .ok (.iinc 6 1, 3) := by decide +kernel
theorem dX9_segmentsWith_98 : decode cX9_segmentsWith 98 = .ok (.goto (-45), 3) := by decide +kernel
theorem dX9_segmentsWith_101 : decode cX9_segmentsWith 101 = .ok (.iload_n 3, 1) := by decide +kernel
theorem dX9_segmentsWith_102 : decode cX9_segmentsWith 102 = .ok (.iload 5, 2) := by decide +kernel
theorem dX9_segmentsWith_104 : decode cX9_segmentsWith 104 = .ok (.ifCond .eq 7, 3) := by decide +kernel
theorem dX9_segmentsWith_107 : decode cX9_segmentsWith 107 = .ok (.iconst 1, 1) := by decide +kernel
theorem dX9_segmentsWith_108 : decode cX9_segmentsWith 108 = .ok (.goto 4, 3) := by decide +kernel
theorem dX9_segmentsWith_111 : decode cX9_segmentsWith 111 = .ok (.iconst 0, 1) := by decide +kernel
theorem dX9_segmentsWith_112 : decode cX9_segmentsWith 112 = .ok (.iadd, 1) := by decide +kernel
theorem dX9_segmentsWith_113 : decode cX9_segmentsWith 113 = .ok (.istore_n 3, 1) := by decide +kernel
theorem dX9_segmentsWith_114 : decode cX9_segmentsWith 114 = .ok (.iinc 4 1, 3) := by decide +kernel
theorem dX9_segmentsWith_117 : decode cX9_segmentsWith 117 = .ok (.goto (-87), 3) := by decide +kernel
theorem dX9_segmentsWith_120 : decode cX9_segmentsWith 120 = .ok (.iload_n 3, 1) := by decide +kernel
theorem dX9_segmentsWith_121 : decode cX9_segmentsWith 121 = .ok (.ireturn, 1) := by decide +kernel
set_option maxRecDepth 20000 in
theorem ggX9_work_X9_noKind : GoodIn wsX9_work wsX9_noKind := goodIn_r _ [5, 6, 7, 4, 8] (by decide +kernel) (by decide +kernel)
set_option maxRecDepth 20000 in
theorem gX9_work_X9_noKind : GoodIn wsX9_work (va_wsS RX9 231 yX9_noKind wsX9_noKind) := goodIn_app (goodIn_of _ (by decide +kernel)) ggX9_work_X9_noKind
theorem dX9_work_0 : decode cX9_work 0 = .ok (.iload_n 1, 1) := by decide +kernel
theorem dX9_work_1 : decode cX9_work 1 = .ok (.invokestatic 231, 3) := by decide +kernel
theorem dX9_work_4 : decode cX9_work 4 = .ok (.ifCond .eq 8, 3) := by decide +kernel
theorem dX9_work_7 : decode cX9_work 7 = .ok (.bipush (-2), 2) := by decide +kernel
theorem dX9_work_9 : decode cX9_work 9 = .ok (.goto 9, 3) := by decide +kernel
theorem dX9_work_12 : decode cX9_work 12 = .ok (.aload_n 0, 1) := by decide +kernel
theorem dX9_work_13 : decode cX9_work 13 = .ok (.getfield 87, 3) := by decide +kernel
theorem dX9_work_16 : decode cX9_work 16 = .ok (.iload_n 1, 1) := by decide +kernel
theorem dX9_work_17 : decode cX9_work 17 = .ok (.iaload, 1) := by decide +kernel
theorem dX9_work_18 : decode cX9_work 18 = .ok (.ireturn, 1) := by decide +kernel
theorem dJ9_floorMod_7cf53_0 : decode cJ9_floorMod_7cf53 0 = .ok (.iload_n 0, 1) := by decide +kernel
theorem dJ9_floorMod_7cf53_1 : decode cJ9_floorMod_7cf53 1 = .ok (.iload_n 1, 1) := by decide +kernel
theorem dJ9_floorMod_7cf53_2 : decode cJ9_floorMod_7cf53 2 = .ok (.irem, 1) := by decide +kernel
theorem dJ9_floorMod_7cf53_3 : decode cJ9_floorMod_7cf53 3 = .ok (.istore_n 2, 1) := by decide +kernel
theorem dJ9_floorMod_7cf53_4 : decode cJ9_floorMod_7cf53 4 = .ok (.iload_n 0, 1) := by decide +kernel
theorem dJ9_floorMod_7cf53_5 : decode cJ9_floorMod_7cf53 5 = .ok (.iload_n 1, 1) := by decide +kernel
theorem dJ9_floorMod_7cf53_6 : decode cJ9_floorMod_7cf53 6 = .ok (.ixor, 1) := by decide +kernel
theorem dJ9_floorMod_7cf53_7 : decode cJ9_floorMod_7cf53 7 = .ok (.ifCond .ge 11, 3) := by decide +kernel
theorem dJ9_floorMod_7cf53_10 : decode cJ9_floorMod_7cf53 10 = .ok (.iload_n 2, 1) := by decide +kernel
theorem dJ9_floorMod_7cf53_11 : decode cJ9_floorMod_7cf53 11 = .ok (.ifCond .eq 7, 3) := by decide +kernel
theorem dJ9_floorMod_7cf53_14 : decode cJ9_floorMod_7cf53 14 = .ok (.iload_n 2, 1) := by decide +kernel
theorem dJ9_floorMod_7cf53_15 : decode cJ9_floorMod_7cf53 15 = .ok (.iload_n 1, 1) := by decide +kernel
theorem dJ9_floorMod_7cf53_16 : decode cJ9_floorMod_7cf53 16 = .ok (.iadd, 1) := by decide +kernel
theorem dJ9_floorMod_7cf53_17 : decode cJ9_floorMod_7cf53 17 = .ok (.ireturn, 1) := by decide +kernel
theorem dJ9_floorMod_7cf53_18 : decode cJ9_floorMod_7cf53 18 = .ok (.iload_n 2, 1) := by decide +kernel
theorem dJ9_floorMod_7cf53_19 : decode cJ9_floorMod_7cf53 19 = .ok (.ireturn, 1) := by decide +kernel
theorem dJ9_max_7cf53_0 : decode cJ9_max_7cf53 0 = .ok (.iload_n 0, 1) := by decide +kernel
theorem dJ9_max_7cf53_1 : decode cJ9_max_7cf53 1 = .ok (.iload_n 1, 1) := by decide +kernel
theorem dJ9_max_7cf53_2 : decode cJ9_max_7cf53 2 = .ok (.if_icmp .lt 7, 3) := by decide +kernel
theorem dJ9_max_7cf53_5 : decode cJ9_max_7cf53 5 = .ok (.iload_n 0, 1) := by decide +kernel
theorem dJ9_max_7cf53_6 : decode cJ9_max_7cf53 6 = .ok (.goto 4, 3) := by decide +kernel
theorem dJ9_max_7cf53_9 : decode cJ9_max_7cf53 9 = .ok (.iload_n 1, 1) := by decide +kernel
theorem dJ9_max_7cf53_10 : decode cJ9_max_7cf53 10 = .ok (.ireturn, 1) := by decide +kernel
theorem dJ9_min_7cf53_0 : decode cJ9_min_7cf53 0 = .ok (.iload_n 0, 1) := by decide +kernel
theorem dJ9_min_7cf53_1 : decode cJ9_min_7cf53 1 = .ok (.iload_n 1, 1) := by decide +kernel
theorem dJ9_min_7cf53_2 : decode cJ9_min_7cf53 2 = .ok (.if_icmp .gt 7, 3) := by decide +kernel
theorem dJ9_min_7cf53_5 : decode cJ9_min_7cf53 5 = .ok (.iload_n 0, 1) := by decide +kernel
theorem dJ9_min_7cf53_6 : decode cJ9_min_7cf53 6 = .ok (.goto 4, 3) := by decide +kernel
theorem dJ9_min_7cf53_9 : decode cJ9_min_7cf53 9 = .ok (.iload_n 1, 1) := by decide +kernel
theorem dJ9_min_7cf53_10 : decode cJ9_min_7cf53 10 = .ok (.ireturn, 1) := by decide +kernel
theorem dJ7_rangeCheck_23922_0 : decode cJ7_rangeCheck_23922 0 = .ok (.iload_n 1, 1) := by decide +kernel
theorem dJ7_rangeCheck_23922_1 : decode cJ7_rangeCheck_23922 1 = .ok (.iload_n 2, 1) := by decide +kernel
theorem dJ7_rangeCheck_23922_2 : decode cJ7_rangeCheck_23922 2 = .ok (.if_icmp .le 44, 3) := by decide +kernel
theorem dJ7_rangeCheck_23922_5 : decode cJ7_rangeCheck_23922 5 = .ok (.new 43, 3) := by decide +kernel
theorem dJ7_rangeCheck_23922_8 : decode cJ7_rangeCheck_23922 8 = .ok (.dup, 1) := by decide +kernel
theorem dJ7_rangeCheck_23922_9 : decode cJ7_rangeCheck_23922 9 = .ok (.new 45, 3) := by decide +kernel
theorem dJ7_rangeCheck_23922_12 : decode cJ7_rangeCheck_23922 12 = .ok (.dup, 1) := by decide +kernel
theorem dJ7_rangeCheck_23922_13 : decode cJ7_rangeCheck_23922 13 = .ok (.invokespecial 47, 3) := by decide +kernel
theorem dJ7_rangeCheck_23922_16 : decode cJ7_rangeCheck_23922 16 = .ok (.ldc 48, 2) := by decide +kernel
theorem dJ7_rangeCheck_23922_18 : decode cJ7_rangeCheck_23922 18 = .ok (.invokevirtual 50, 3) := by decide +kernel
theorem dJ7_rangeCheck_23922_21 : decode cJ7_rangeCheck_23922 21 = .ok (.iload_n 1, 1) := by decide +kernel
theorem dJ7_rangeCheck_23922_22 : decode cJ7_rangeCheck_23922 22 = .ok (.invokevirtual 54, 3) := by decide +kernel
theorem dJ7_rangeCheck_23922_25 : decode cJ7_rangeCheck_23922 25 = .ok (.ldc 57, 2) := by decide +kernel
theorem dJ7_rangeCheck_23922_27 : decode cJ7_rangeCheck_23922 27 = .ok (.invokevirtual 50, 3) := by decide +kernel
theorem dJ7_rangeCheck_23922_30 : decode cJ7_rangeCheck_23922 30 = .ok (.iload_n 2, 1) := by decide +kernel
theorem dJ7_rangeCheck_23922_31 : decode cJ7_rangeCheck_23922 31 = .ok (.invokevirtual 54, 3) := by decide +kernel
theorem dJ7_rangeCheck_23922_34 : decode cJ7_rangeCheck_23922 34 = .ok (.ldc 59, 2) := by decide +kernel
theorem dJ7_rangeCheck_23922_36 : decode cJ7_rangeCheck_23922 36 = .ok (.invokevirtual 50, 3) := by decide +kernel
theorem dJ7_rangeCheck_23922_39 : decode cJ7_rangeCheck_23922 39 = .ok (.invokevirtual 61, 3) := by decide +kernel
theorem dJ7_rangeCheck_23922_42 : decode cJ7_rangeCheck_23922 42 = .ok (.invokespecial 65, 3) := by decide +kernel
theorem dJ7_rangeCheck_23922_45 : decode cJ7_rangeCheck_23922 45 = .ok (.athrow, 1) := by decide +kernel
theorem dJ7_rangeCheck_23922_46 : decode cJ7_rangeCheck_23922 46 = .ok (.iload_n 1, 1) := by decide +kernel
theorem dJ7_rangeCheck_23922_47 : decode cJ7_rangeCheck_23922 47 = .ok (.ifCond .ge 12, 3) := by decide +kernel
theorem dJ7_rangeCheck_23922_50 : decode cJ7_rangeCheck_23922 50 = .ok (.new 68, 3) := by decide +kernel
theorem dJ7_rangeCheck_23922_53 : decode cJ7_rangeCheck_23922 53 = .ok (.dup, 1) := by decide +kernel
theorem dJ7_rangeCheck_23922_54 : decode cJ7_rangeCheck_23922 54 = .ok (.iload_n 1, 1) := by decide +kernel
theorem dJ7_rangeCheck_23922_55 : decode cJ7_rangeCheck_23922 55 = .ok (.invokespecial 70, 3) := by decide +kernel
theorem dJ7_rangeCheck_23922_58 : decode cJ7_rangeCheck_23922 58 = .ok (.athrow, 1) := by decide +kernel
theorem dJ7_rangeCheck_23922_59 : decode cJ7_rangeCheck_23922 59 = .ok (.iload_n 2, 1) := by decide +kernel
theorem dJ7_rangeCheck_23922_60 : decode cJ7_rangeCheck_23922 60 = .ok (.iload_n 0, 1) := by decide +kernel
theorem dJ7_rangeCheck_23922_61 : decode cJ7_rangeCheck_23922 61 = .ok (.if_icmp .le 12, 3) := by decide +kernel
theorem dJ7_rangeCheck_23922_64 : decode cJ7_rangeCheck_23922 64 = .ok (.new 68, 3) := by decide +kernel
theorem dJ7_rangeCheck_23922_67 : decode cJ7_rangeCheck_23922 67 = .ok (.dup, 1) := by decide +kernel
theorem dJ7_rangeCheck_23922_68 : decode cJ7_rangeCheck_23922 68 = .ok (.iload_n 2, 1) := by decide +kernel
theorem dJ7_rangeCheck_23922_69 : decode cJ7_rangeCheck_23922 69 = .ok (.invokespecial 70, 3) := by decide +kernel
theorem dJ7_rangeCheck_23922_72 : decode cJ7_rangeCheck_23922 72 = .ok (.athrow, 1) := by decide +kernel
theorem dJ7_rangeCheck_23922_73 : decode cJ7_rangeCheck_23922 73 = .ok (.return_, 1) := by decide +kernel
theorem dJ7_fill_53178_0 : decode cJ7_fill_53178 0 = .ok (.iconst 0, 1) := by decide +kernel
theorem dJ7_fill_53178_1 : decode cJ7_fill_53178 1 = .ok (.istore_n 2, 1) := by decide +kernel
theorem dJ7_fill_53178_2 : decode cJ7_fill_53178 2 = .ok (.aload_n 0, 1) := by decide +kernel
theorem dJ7_fill_53178_3 : decode cJ7_fill_53178 3 = .ok (.arraylength, 1) := by decide +kernel
theorem dJ7_fill_53178_4 : decode cJ7_fill_53178 4 = .ok (.istore_n 3, 1) := by decide +kernel
theorem dJ7_fill_53178_5 : decode cJ7_fill_53178 5 = .ok (.iload_n 2, 1) := by decide +kernel
theorem dJ7_fill_53178_6 : decode cJ7_fill_53178 6 = .ok (.iload_n 3, 1) := by decide +kernel
theorem dJ7_fill_53178_7 : decode cJ7_fill_53178 7 = .ok (.if_icmp .ge 13, 3) := by decide +kernel
theorem dJ7_fill_53178_10 : decode cJ7_fill_53178 10 = .ok (.aload_n 0, 1) := by decide +kernel
theorem dJ7_fill_53178_11 : decode cJ7_fill_53178 11 = .ok (.iload_n 2, 1) := by decide +kernel
theorem dJ7_fill_53178_12 : decode cJ7_fill_53178 12 = .ok (.iload_n 1, 1) := by decide +kernel
theorem dJ7_fill_53178_13 : decode cJ7_fill_53178 13 = .ok (.iastore, 1) := by decide +kernel
theorem dJ7_fill_53178_14 : decode cJ7_fill_53178 14 = .ok (.iinc 2 1, 3) := by decide +kernel
theorem dJ7_fill_53178_17 : decode cJ7_fill_53178 17 = .ok (.goto (-12), 3) := by decide +kernel
theorem dJ7_fill_53178_20 : decode cJ7_fill_53178 20 = .ok (.return_, 1) := by decide +kernel
set_option maxRecDepth 20000 in
theorem ggJ7_fill_fda19_J7_rangeCheck_23922 : GoodIn wsJ7_fill_fda19 wsJ7_rangeCheck_23922 := goodIn_r _ [4] (by decide +kernel) (by decide +kernel)
set_option maxRecDepth 20000 in
theorem gJ7_fill_fda19_J7_rangeCheck_23922 : GoodIn wsJ7_fill_fda19 (va_wsS RJ7 13 yJ7_rangeCheck_23922 wsJ7_rangeCheck_23922) := goodIn_app (goodIn_of _ (by decide +kernel)) ggJ7_fill_fda19_J7_rangeCheck_23922
theorem dJ7_fill_fda19_0 : decode cJ7_fill_fda19 0 = .ok (.aload_n 0, 1) := by decide +kernel
theorem dJ7_fill_fda19_1 : decode cJ7_fill_fda19 1 = .ok (.arraylength, 1) := by decide +kernel
theorem dJ7_fill_fda19_2 : decode cJ7_fill_fda19 2 = .ok (.iload_n 1, 1) := by decide +kernel
theorem dJ7_fill_fda19_3 : decode cJ7_fill_fda19 3 = .ok (.iload_n 2, 1) := by decide +kernel
theorem dJ7_fill_fda19_4 : decode cJ7_fill_fda19 4 = .ok (.invokestatic 13, 3) := by decide +kernel
theorem dJ7_fill_fda19_7 : decode cJ7_fill_fda19 7 = .ok (.iload_n 1, 1) := by decide +kernel
theorem dJ7_fill_fda19_8 : decode cJ7_fill_fda19 8 = .ok (.istore 4, 2) := by decide +kernel
theorem dJ7_fill_fda19_10 : decode cJ7_fill_fda19 10 = .ok (.iload 4, 2) := by decide +kernel
theorem dJ7_fill_fda19_12 : decode cJ7_fill_fda19 12 = .ok (.iload_n 2, 1) := by decide +kernel
theorem dJ7_fill_fda19_13 : decode cJ7_fill_fda19 13 = .ok (.if_icmp .ge 14, 3) := by decide +kernel
theorem dJ7_fill_fda19_16 : decode cJ7_fill_fda19 16 = .ok (.aload_n 0, 1) := by decide +kernel
theorem dJ7_fill_fda19_17 : decode cJ7_fill_fda19 17 = .ok (.iload 4, 2) := by decide +kernel
theorem dJ7_fill_fda19_19 : decode cJ7_fill_fda19 19 = .ok (.iload_n 3, 1) := by decide +kernel
theorem dJ7_fill_fda19_20 : decode cJ7_fill_fda19 20 = .ok (.iastore, 1) := by decide +kernel
theorem dJ7_fill_fda19_21 : decode cJ7_fill_fda19 21 = .ok (.iinc 4 1, 3) := by decide +kernel
theorem dJ7_fill_fda19_24 : decode cJ7_fill_fda19 24 = .ok (.goto (-14), 3) := by decide +kernel
theorem dJ7_fill_fda19_27 : decode cJ7_fill_fda19 27 = .ok (.return_, 1) := by decide +kernel
