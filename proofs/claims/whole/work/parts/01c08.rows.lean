theorem dX9_previous_7 : decode cX9_previous 7 = .ok (.iload_n 3, 1) := by decide +kernel
theorem dX9_previous_8 : decode cX9_previous 8 = .ok (.ifCond .ge 5, 3) := by decide +kernel
theorem dX9_previous_11 : decode cX9_previous 11 = .ok (.iload_n 3, 1) := by decide +kernel
theorem dX9_previous_12 : decode cX9_previous 12 = .ok (.ireturn, 1) := by decide +kernel
theorem dX9_previous_13 : decode cX9_previous 13 = .ok (.aload_n 0, 1) := by decide +kernel
theorem dX9_previous_14 : decode cX9_previous 14 = .ok (.getfield 81, 3) := by decide +kernel
theorem dX9_previous_17 : decode cX9_previous 17 = .ok (.iload_n 1, 1) := by decide +kernel
theorem dX9_previous_18 : decode cX9_previous 18 = .ok (.iaload, 1) := by decide +kernel
theorem dX9_previous_19 : decode cX9_previous 19 = .ok (.iconst 1, 1) := by decide +kernel
theorem dX9_previous_20 : decode cX9_previous 20 = .ok (.isub, 1) := by decide +kernel
theorem dX9_previous_21 : decode cX9_previous 21 = .ok (.istore 4, 2) := by decide +kernel
theorem dX9_previous_23 : decode cX9_previous 23 = .ok (.iload 4, 2) := by decide +kernel
theorem dX9_previous_25 : decode cX9_previous 25 = .ok (.ifCond .lt 43, 3) := by decide +kernel
theorem dX9_previous_28 : decode cX9_previous 28 = .ok (.aload_n 0, 1) := by decide +kernel
theorem dX9_previous_29 : decode cX9_previous 29 = .ok (.iload_n 1, 1) := by decide +kernel
theorem dX9_previous_30 : decode cX9_previous 30 = .ok (.iload 4, 2) := by decide +kernel
theorem dX9_previous_32 : decode cX9_previous 32 = .ok (.invokevirtual 243, 3) := by decide +kernel
theorem dX9_previous_35 : decode cX9_previous 35 = .ok (.iload_n 2, 1) := by decide +kernel
theorem dX9_previous_36 : decode cX9_previous 36 = .ok (.if_icmp .ge 26, 3) := by decide +kernel
theorem dX9_previous_39 : decode cX9_previous 39 = .ok (.aload_n 0, 1) := by decide +kernel
theorem dX9_previous_40 : decode cX9_previous 40 = .ok (.iload_n 1, 1) := by decide +kernel
theorem dX9_previous_41 : decode cX9_previous 41 = .ok (.aload_n 0, 1) := by decide +kernel
theorem dX9_previous_42 : decode cX9_previous 42 = .ok (.iload_n 1, 1) := by decide +kernel
theorem dX9_previous_43 : decode cX9_previous 43 = .ok (.iload 4, 2) := by decide +kernel
theorem dX9_previous_45 : decode cX9_previous 45 = .ok (.invokevirtual 243, 3) := by decide +kernel
theorem dX9_previous_48 : decode cX9_previous 48 = .ok (.invokevirtual 291, 3) := by decide +kernel
theorem dX9_previous_51 : decode cX9_previous 51 = .ok (.ifCond .ne 11, 3) := by decide +kernel
theorem dX9_previous_54 : decode cX9_previous 54 = .ok (.aload_n 0, 1) := by decide +kernel
theorem dX9_previous_55 : decode cX9_previous 55 = .ok (.iload_n 1, 1) := by decide +kernel
theorem dX9_previous_56 : decode cX9_previous 56 = .ok (.iload 4, 2) := by decide +kernel
theorem dX9_previous_58 : decode cX9_previous 58 = .ok (.invokevirtual 243, 3) := by decide +kernel
theorem dX9_previous_61 : decode cX9_previous 61 = .ok (.ireturn, 1) := by decide +kernel
theorem dX9_previous_62 : decode cX9_previous 62 = .ok (.iinc 4 (-1), 3) := by decide +kernel
theorem dX9_previous_65 : decode cX9_previous 65 = .ok (.goto (-42), 3) := by decide +kernel
theorem dX9_previous_68 : decode cX9_previous 68 = .ok (.bipush (-5), 2) := by decide +kernel
theorem dX9_previous_70 : decode cX9_previous 70 = .ok (.ireturn, 1) := by decide +kernel
set_option maxRecDepth 20000 in
theorem ggX9_layBoundaries_X9_raw : GoodIn wsX9_layBoundaries wsX9_raw := goodIn_r _ [8, 9, 24, 25, 26, 27, 28, 29, 30, 31, 32, 33, 34, 35, 36, 37, 38, 39, 40, 41, 42, 43, 44, 45, 46, 47, 48, 49, 50, 51, 52, 53, 54, 55, 56, 57, 58, 59, 60, 61, 62, 63, 64, 65, 66, 67, 68, 69, 70, 71, 72, 73, 74, 75, 76, 77] (by decide +kernel) (by decide +kernel)
set_option maxRecDepth 20000 in
theorem gX9_layBoundaries_X9_raw : GoodIn wsX9_layBoundaries (wsV RX9 243 RX9 yX9_raw wsX9_raw) := goodIn_app (goodIn_of _ (by decide +kernel)) ggX9_layBoundaries_X9_raw
set_option maxRecDepth 20000 in
theorem ggX9_layBoundaries_X9_isSuppressed : GoodIn wsX9_layBoundaries wsX9_isSuppressed := goodIn_r _ [13, 14, 15, 16, 17, 18, 19, 7, 20, 21, 22, 23, 24, 25, 26, 27, 28, 29, 30, 31, 32, 33, 34, 35, 36, 37, 38, 39, 40, 41, 42, 43, 44, 45, 46, 47, 48, 49, 50, 51, 52, 53, 54, 55, 56, 57, 58, 59, 60, 61, 62, 63, 64, 65, 66, 67, 68, 69, 70, 71, 72, 73, 74, 75, 76, 77] (by decide +kernel) (by decide +kernel)
set_option maxRecDepth 20000 in
theorem gX9_layBoundaries_X9_isSuppressed : GoodIn wsX9_layBoundaries (wsV RX9 291 RX9 yX9_isSuppressed wsX9_isSuppressed) := goodIn_app (goodIn_of _ (by decide +kernel)) ggX9_layBoundaries_X9_isSuppressed
theorem dX9_layBoundaries_0 : decode cX9_layBoundaries 0 = .ok (.aload_n 0, 1) := by decide +kernel
theorem dX9_layBoundaries_1 : decode cX9_layBoundaries 1 = .ok (.iconst 0, 1) := by decide +kernel
theorem dX9_layBoundaries_2 : decode cX9_layBoundaries 2 = .ok (.putfield 294, 3) := by decide +kernel
theorem dX9_layBoundaries_5 : decode cX9_layBoundaries 5 = .ok (.iconst 0, 1) := by decide +kernel
theorem dX9_layBoundaries_6 : decode cX9_layBoundaries 6 = .ok (.istore_n 2, 1) := by decide +kernel
theorem dX9_layBoundaries_7 : decode cX9_layBoundaries 7 = .ok (.iload_n 2, 1) := by decide +kernel
theorem dX9_layBoundaries_8 : decode cX9_layBoundaries 8 = .ok (.aload_n 0, 1) := by decide +kernel
theorem dX9_layBoundaries_9 : decode cX9_layBoundaries 9 = .ok (.getfield 81, 3) := by decide +kernel
theorem dX9_layBoundaries_12 : decode cX9_layBoundaries 12 = .ok (.iload_n 1, 1) := by decide +kernel
theorem dX9_layBoundaries_13 : decode cX9_layBoundaries 13 = .ok (.iaload, 1) := by decide +kernel
theorem dX9_layBoundaries_14 : decode cX9_layBoundaries 14 = .ok (.if_icmp .ge 48, 3) := by decide +kernel
theorem dX9_layBoundaries_17 : decode cX9_layBoundaries 17 = .ok (.aload_n 0, 1) := by decide +kernel
theorem dX9_layBoundaries_18 : decode cX9_layBoundaries 18 = .ok (.iload_n 1, 1) := by decide +kernel
theorem dX9_layBoundaries_19 : decode cX9_layBoundaries 19 = .ok (.aload_n 0, 1) := by decide +kernel
theorem dX9_layBoundaries_20 : decode cX9_layBoundaries 20 = .ok (.iload_n 1, 1) := by decide +kernel
theorem dX9_layBoundaries_21 : decode cX9_layBoundaries 21 = .ok (.iload_n 2, 1) := by decide +kernel
theorem dX9_layBoundaries_22 : decode cX9_layBoundaries 22 = .ok (.invokevirtual 243, 3) := by decide +kernel
theorem dX9_layBoundaries_25 : decode cX9_layBoundaries 25 = .ok (.invokevirtual 291, 3) := by decide +kernel
theorem dX9_layBoundaries_28 : decode cX9_layBoundaries 28 = .ok (.ifCond .ne 28, 3) := by decide +kernel
theorem dX9_layBoundaries_31 : decode cX9_layBoundaries 31 = .ok (.aload_n 0, 1) := by decide +kernel
theorem dX9_layBoundaries_32 : decode cX9_layBoundaries 32 = .ok (.getfield 129, 3) := by decide +kernel
theorem dX9_layBoundaries_35 : decode cX9_layBoundaries 35 = .ok (.aload_n 0, 1) := by decide +kernel
theorem dX9_layBoundaries_36 : decode cX9_layBoundaries 36 = .ok (.getfield 294, 3) := by decide +kernel
theorem dX9_layBoundaries_39 : decode cX9_layBoundaries 39 = .ok (.aload_n 0, 1) := by decide +kernel
theorem dX9_layBoundaries_40 : decode cX9_layBoundaries 40 = .ok (.iload_n 1, 1) := by decide +kernel
theorem dX9_layBoundaries_41 : decode cX9_layBoundaries 41 = .ok (.iload_n 2, 1) := by decide +kernel
theorem dX9_layBoundaries_42 : decode cX9_layBoundaries 42 = .ok (.invokevirtual 243, 3) := by decide +kernel
theorem dX9_layBoundaries_45 : decode cX9_layBoundaries 45 = .ok (.iastore, 1) := by decide +kernel
theorem dX9_layBoundaries_46 : decode cX9_layBoundaries 46 = .ok (.aload_n 0, 1) := by decide +kernel
theorem dX9_layBoundaries_47 : decode cX9_layBoundaries 47 = .ok (.dup, 1) := by decide +kernel
theorem dX9_layBoundaries_48 : decode cX9_layBoundaries 48 = .ok (.getfield 294, 3) := by decide +kernel
theorem dX9_layBoundaries_51 : decode cX9_layBoundaries 51 = .ok (.iconst 1, 1) := by decide +kernel
theorem dX9_layBoundaries_52 : decode cX9_layBoundaries 52 = .ok (.iadd, 1) := by decide +kernel
theorem dX9_layBoundaries_53 : decode cX9_layBoundaries 53 = .ok (.putfield 294, 3) := by decide +kernel
theorem dX9_layBoundaries_56 : decode cX9_layBoundaries 56 = .ok (.iinc 2 1, 3) := by decide +kernel
theorem dX9_layBoundaries_59 : decode cX9_layBoundaries 59 = .ok (.goto (-52), 3) := by decide +kernel
theorem dX9_layBoundaries_62 : decode cX9_layBoundaries 62 = .ok (.return_, 1) := by decide +kernel
set_option maxRecDepth 20000 in
theorem ggX9_segmentCount_X9_noKind : GoodIn wsX9_segmentCount wsX9_noKind := goodIn_r _ [5, 6, 7, 4, 8] (by decide +kernel) (by decide +kernel)
set_option maxRecDepth 20000 in
theorem gX9_segmentCount_X9_noKind : GoodIn wsX9_segmentCount (va_wsS RX9 231 yX9_noKind wsX9_noKind) := goodIn_app (goodIn_of _ (by decide +kernel)) ggX9_segmentCount_X9_noKind
set_option maxRecDepth 20000 in
theorem ggX9_segmentCount_X9_layBoundaries : GoodIn wsX9_segmentCount wsX9_layBoundaries := goodIn_r _ [12, 1, 13, 14, 15, 16, 17, 4, 18, 19, 20, 21, 22, 23, 24, 25, 26, 27, 28, 29, 30, 31, 32, 33, 34, 35, 36, 37, 38, 39, 40, 41, 42, 43, 44, 45, 46, 47, 48, 49, 50, 51, 52, 53, 54, 55, 56, 57, 58, 59, 60, 61, 62, 63, 64, 65, 66, 67, 68, 69, 70, 71, 72, 73, 74, 75, 76, 77, 78, 79, 80, 81, 82, 83, 84, 85, 86, 87] (by decide +kernel) (by decide +kernel)
set_option maxRecDepth 20000 in
theorem gX9_segmentCount_X9_layBoundaries : GoodIn wsX9_segmentCount (wsV RX9 297 RX9 yX9_layBoundaries wsX9_layBoundaries) := goodIn_app (goodIn_of _ (by decide +kernel)) ggX9_segmentCount_X9_layBoundaries
theorem dX9_segmentCount_0 : decode cX9_segmentCount 0 = .ok (.iload_n 1, 1) := by decide +kernel
theorem dX9_segmentCount_1 : decode cX9_segmentCount 1 = .ok (.invokestatic 231, 3) := by decide +kernel
theorem dX9_segmentCount_4 : decode cX9_segmentCount 4 = .ok (.ifCond .eq 6, 3) := by decide +kernel
theorem dX9_segmentCount_7 : decode cX9_segmentCount 7 = .ok (.bipush (-2), 2) := by decide +kernel
theorem dX9_segmentCount_9 : decode cX9_segmentCount 9 = .ok (.ireturn, 1) := by decide +kernel
theorem dX9_segmentCount_10 : decode cX9_segmentCount 10 = .ok (.aload_n 0, 1) := by decide +kernel
theorem dX9_segmentCount_11 : decode cX9_segmentCount 11 = .ok (.iload_n 1, 1) := by decide +kernel
theorem dX9_segmentCount_12 : decode cX9_segmentCount 12 = .ok (.invokevirtual 297, 3) := by decide +kernel
theorem dX9_segmentCount_15 : decode cX9_segmentCount 15 = .ok (.aload_n 0, 1) := by decide +kernel
theorem dX9_segmentCount_16 : decode cX9_segmentCount 16 = .ok (.getfield 294, 3) := by decide +kernel
theorem dX9_segmentCount_19 : decode cX9_segmentCount 19 = .ok (.iconst 1, 1) := by decide +kernel
theorem dX9_segmentCount_20 : decode cX9_segmentCount 20 = .ok (.isub, 1) := by decide +kernel
theorem dX9_segmentCount_21 : decode cX9_segmentCount 21 = .ok (.ireturn, 1) := by decide +kernel
set_option maxRecDepth 20000 in
theorem ggX9_segment_X9_noKind : GoodIn wsX9_segment wsX9_noKind := goodIn_r _ [6, 7, 8, 5, 9] (by decide +kernel) (by decide +kernel)
set_option maxRecDepth 20000 in
theorem gX9_segment_X9_noKind : GoodIn wsX9_segment (va_wsS RX9 231 yX9_noKind wsX9_noKind) := goodIn_app (goodIn_of _ (by decide +kernel)) ggX9_segment_X9_noKind
set_option maxRecDepth 20000 in
theorem ggX9_segment_X9_layBoundaries : GoodIn wsX9_segment wsX9_layBoundaries := goodIn_r _ [13, 1, 14, 2, 15, 16, 17, 5, 18, 19, 20, 21, 22, 23, 24, 25, 26, 27, 28, 29, 30, 31, 32, 33, 34, 35, 36, 37, 38, 39, 40, 41, 42, 43, 44, 45, 46, 47, 48, 49, 50, 51, 52, 53, 54, 55, 56, 57, 58, 59, 60, 61, 62, 63, 64, 65, 66, 67, 68, 69, 70, 71, 72, 73, 74, 75, 76, 77, 78, 79, 80, 81, 82, 83, 84, 85, 86, 87] (by decide +kernel) (by decide +kernel)
set_option maxRecDepth 20000 in
theorem gX9_segment_X9_layBoundaries : GoodIn wsX9_segment (wsV RX9 297 RX9 yX9_layBoundaries wsX9_layBoundaries) := goodIn_app (goodIn_of _ (by decide +kernel)) ggX9_segment_X9_layBoundaries
theorem dX9_segment_0 : decode cX9_segment 0 = .ok (.iload_n 1, 1) := by decide +kernel
theorem dX9_segment_1 : decode cX9_segment 1 = .ok (.invokestatic 231, 3) := by decide +kernel
theorem dX9_segment_4 : decode cX9_segment 4 = .ok (.ifCond .ne 7, 3) := by decide +kernel
theorem dX9_segment_7 : decode cX9_segment 7 = .ok (.iload_n 2, 1) := by decide +kernel
theorem dX9_segment_8 : decode cX9_segment 8 = .ok (.ifCond .ge 6, 3) := by decide +kernel
theorem dX9_segment_11 : decode cX9_segment 11 = .ok (.bipush (-2), 2) := by decide +kernel
theorem dX9_segment_13 : decode cX9_segment 13 = .ok (.ireturn, 1) := by decide +kernel
theorem dX9_segment_14 : decode cX9_segment 14 = .ok (.aload_n 0, 1) := by decide +kernel
theorem dX9_segment_15 : decode cX9_segment 15 = .ok (.iload_n 1, 1) := by decide +kernel
theorem dX9_segment_16 : decode cX9_segment 16 = .ok (.invokevirtual 297, 3) := by decide +kernel
theorem dX9_segment_19 : decode cX9_segment 19 = .ok (.iload_n 2, 1) := by decide +kernel
theorem dX9_segment_20 : decode cX9_segment 20 = .ok (.aload_n 0, 1) := by decide +kernel
theorem dX9_segment_21 : decode cX9_segment 21 = .ok (.getfield 294, 3) := by decide +kernel
theorem dX9_segment_24 : decode cX9_segment 24 = .ok (.iconst 1, 1) := by decide +kernel
theorem dX9_segment_25 : decode cX9_segment 25 = .ok (.isub, 1) := by decide +kernel
theorem dX9_segment_26 : decode cX9_segment 26 = .ok (.if_icmp .ge 12, 3) := by decide +kernel
theorem dX9_segment_29 : decode cX9_segment 29 = .ok (.aload_n 0, 1) := by decide +kernel
theorem dX9_segment_30 : decode cX9_segment 30 = .ok (.getfield 129, 3) := by decide +kernel
theorem dX9_segment_33 : decode cX9_segment 33 = .ok (.iload_n 2, 1) := by decide +kernel
theorem dX9_segment_34 : decode cX9_segment 34 = .ok (.iaload, 1) := by decide +kernel
theorem dX9_segment_35 : decode cX9_segment 35 = .ok (.goto 5, 3) := by decide +kernel
theorem dX9_segment_38 : decode cX9_segment 38 = .ok (.bipush (-5), 2) := by decide +kernel
theorem dX9_segment_40 : decode cX9_segment 40 = .ok (.ireturn, 1) := by decide +kernel
set_option maxRecDepth 20000 in
theorem ggX9_longest_X9_noKind : GoodIn wsX9_longest wsX9_noKind := goodIn_r _ [6, 7, 8, 5, 9] (by decide +kernel) (by decide +kernel)
set_option maxRecDepth 20000 in
theorem gX9_longest_X9_noKind : GoodIn wsX9_longest (va_wsS RX9 231 yX9_noKind wsX9_noKind) := goodIn_app (goodIn_of _ (by decide +kernel)) ggX9_longest_X9_noKind
set_option maxRecDepth 20000 in
theorem ggX9_longest_X9_layBoundaries : GoodIn wsX9_longest wsX9_layBoundaries := goodIn_r _ [13, 1, 14, 2, 15, 16, 17, 5, 18, 19, 20, 21, 22, 23, 24, 25, 26, 27, 28, 29, 30, 31, 32, 33, 34, 35, 36, 37, 38, 39, 40, 41, 42, 43, 44, 45, 46, 47, 48, 49, 50, 51, 52, 53, 54, 55, 56, 57, 58, 59, 60, 61, 62, 63, 64, 65, 66, 67, 68, 69, 70, 71, 72, 73, 74, 75, 76, 77, 78, 79, 80, 81, 82, 83, 84, 85, 86, 87] (by decide +kernel) (by decide +kernel)
set_option maxRecDepth 20000 in
theorem gX9_longest_X9_layBoundaries : GoodIn wsX9_longest (wsV RX9 297 RX9 yX9_layBoundaries wsX9_layBoundaries) := goodIn_app (goodIn_of _ (by decide +kernel)) ggX9_longest_X9_layBoundaries
theorem dX9_longest_0 : decode cX9_longest 0 = .ok (.iload_n 1, 1) := by decide +kernel
theorem dX9_longest_1 : decode cX9_longest 1 = .ok (.invokestatic 231, 3) := by decide +kernel
theorem dX9_longest_4 : decode cX9_longest 4 = .ok (.ifCond .eq 6, 3) := by decide +kernel
theorem dX9_longest_7 : decode cX9_longest 7 = .ok (.bipush (-2), 2) := by decide +kernel
theorem dX9_longest_9 : decode cX9_longest 9 = .ok (.ireturn, 1) := by decide +kernel
theorem dX9_longest_10 : decode cX9_longest 10 = .ok (.aload_n 0, 1) := by decide +kernel
theorem dX9_longest_11 : decode cX9_longest 11 = .ok (.iload_n 1, 1) := by decide +kernel
theorem dX9_longest_12 : decode cX9_longest 12 = .ok (.invokevirtual 297, 3) := by decide +kernel
theorem dX9_longest_15 : decode cX9_longest 15 = .ok (.bipush (-5), 2) := by decide +kernel
theorem dX9_longest_17 : decode cX9_longest 17 = .ok (.istore_n 2, 1) := by decide +kernel
theorem dX9_longest_18 : decode cX9_longest 18 = .ok (.iconst 0, 1) := by decide +kernel
theorem dX9_longest_19 : decode cX9_longest 19 = .ok (.istore_n 3, 1) := by decide +kernel
theorem dX9_longest_20 : decode cX9_longest 20 = .ok (.iconst 0, 1) := by decide +kernel
theorem dX9_longest_21 : decode cX9_longest 21 = .ok (.istore 4, 2) := by decide +kernel
theorem dX9_longest_23 : decode cX9_longest 23 = .ok (.iload 4, 2) := by decide +kernel
theorem dX9_longest_25 : decode cX9_longest 25 = .ok (.aload_n 0, 1) := by decide +kernel
theorem dX9_longest_26 : decode cX9_longest 26 = .ok (.getfield 294, 3) := by decide +kernel
theorem dX9_longest_29 : decode cX9_longest 29 = .ok (.iconst 1, 1) := by decide +kernel
theorem dX9_longest_30 : decode cX9_longest 30 = .ok (.isub, 1) := by decide +kernel
theorem dX9_longest_31 : decode cX9_longest 31 = .ok (.if_icmp .ge 59, 3) := by decide +kernel
theorem dX9_longest_34 : decode cX9_longest 34 = .ok (.aload_n 0, 1) := by decide +kernel
theorem dX9_longest_35 : decode cX9_longest 35 = .ok (.getfield 129, 3) := by decide +kernel
theorem dX9_longest_38 : decode cX9_longest 38 = .ok (.iload 4, 2) := by decide +kernel
theorem dX9_longest_40 : decode cX9_longest 40 = .ok (.iconst 1, 1) := by decide +kernel
theorem dX9_longest_41 : decode cX9_longest 41 = .ok (.iadd, 1) := by decide +kernel
theorem dX9_longest_42 : decode cX9_longest 42 = .ok (.iaload, 1) := by decide +kernel
theorem dX9_longest_43 : decode cX9_longest 43 = .ok (.aload_n 0, 1) := by decide +kernel
theorem dX9_longest_44 : decode cX9_longest 44 = .ok (.getfield 129, 3) := by decide +kernel
theorem dX9_longest_47 : decode cX9_longest 47 = .ok (.iload 4, 2) := by decide +kernel
theorem dX9_longest_49 : decode cX9_longest 49 = .ok (.iaload, 1) := by decide +kernel
theorem dX9_longest_50 : decode cX9_longest 50 = .ok (.isub, 1) := by decide +kernel
theorem dX9_longest_51 : decode cX9_longest 51 = .ok (.istore 5, 2) := by decide +kernel
theorem dX9_longest_53 : decode cX9_longest 53 = .ok (.iload 5, 2) := by decide +kernel
theorem dX9_longest_55 : decode cX9_longest 55 = .ok (.iload_n 3, 1) := by decide +kernel
theorem dX9_longest_56 : decode cX9_longest 56 = .ok (.if_icmp .le 13, 3) := by decide +kernel
theorem dX9_longest_59 : decode cX9_longest 59 = .ok (.aload_n 0, 1) := by decide +kernel
theorem dX9_longest_60 : decode cX9_longest 60 = .ok (.getfield 129, 3) := by decide +kernel
theorem dX9_longest_63 : decode cX9_longest 63 = .ok (.iload 4, 2) := by decide +kernel
theorem dX9_longest_65 : decode cX9_longest 65 = .ok (.iaload, 1) := by decide +kernel
theorem dX9_longest_66 : decode cX9_longest 66 = .ok (.goto 4, 3) := by decide +kernel
theorem dX9_longest_69 : decode cX9_longest 69 = .ok (.iload_n 2, 1) := by decide +kernel
theorem dX9_longest_70 : decode cX9_longest 70 = .ok (.istore_n 2, 1) := by decide +kernel
theorem dX9_longest_71 : decode cX9_longest 71 = .ok (.iload 5, 2) := by decide +kernel
theorem dX9_longest_73 : decode cX9_longest 73 = .ok (.iload_n 3, 1) := by decide +kernel
theorem dX9_longest_74 : decode cX9_longest 74 = .ok (.if_icmp .le 8, 3) := by decide +kernel
theorem dX9_longest_77 : decode cX9_longest 77 = .ok (.iload 5, 2) := by decide +kernel
theorem dX9_longest_79 : decode cX9_longest 79 = .ok (.goto 4, 3) := by decide +kernel
theorem dX9_longest_82 : decode cX9_longest 82 = .ok (.iload_n 3, 1) := by decide +kernel
theorem dX9_longest_83 : decode cX9_longest 83 = .ok (.istore_n 3, 1) := by decide +kernel
theorem dX9_longest_84 : decode cX9_longest 84 = .ok (.iinc 4 1, 3) := by decide +kernel
theorem dX9_longest_87 : decode cX9_longest 87 = .ok (.goto (-64), 3) := by decide +kernel
theorem dX9_longest_90 : decode cX9_longest 90 = .ok (.iload_n 2, 1) := by decide +kernel
theorem dX9_longest_91 : decode cX9_longest 91 = .ok (.ireturn, 1) := by decide +kernel
set_option maxRecDepth 20000 in
theorem ggX9_segmentsWith_X9_noKind : GoodIn wsX9_segmentsWith wsX9_noKind := goodIn_r _ [8, 9, 10, 7, 11] (by decide +kernel) (by decide +kernel)
set_option maxRecDepth 20000 in
theorem gX9_segmentsWith_X9_noKind : GoodIn wsX9_segmentsWith (va_wsS RX9 231 yX9_noKind wsX9_noKind) := goodIn_app (goodIn_of _ (by decide +kernel)) ggX9_segmentsWith_X9_noKind
set_option maxRecDepth 20000 in
theorem ggX9_segmentsWith_X9_in : GoodIn wsX9_segmentsWith wsX9_in := goodIn_r _ [11] (by decide +kernel) (by decide +kernel)
set_option maxRecDepth 20000 in
theorem gX9_segmentsWith_X9_in : GoodIn wsX9_segmentsWith (va_wsS RX9 136 yX9_in wsX9_in) := goodIn_app (goodIn_of _ (by decide +kernel)) ggX9_segmentsWith_X9_in
set_option maxRecDepth 20000 in
theorem ggX9_segmentsWith_X9_layBoundaries : GoodIn wsX9_segmentsWith wsX9_layBoundaries := goodIn_r _ [15, 1, 16, 2, 17, 18, 19, 7, 20, 21, 22, 23, 24, 25, 26, 4, 3, 27, 28, 29, 30, 31, 32, 33, 34, 35, 36, 37, 38, 39, 40, 41, 42, 43, 44, 45, 46, 47, 48, 49, 50, 51, 52, 53, 54, 55, 56, 57, 58, 59, 60, 61, 62, 63, 64, 65, 66, 67, 68, 69, 70, 71, 72, 73, 74, 75, 76, 77, 78, 79, 80, 81, 82, 83, 84, 85, 86, 87] (by decide +kernel) (by decide +kernel)
set_option maxRecDepth 20000 in
theorem gX9_segmentsWith_X9_layBoundaries : GoodIn wsX9_segmentsWith (wsV RX9 297 RX9 yX9_layBoundaries wsX9_layBoundaries) := goodIn_app (goodIn_of _ (by decide +kernel)) ggX9_segmentsWith_X9_layBoundaries
theorem dX9_segmentsWith_0 : decode cX9_segmentsWith 0 = .ok (.iload_n 1, 1) := by decide +kernel
theorem dX9_segmentsWith_1 : decode cX9_segmentsWith 1 = .ok (.invokestatic 231, 3) := by decide +kernel
theorem dX9_segmentsWith_4 : decode cX9_segmentsWith 4 = .ok (.ifCond .ne 13, 3) := by decide +kernel
theorem dX9_segmentsWith_7 : decode cX9_segmentsWith 7 = .ok (.iload_n 2, 1) := by decide +kernel
theorem dX9_segmentsWith_8 : decode cX9_segmentsWith 8 = .ok (.iconst 0, 1) := by decide +kernel
theorem dX9_segmentsWith_9 : decode cX9_segmentsWith 9 = .ok (.bipush 11, 2) := by decide +kernel
theorem dX9_segmentsWith_11 : decode cX9_segmentsWith 11 = .ok (.invokestatic 136, 3) := by decide +kernel
theorem dX9_segmentsWith_14 : decode cX9_segmentsWith 14 = .ok (.ifCond .ne 6, 3) := by decide +kernel
theorem dX9_segmentsWith_17 : decode cX9_segmentsWith 17 = .ok (.bipush (-2), 2) := by decide +kernel
theorem dX9_segmentsWith_19 : decode cX9_segmentsWith 19 = .ok (.ireturn, 1) := by decide +kernel
theorem dX9_segmentsWith_20 : decode cX9_segmentsWith 20 = .ok (.aload_n 0, 1) := by decide +kernel
theorem dX9_segmentsWith_21 : decode cX9_segmentsWith 21 = .ok (.iload_n 1, 1) := by decide +kernel
theorem dX9_segmentsWith_22 : decode cX9_segmentsWith 22 = .ok (.invokevirtual 297, 3) := by decide +kernel
theorem dX9_segmentsWith_25 : decode cX9_segmentsWith 25 = .ok (.iconst 0, 1) := by decide +kernel
theorem dX9_segmentsWith_26 : decode cX9_segmentsWith 26 = .ok (.istore_n 3, 1) := by decide +kernel
theorem dX9_segmentsWith_27 : decode cX9_segmentsWith 27 = .ok (.iconst 0, 1) := by decide +kernel
theorem dX9_segmentsWith_28 : decode cX9_segmentsWith 28 = .ok (.istore 4, 2) := by decide +kernel
theorem dX9_segmentsWith_30 : decode cX9_segmentsWith 30 = .ok (.iload 4, 2) := by decide +kernel
theorem dX9_segmentsWith_32 : decode cX9_segmentsWith 32 = .ok (.aload_n 0, 1) := by decide +kernel
theorem dX9_segmentsWith_33 : decode cX9_segmentsWith 33 = .ok (.getfield 294, 3) := by decide +kernel
theorem dX9_segmentsWith_36 : decode cX9_segmentsWith 36 = .ok (.iconst 1, 1) := by decide +kernel
theorem dX9_segmentsWith_37 : decode cX9_segmentsWith 37 = .ok (.isub, 1) := by decide +kernel
theorem dX9_segmentsWith_38 : decode cX9_segmentsWith 38 = .ok (.if_icmp .ge 82, 3) := by decide +kernel
theorem dX9_segmentsWith_41 : decode cX9_segmentsWith 41 = .ok (.iconst 0, 1) := by decide +kernel
theorem dX9_segmentsWith_42 : decode cX9_segmentsWith 42 = .ok (.istore 5, 2) := by decide +kernel
theorem dX9_segmentsWith_44 : decode cX9_segmentsWith 44 = .ok (.aload_n 0, 1) := by decide +kernel
theorem dX9_segmentsWith_45 : decode cX9_segmentsWith 45 = .ok (.getfield 129, 3) := by decide +kernel
theorem dX9_segmentsWith_48 : decode cX9_segmentsWith 48 = .ok (.iload 4, 2) := by decide +kernel
theorem dX9_segmentsWith_50 : decode cX9_segmentsWith 50 = .ok (.iaload, 1) := by decide +kernel
theorem dX9_segmentsWith_51 : decode cX9_segmentsWith 51 = .ok (.istore 6, 2) := by decide +kernel
theorem dX9_segmentsWith_53 : decode cX9_segmentsWith 53 = .ok (.iload 6, 2) := by decide +kernel
theorem dX9_segmentsWith_55 : decode cX9_segmentsWith 55 = .ok (.aload_n 0, 1) := by decide +kernel
theorem dX9_segmentsWith_56 : decode cX9_segmentsWith 56 = .ok (.getfield 129, 3) := by decide +kernel
theorem dX9_segmentsWith_59 : decode cX9_segmentsWith 59 = .ok (.iload 4, 2) := by decide +kernel
theorem dX9_segmentsWith_61 : decode cX9_segmentsWith 61 = .ok (.iconst 1, 1) := by decide +kernel
theorem dX9_segmentsWith_62 : decode cX9_segmentsWith 62 = .ok (.iadd, 1) := by decide +kernel
theorem dX9_segmentsWith_63 : decode cX9_segmentsWith 63 = .ok (.iaload, 1) := by decide +kernel
theorem dX9_segmentsWith_64 : decode cX9_segmentsWith 64 = .ok (.if_icmp .ge 37, 3) := by decide +kernel
theorem dX9_segmentsWith_67 : decode cX9_segmentsWith 67 = .ok (.iload 5, 2) := by decide +kernel
theorem dX9_segmentsWith_69 : decode cX9_segmentsWith 69 = .ok (.ifCond .ne 19, 3) := by decide +kernel
theorem dX9_segmentsWith_72 : decode cX9_segmentsWith 72 = .ok (.aload_n 0, 1) := by decide +kernel
theorem dX9_segmentsWith_73 : decode cX9_segmentsWith 73 = .ok (.getfield 7, 3) := by decide +kernel
theorem dX9_segmentsWith_76 : decode cX9_segmentsWith 76 = .ok (.aload_n 0, 1) := by decide +kernel
theorem dX9_segmentsWith_77 : decode cX9_segmentsWith 77 = .ok (.getfield 78, 3) := by decide +kernel
theorem dX9_segmentsWith_80 : decode cX9_segmentsWith 80 = .ok (.iload 6, 2) := by decide +kernel
theorem dX9_segmentsWith_82 : decode cX9_segmentsWith 82 = .ok (.caload, 1) := by decide +kernel
theorem dX9_segmentsWith_83 : decode cX9_segmentsWith 83 = .ok (.iaload, 1) := by decide +kernel
theorem dX9_segmentsWith_84 : decode cX9_segmentsWith 84 = .ok (.iload_n 2, 1) := by decide +kernel
theorem dX9_segmentsWith_85 : decode cX9_segmentsWith 85 = .ok (.if_icmp .ne 7, 3) := by decide +kernel
theorem dX9_segmentsWith_88 : decode cX9_segmentsWith 88 = .ok (.iconst 1, 1) := by decide +kernel
theorem dX9_segmentsWith_89 : decode cX9_segmentsWith 89 = .ok (.goto 4, 3) := by decide +kernel
theorem dX9_segmentsWith_92 : decode cX9_segmentsWith 92 = .ok (.iconst 0, 1) := by decide +kernel
theorem dX9_segmentsWith_93 : decode cX9_segmentsWith 93 = .ok (.istore 5, 2) := by decide +kernel
theorem dX9_segmentsWith_95 : decode cX9_segmentsWith 95 = .ok (.iinc 6 1, 3) := by decide +kernel
theorem dX9_segmentsWith_98 : decode cX9_segmentsWith 98 = .ok (.goto (-45), 3) := by decide +kernel
theorem dX9_segmentsWith_101 : decode cX9_segmentsWith 101 = .ok (.iload_n 3, 1) := by decide +kernel
theorem dX9_segmentsWith_102 : decode cX9_segmentsWith 102 = .ok (.iload 5, 2) := by decide +kernel
theorem dX9_segmentsWith_104 : decode cX9_segmentsWith 104 = .ok (.ifCond .eq 7, 3) := by decide +kernel
theorem dX9_segmentsWith_107 : decode cX9_segmentsWith 107 = .ok (.iconst 1, 1) := by decide +kernel
theorem dX9_segmentsWith_108 : decode cX9_segmentsWith 108 = .ok (.goto 4, 3) := by decide +kernel
theorem dX9_segmentsWith_111 : decode cX9_segmentsWith 111 = .ok (.iconst 0, 1) := by decide +kernel
theorem dX9_segmentsWith_112 : decode cX9_segmentsWith 112 = .ok (.iadd, 1) := by decide +kernel
theorem dX9_segmentsWith_113 : decode cX9_segmentsWith 113 = .ok (.istore_n 3, 1) := by decide +kernel
theorem dX9_segmentsWith_114 : decode cX9_segmentsWith 114 = .ok (.iinc 4 1, 3) := by decide +kernel
theorem dX9_segmentsWith_117 : decode cX9_segmentsWith 117 = .ok (.goto (-87), 3) := by decide +kernel
theorem dX9_segmentsWith_120 : decode cX9_segmentsWith 120 = .ok (.iload_n 3, 1) := by decide +kernel
theorem dX9_segmentsWith_121 : decode cX9_segmentsWith 121 = .ok (.ireturn, 1) := by decide +kernel
set_option maxRecDepth 20000 in
theorem ggX9_work_X9_noKind : GoodIn wsX9_work wsX9_noKind := goodIn_r _ [5, 6, 7, 4, 8] (by decide +kernel) (by decide +kernel)
set_option maxRecDepth 20000 in
theorem gX9_work_X9_noKind : GoodIn wsX9_work (va_wsS RX9 231 yX9_noKind wsX9_noKind) := goodIn_app (goodIn_of _ (by decide +kernel)) ggX9_work_X9_noKind
theorem dX9_work_0 : decode cX9_work 0 = .ok (.iload_n 1, 1) := by decide +kernel
theorem dX9_work_1 : decode cX9_work 1 = .ok (.invokestatic 231, 3) := by decide +kernel
theorem dX9_work_4 : decode cX9_work 4 = .ok (.ifCond .eq 8, 3) := by decide +kernel
theorem dX9_work_7 : decode cX9_work 7 = .ok (.bipush (-2), 2) := by decide +kernel
theorem dX9_work_9 : decode cX9_work 9 = .ok (.goto 9, 3) := by decide +kernel
theorem dX9_work_12 : decode cX9_work 12 = .ok (.aload_n 0, 1) := by decide +kernel
theorem dX9_work_13 : decode cX9_work 13 = .ok (.getfield 87, 3) := by decide +kernel
theorem dX9_work_16 : decode cX9_work 16 = .ok (.iload_n 1, 1) := by decide +kernel
theorem dX9_work_17 : decode cX9_work 17 = .ok (.iaload, 1) := by decide +kernel
theorem dX9_work_18 : decode cX9_work 18 = .ok (.ireturn, 1) := by decide +kernel
theorem dJ9_floorMod_7cf53_0 : decode cJ9_floorMod_7cf53 0 = .ok (.iload_n 0, 1) := by decide +kernel
theorem dJ9_floorMod_7cf53_1 : decode cJ9_floorMod_7cf53 1 = .ok (.iload_n 1, 1) := by decide +kernel
theorem dJ9_floorMod_7cf53_2 : decode cJ9_floorMod_7cf53 2 = .ok (.irem, 1) := by decide +kernel
theorem dJ9_floorMod_7cf53_3 : decode cJ9_floorMod_7cf53 3 = .ok (.istore_n 2, 1) := by decide +kernel
theorem dJ9_floorMod_7cf53_4 : decode cJ9_floorMod_7cf53 4 = .ok (.iload_n 0, 1) := by decide +kernel
theorem dJ9_floorMod_7cf53_5 : decode cJ9_floorMod_7cf53 5 = .ok (.iload_n 1, 1) := by decide +kernel
theorem dJ9_floorMod_7cf53_6 : decode cJ9_floorMod_7cf53 6 = .ok (.ixor, 1) := by decide +kernel
theorem dJ9_floorMod_7cf53_7 : decode cJ9_floorMod_7cf53 7 = .ok (.ifCond .ge 11, 3) := by decide +kernel
theorem dJ9_floorMod_7cf53_10 : decode cJ9_floorMod_7cf53 10 = .ok (.iload_n 2, 1) := by decide +kernel
theorem dJ9_floorMod_7cf53_11 : decode cJ9_floorMod_7cf53 11 = .ok (.ifCond .eq 7, 3) := by decide +kernel
theorem dJ9_floorMod_7cf53_14 : decode cJ9_floorMod_7cf53 14 = .ok (.iload_n 2, 1) := by decide +kernel
theorem dJ9_floorMod_7cf53_15 : decode cJ9_floorMod_7cf53 15 = .ok (.iload_n 1, 1) := by decide +kernel
theorem dJ9_floorMod_7cf53_16 : decode cJ9_floorMod_7cf53 16 = .ok (.iadd, 1) := by decide +kernel
theorem dJ9_floorMod_7cf53_17 : decode cJ9_floorMod_7cf53 17 = .ok (.ireturn, 1) := by decide +kernel
theorem dJ9_floorMod_7cf53_18 : decode cJ9_floorMod_7cf53 18 = .ok (.iload_n 2, 1) := by decide +kernel
theorem dJ9_floorMod_7cf53_19 : decode cJ9_floorMod_7cf53 19 = .ok (.ireturn, 1) := by decide +kernel
theorem dJ9_max_7cf53_0 : decode cJ9_max_7cf53 0 = .ok (.iload_n 0, 1) := by decide +kernel
theorem dJ9_max_7cf53_1 : decode cJ9_max_7cf53 1 = .ok (.iload_n 1, 1) := by decide +kernel
theorem dJ9_max_7cf53_2 : decode cJ9_max_7cf53 2 = .ok (.if_icmp .lt 7, 3) := by decide +kernel
theorem dJ9_max_7cf53_5 : decode cJ9_max_7cf53 5 = .ok (.iload_n 0, 1) := by decide +kernel
theorem dJ9_max_7cf53_6 : decode cJ9_max_7cf53 6 = .ok (.goto 4, 3) := by decide +kernel
theorem dJ9_max_7cf53_9 : decode cJ9_max_7cf53 9 = .ok (.iload_n 1, 1) := by decide +kernel
theorem dJ9_max_7cf53_10 : decode cJ9_max_7cf53 10 = .ok (.ireturn, 1) := by decide +kernel
theorem dJ9_min_7cf53_0 : decode cJ9_min_7cf53 0 = .ok (.iload_n 0, 1) := by decide +kernel
theorem dJ9_min_7cf53_1 : decode cJ9_min_7cf53 1 = .ok (.iload_n 1, 1) := by decide +kernel
theorem dJ9_min_7cf53_2 : decode cJ9_min_7cf53 2 = .ok (.if_icmp .gt 7, 3) := by decide +kernel
theorem dJ9_min_7cf53_5 : decode cJ9_min_7cf53 5 = .ok (.iload_n 0, 1) := by decide +kernel
theorem dJ9_min_7cf53_6 : decode cJ9_min_7cf53 6 = .ok (.goto 4, 3) := by decide +kernel
theorem dJ9_min_7cf53_9 : decode cJ9_min_7cf53 9 = .ok (.iload_n 1, 1) := by decide +kernel
theorem dJ9_min_7cf53_10 : decode cJ9_min_7cf53 10 = .ok (.ireturn, 1) := by decide +kernel
theorem dJ7_rangeCheck_23922_0 : decode cJ7_rangeCheck_23922 0 = .ok (.iload_n 1, 1) := by decide +kernel
theorem dJ7_rangeCheck_23922_1 : decode cJ7_rangeCheck_23922 1 = .ok (.iload_n 2, 1) := by decide +kernel
theorem dJ7_rangeCheck_23922_2 : decode cJ7_rangeCheck_23922 2 = .ok (.if_icmp .le 44, 3) := by decide +kernel
theorem dJ7_rangeCheck_23922_5 : decode cJ7_rangeCheck_23922 5 = .ok (.new 43, 3) := by decide +kernel
theorem dJ7_rangeCheck_23922_8 : decode cJ7_rangeCheck_23922 8 = .ok (.dup, 1) := by decide +kernel
theorem dJ7_rangeCheck_23922_9 : decode cJ7_rangeCheck_23922 9 = .ok (.new 45, 3) := by decide +kernel
theorem dJ7_rangeCheck_23922_12 : decode cJ7_rangeCheck_23922 12 = .ok (.dup, 1) := by decide +kernel
theorem dJ7_rangeCheck_23922_13 : decode cJ7_rangeCheck_23922 13 = .ok (.invokespecial 47, 3) := by decide +kernel
theorem dJ7_rangeCheck_23922_16 : decode cJ7_rangeCheck_23922 16 = .ok (.ldc 48, 2) := by decide +kernel
theorem dJ7_rangeCheck_23922_18 : decode cJ7_rangeCheck_23922 18 = .ok (.invokevirtual 50, 3) := by decide +kernel
theorem dJ7_rangeCheck_23922_21 : decode cJ7_rangeCheck_23922 21 = .ok (.iload_n 1, 1) := by decide +kernel
theorem dJ7_rangeCheck_23922_22 : decode cJ7_rangeCheck_23922 22 = .ok (.invokevirtual 54, 3) := by decide +kernel
theorem dJ7_rangeCheck_23922_25 : decode cJ7_rangeCheck_23922 25 = .ok (.ldc 57, 2) := by decide +kernel
theorem dJ7_rangeCheck_23922_27 : decode cJ7_rangeCheck_23922 27 = .ok (.invokevirtual 50, 3) := by decide +kernel
theorem dJ7_rangeCheck_23922_30 : decode cJ7_rangeCheck_23922 30 = .ok (.iload_n 2, 1) := by decide +kernel
theorem dJ7_rangeCheck_23922_31 : decode cJ7_rangeCheck_23922 31 = .ok (.invokevirtual 54, 3) := by decide +kernel
theorem dJ7_rangeCheck_23922_34 : decode cJ7_rangeCheck_23922 34 = .ok (.ldc 59, 2) := by decide +kernel
theorem dJ7_rangeCheck_23922_36 : decode cJ7_rangeCheck_23922 36 = .ok (.invokevirtual 50, 3) := by decide +kernel
theorem dJ7_rangeCheck_23922_39 : decode cJ7_rangeCheck_23922 39 = .ok (.invokevirtual 61, 3) := by decide +kernel
theorem dJ7_rangeCheck_23922_42 : decode cJ7_rangeCheck_23922 42 = .ok (.invokespecial 65, 3) := by decide +kernel
theorem dJ7_rangeCheck_23922_45 : decode cJ7_rangeCheck_23922 45 = .ok (.athrow, 1) := by decide +kernel
theorem dJ7_rangeCheck_23922_46 : decode cJ7_rangeCheck_23922 46 = .ok (.iload_n 1, 1) := by decide +kernel
theorem dJ7_rangeCheck_23922_47 : decode cJ7_rangeCheck_23922 47 = .ok (.ifCond .ge 12, 3) := by decide +kernel
theorem dJ7_rangeCheck_23922_50 : decode cJ7_rangeCheck_23922 50 = .ok (.new 68, 3) := by decide +kernel
theorem dJ7_rangeCheck_23922_53 : decode cJ7_rangeCheck_23922 53 = .ok (.dup, 1) := by decide +kernel
theorem dJ7_rangeCheck_23922_54 : decode cJ7_rangeCheck_23922 54 = .ok (.iload_n 1, 1) := by decide +kernel
theorem dJ7_rangeCheck_23922_55 : decode cJ7_rangeCheck_23922 55 = .ok (.invokespecial 70, 3) := by decide +kernel
theorem dJ7_rangeCheck_23922_58 : decode cJ7_rangeCheck_23922 58 = .ok (.athrow, 1) := by decide +kernel
theorem dJ7_rangeCheck_23922_59 : decode cJ7_rangeCheck_23922 59 = .ok (.iload_n 2, 1) := by decide +kernel
theorem dJ7_rangeCheck_23922_60 : decode cJ7_rangeCheck_23922 60 = .ok (.iload_n 0, 1) := by decide +kernel
theorem dJ7_rangeCheck_23922_61 : decode cJ7_rangeCheck_23922 61 = .ok (.if_icmp .le 12, 3) := by decide +kernel
theorem dJ7_rangeCheck_23922_64 : decode cJ7_rangeCheck_23922 64 = .ok (.new 68, 3) := by decide +kernel
theorem dJ7_rangeCheck_23922_67 : decode cJ7_rangeCheck_23922 67 = .ok (.dup, 1) := by decide +kernel
theorem dJ7_rangeCheck_23922_68 : decode cJ7_rangeCheck_23922 68 = .ok (.iload_n 2, 1) := by decide +kernel
theorem dJ7_rangeCheck_23922_69 : decode cJ7_rangeCheck_23922 69 = .ok (.invokespecial 70, 3) := by decide +kernel
theorem dJ7_rangeCheck_23922_72 : decode cJ7_rangeCheck_23922 72 = .ok (.athrow, 1) := by decide +kernel
theorem dJ7_rangeCheck_23922_73 : decode cJ7_rangeCheck_23922 73 = .ok (.return_, 1) := by decide +kernel
theorem dJ7_fill_53178_0 : decode cJ7_fill_53178 0 = .ok (.iconst 0, 1) := by decide +kernel
theorem dJ7_fill_53178_1 : decode cJ7_fill_53178 1 = .ok (.istore_n 2, 1) := by decide +kernel
theorem dJ7_fill_53178_2 : decode cJ7_fill_53178 2 = .ok (.aload_n 0, 1) := by decide +kernel
theorem dJ7_fill_53178_3 : decode cJ7_fill_53178 3 = .ok (.arraylength, 1) := by decide +kernel
theorem dJ7_fill_53178_4 : decode cJ7_fill_53178 4 = .ok (.istore_n 3, 1) := by decide +kernel
theorem dJ7_fill_53178_5 : decode cJ7_fill_53178 5 = .ok (.iload_n 2, 1) := by decide +kernel
theorem dJ7_fill_53178_6 : decode cJ7_fill_53178 6 = .ok (.iload_n 3, 1) := by decide +kernel
theorem dJ7_fill_53178_7 : decode cJ7_fill_53178 7 = .ok (.if_icmp .ge 13, 3) := by decide +kernel
theorem dJ7_fill_53178_10 : decode cJ7_fill_53178 10 = .ok (.aload_n 0, 1) := by decide +kernel
theorem dJ7_fill_53178_11 : decode cJ7_fill_53178 11 = .ok (.iload_n 2, 1) := by decide +kernel
theorem dJ7_fill_53178_12 : decode cJ7_fill_53178 12 = .ok (.iload_n 1, 1) := by decide +kernel
theorem dJ7_fill_53178_13 : decode cJ7_fill_53178 13 = .ok (.iastore, 1) := by decide +kernel
theorem dJ7_fill_53178_14 : decode cJ7_fill_53178 14 = .ok (.iinc 2 1, 3) := by decide +kernel
theorem dJ7_fill_53178_17 : decode cJ7_fill_53178 17 = .ok (.goto (-12), 3) := by decide +kernel
theorem dJ7_fill_53178_20 : decode cJ7_fill_53178 20 = .ok (.return_, 1) := by decide +kernel
set_option maxRecDepth 20000 in
theorem ggJ7_fill_fda19_J7_rangeCheck_23922 : GoodIn wsJ7_fill_fda19 wsJ7_rangeCheck_23922 := goodIn_r _ [4] (by decide +kernel) (by decide +kernel)
set_option maxRecDepth 20000 in
theorem gJ7_fill_fda19_J7_rangeCheck_23922 : GoodIn wsJ7_fill_fda19 (va_wsS RJ7 13 yJ7_rangeCheck_23922 wsJ7_rangeCheck_23922) := goodIn_app (goodIn_of _ (by decide +kernel)) ggJ7_fill_fda19_J7_rangeCheck_23922
theorem dJ7_fill_fda19_0 : decode cJ7_fill_fda19 0 = .ok (.aload_n 0, 1) := by decide +kernel
theorem dJ7_fill_fda19_1 : decode cJ7_fill_fda19 1 = .ok (.arraylength, 1) := by decide +kernel
theorem dJ7_fill_fda19_2 : decode cJ7_fill_fda19 2 = .ok (.iload_n 1, 1) := by decide +kernel
theorem dJ7_fill_fda19_3 : decode cJ7_fill_fda19 3 = .ok (.iload_n 2, 1) := by decide +kernel
theorem dJ7_fill_fda19_4 : decode cJ7_fill_fda19 4 = .ok (.invokestatic 13, 3) := by decide +kernel
theorem dJ7_fill_fda19_7 : decode cJ7_fill_fda19 7 = .ok (.iload_n 1, 1) := by decide +kernel
theorem dJ7_fill_fda19_8 : decode cJ7_fill_fda19 8 = .ok (.istore 4, 2) := by decide +kernel
theorem dJ7_fill_fda19_10 : decode cJ7_fill_fda19 10 = .ok (.iload 4, 2) := by decide +kernel
theorem dJ7_fill_fda19_12 : decode cJ7_fill_fda19 12 = .ok (.iload_n 2, 1) := by decide +kernel
theorem dJ7_fill_fda19_13 : decode cJ7_fill_fda19 13 = .ok (.if_icmp .ge 14, 3) := by decide +kernel
theorem dJ7_fill_fda19_16 : decode cJ7_fill_fda19 16 = .ok (.aload_n 0, 1) := by decide +kernel
theorem dJ7_fill_fda19_17 : decode cJ7_fill_fda19 17 = .ok (.iload 4, 2) := by decide +kernel
theorem dJ7_fill_fda19_19 : decode cJ7_fill_fda19 19 = .ok (.iload_n 3, 1) := by decide +kernel
theorem dJ7_fill_fda19_20 : decode cJ7_fill_fda19 20 = .ok (.iastore, 1) := by decide +kernel
theorem dJ7_fill_fda19_21 : decode cJ7_fill_fda19 21 = .ok (.iinc 4 1, 3) := by decide +kernel
theorem dJ7_fill_fda19_24 : decode cJ7_fill_fda19 24 = .ok (.goto (-14), 3) := by decide +kernel
theorem dJ7_fill_fda19_27 : decode cJ7_fill_fda19 27 = .ok (.return_, 1) := by decide +kernel
set_option maxRecDepth 20000 in
theorem ggL_law_X8_init : GoodIn wsL_law wsX8_init := goodIn_r _ [8, 9, 10, 11, 12, 13, 14, 15, 16, 17, 18, 19, 20, 21, 22, 23, 24, 25, 26, 27, 28, 29, 30, 31, 32, 33, 34, 35, 36, 37, 38, 39, 40, 41, 42, 43, 44, 45, 46, 47, 48, 49, 50, 51, 52, 53, 54, 55, 56, 57, 58, 59, 60, 61, 62, 63, 64, 65, 66, 67, 68, 69, 70, 71, 72, 73, 74, 75, 76, 77, 78, 79, 80, 81, 82, 83, 84, 85, 86, 87, 88, 89, 90, 91, 92, 93, 94, 95, 96, 97, 98, 99, 100, 101, 102, 103, 858, 859, 797, 798, 799, 800, 801, 802, 803, 860, 861, 862, 863, 864, 865, 866, 867, 868, 869, 870, 871, 872, 873, 874, 875, 876, 877, 878, 879, 880, 881, 882, 883, 884, 885, 886, 887, 888, 889] (by decide +kernel) (by decide +kernel)
set_option maxRecDepth 20000 in
theorem gL_law_X8_init : GoodIn wsL_law (wsX8_init) := ggL_law_X8_init
set_option maxRecDepth 20000 in
theorem ggL_law_X9_init : GoodIn wsL_law wsX9_init := goodIn_r _ [106, 107, 10, 11, 39, 108, 49, 109, 110, 111, 112, 113, 114, 115, 116, 117, 118, 119, 120, 121, 122, 123, 124, 125, 126, 127, 128, 129, 130, 131, 132, 133, 134, 135, 136, 137, 138, 139, 140, 141, 142, 143, 144, 145, 146, 147, 148, 149, 150, 5, 151, 152, 153, 154, 804, 805, 806, 807, 808, 809, 810, 811, 812, 813, 814, 815, 816, 817, 818, 819, 820, 821, 822, 823, 824, 825, 826, 827, 828, 829, 830, 831, 832, 833, 834, 835, 836, 837, 838, 839, 840, 841, 842, 843, 844, 845, 846, 847, 848, 849, 850, 851, 852, 853, 854, 855, 856, 857] (by decide +kernel) (by decide +kernel)
set_option maxRecDepth 20000 in
theorem gL_law_X9_init : GoodIn wsL_law (wsX9_init) := ggL_law_X9_init
set_option maxRecDepth 20000 in
theorem ggL_law_X8_setClass : GoodIn wsL_law wsX8_setClass := goodIn_r _ [158, 15, 21, 159, 160, 2, 161, 162, 163, 164, 165, 166, 167, 14, 168, 40, 169, 170, 171, 172, 173, 174, 175, 23, 176, 177, 178, 179, 180, 181, 182, 61, 183, 184, 47, 185, 186, 46, 48, 187, 188, 189, 190, 191, 192, 193, 60, 194, 195, 196, 197, 198, 63, 199, 68, 200, 201, 202, 203, 204, 205, 76, 72, 206, 207, 208, 209, 210, 211, 212, 213, 214, 215, 216, 217, 218, 73, 219, 220, 221, 222, 223, 224, 225, 38, 226, 227, 228, 18, 229, 230, 50, 231, 232, 233, 234, 235, 75, 236, 237, 238, 239, 74, 240, 241, 242, 243, 77, 244, 797, 798, 799, 800, 801, 802, 803, 858, 859, 860, 861, 862, 863, 864, 865, 866, 875, 876, 877, 878, 879, 880, 881, 882, 883, 884, 885, 886] (by decide +kernel) (by decide +kernel)
set_option maxRecDepth 20000 in
theorem gL_law_X8_setClass : GoodIn wsL_law (wsV RL 13 RX8 yX8_setClass wsX8_setClass) := goodIn_app (goodIn_of _ (by decide +kernel)) ggL_law_X8_setClass
set_option maxRecDepth 20000 in
theorem ggL_law_X9_setClass : GoodIn wsL_law wsX9_setClass := goodIn_r _ [248, 108, 152, 153, 5, 154, 249, 250, 251, 252, 132, 134, 253, 254, 255, 256, 257, 133, 258, 259, 260, 261, 120, 262, 263, 264, 265, 126, 127, 266, 267, 268, 269, 131, 122, 270, 271, 272, 273, 128, 129, 130, 274, 275, 276, 277, 123, 804, 805, 806, 807, 808, 809, 810, 811, 812, 813, 814, 815, 816, 817, 818, 819, 820, 821, 822, 823, 824, 825, 826, 827, 828, 829, 830, 831, 832, 833, 834, 835, 836, 837, 838, 839, 840, 841, 842, 843, 844, 845, 846, 847, 848, 849, 850, 851, 852, 853, 854, 855, 856, 857] (by decide +kernel) (by decide +kernel)
set_option maxRecDepth 20000 in
theorem gL_law_X9_setClass : GoodIn wsL_law (wsV RL 17 RX9 yX9_setClass wsX9_setClass) := goodIn_app (goodIn_of _ (by decide +kernel)) ggL_law_X9_setClass
set_option maxRecDepth 20000 in
theorem ggL_law_X8_classOf : GoodIn wsL_law wsX8_classOf := goodIn_r _ [281, 15, 159, 160, 2, 161, 165, 166, 167, 14, 168, 40, 797, 798, 799, 800, 801, 802, 803, 858, 859] (by decide +kernel) (by decide +kernel)
set_option maxRecDepth 20000 in
theorem gL_law_X8_classOf : GoodIn wsL_law (wsV RL 18 RX8 yX8_classOf wsX8_classOf) := goodIn_app (goodIn_of _ (by decide +kernel)) ggL_law_X8_classOf
set_option maxRecDepth 20000 in
theorem ggL_law_X9_classOf : GoodIn wsL_law wsX9_classOf := goodIn_r _ [285, 108, 152, 153, 5, 154, 804, 805, 806, 807, 808, 809, 810, 811, 812, 813, 814, 815, 816, 817, 818, 819, 820, 821, 822, 823, 824, 825, 826, 827, 828, 829, 830, 831, 832, 833, 834, 835, 836, 837, 838, 839, 840, 841, 842, 843, 844, 845, 846, 847, 848, 849, 850, 851, 852, 853, 854, 855, 856, 857] (by decide +kernel) (by decide +kernel)
set_option maxRecDepth 20000 in
theorem gL_law_X9_classOf : GoodIn wsL_law (wsV RL 22 RX9 yX9_classOf wsX9_classOf) := goodIn_app (goodIn_of _ (by decide +kernel)) ggL_law_X9_classOf
set_option maxRecDepth 20000 in
theorem ggL_law_X8_type : GoodIn wsL_law wsX8_type := goodIn_r _ [289, 19, 290, 291, 292, 293, 18, 294, 230, 50, 797, 798, 799, 800, 801, 802, 803, 860, 861] (by decide +kernel) (by decide +kernel)
set_option maxRecDepth 20000 in
theorem gL_law_X8_type : GoodIn wsL_law (wsV RL 23 RX8 yX8_type wsX8_type) := goodIn_app (goodIn_of _ (by decide +kernel)) ggL_law_X8_type
set_option maxRecDepth 20000 in
theorem ggL_law_X9_type : GoodIn wsL_law wsX9_type := goodIn_r _ [298, 299, 109, 804, 805, 806, 807, 808, 809, 810, 811, 812, 813, 814, 815, 816, 817, 818, 819, 820, 821, 822, 823, 824, 825, 826, 827, 828, 829, 830, 831, 832, 833, 834, 835, 836, 837, 838, 839, 840, 841, 842, 843, 844, 845, 846, 847, 848, 849, 850, 851, 852, 853, 854, 855, 856, 857] (by decide +kernel) (by decide +kernel)
set_option maxRecDepth 20000 in
theorem gL_law_X9_type : GoodIn wsL_law (wsV RL 26 RX9 yX9_type wsX9_type) := goodIn_app (goodIn_of _ (by decide +kernel)) ggL_law_X9_type
set_option maxRecDepth 20000 in
theorem ggL_law_X8_clearPattern : GoodIn wsL_law wsX8_clearPattern := goodIn_r _ [303, 19, 290, 797, 798, 799, 800, 801, 802, 803, 860, 861] (by decide +kernel) (by decide +kernel)
set_option maxRecDepth 20000 in
theorem gL_law_X8_clearPattern : GoodIn wsL_law (wsV RL 27 RX8 yX8_clearPattern wsX8_clearPattern) := goodIn_app (goodIn_of _ (by decide +kernel)) ggL_law_X8_clearPattern
set_option maxRecDepth 20000 in
theorem ggL_law_X9_clearPattern : GoodIn wsL_law wsX9_clearPattern := goodIn_r _ [307, 299, 804, 805, 806, 807, 808, 809, 810, 811, 812, 813, 814, 815, 816, 817, 818, 819, 820, 821, 822, 823, 824, 825, 826, 827, 828, 829, 830, 831, 832, 833, 834, 835, 836, 837, 838, 839, 840, 841, 842, 843, 844, 845, 846, 847, 848, 849, 850, 851, 852, 853, 854, 855, 856, 857] (by decide +kernel) (by decide +kernel)
set_option maxRecDepth 20000 in
theorem gL_law_X9_clearPattern : GoodIn wsL_law (wsV RL 31 RX9 yX9_clearPattern wsX9_clearPattern) := goodIn_app (goodIn_of _ (by decide +kernel)) ggL_law_X9_clearPattern
set_option maxRecDepth 20000 in
theorem ggL_law_X8_setRule : GoodIn wsL_law wsX8_setRule := goodIn_r _ [311, 19, 290, 21, 312, 313, 27, 15, 314, 315, 2, 316, 317, 318, 319, 320, 321, 322, 323, 227, 228, 18, 229, 230, 50, 324, 325, 326, 327, 328, 329, 330, 197, 198, 63, 199, 68, 200, 331, 332, 333, 334, 335, 336, 292, 293, 294, 337, 338, 339, 26, 340, 341, 342, 343, 344, 345, 346, 347, 348, 212, 213, 214, 349, 350, 351, 71, 352, 353, 354, 355, 356, 357, 358, 359, 360, 361, 362, 363, 87, 88, 364, 365, 366, 367, 368, 369, 370, 371, 372, 373, 374, 375, 376, 89, 377, 378, 379, 380, 381, 382, 383, 384, 385, 386, 387, 388, 389, 390, 391, 392, 393, 394, 395, 396, 397, 398, 399, 400, 401, 402, 403, 404, 405, 406, 407, 408, 173, 174, 175, 23, 176, 177, 178, 179, 180, 181, 182, 61, 183, 184, 47, 185, 186, 46, 48, 187, 188, 189, 190, 191, 192, 193, 60, 194, 195, 196, 201, 202, 203, 204, 205, 76, 72, 206, 207, 208, 209, 210, 211, 215, 216, 217, 218, 73, 219, 220, 221, 222, 223, 224, 14, 225, 38, 226, 231, 166, 167, 168, 40, 232, 233, 234, 235, 75, 163, 164, 236, 237, 238, 239, 74, 240, 241, 242, 243, 77, 244, 797, 798, 799, 800, 801, 802, 803, 860, 861, 862, 863, 864, 865, 866, 875, 876, 877, 878, 879, 880, 881, 882, 883, 867, 868, 869, 870, 884, 885, 886, 858, 859] (by decide +kernel) (by decide +kernel)
set_option maxRecDepth 20000 in
theorem gL_law_X8_setRule : GoodIn wsL_law (wsV RL 32 RX8 yX8_setRule wsX8_setRule) := goodIn_app (goodIn_of _ (by decide +kernel)) ggL_law_X8_setRule
set_option maxRecDepth 20000 in
theorem ggL_law_X9_setRule : GoodIn wsL_law wsX9_setRule := goodIn_r _ [412, 120, 299, 413, 414, 5, 415, 152, 153, 154, 249, 250, 251, 252, 132, 134, 253, 254, 255, 256, 257, 133, 258, 259, 260, 261, 262, 263, 264, 265, 126, 127, 266, 267, 268, 269, 108, 131, 122, 270, 271, 272, 273, 128, 129, 130, 274, 275, 276, 277, 123, 416, 417, 418, 419, 420, 421, 422, 423, 424, 119, 109, 117, 118, 425, 426, 427, 111, 112, 113, 428, 429, 430, 431, 432, 433, 434, 435, 114, 115, 116, 436, 437, 438, 439, 440, 441, 442, 443, 444, 445, 446, 447, 448, 449, 450, 451, 452, 453, 454, 455, 456, 457, 458, 124, 125, 121, 804, 805, 806, 807, 808, 809, 810, 811, 812, 813, 814, 815, 816, 817, 818, 819, 820, 821, 822, 823, 824, 825, 826, 827, 828, 829, 830, 831, 832, 833, 834, 835, 836, 837, 838, 839, 840, 841, 842, 843, 844, 845, 846, 847, 848, 849, 850, 851, 852, 853, 854, 855, 856, 857] (by decide +kernel) (by decide +kernel)
set_option maxRecDepth 20000 in
theorem gL_law_X9_setRule : GoodIn wsL_law (wsV RL 36 RX9 yX9_setRule wsX9_setRule) := goodIn_app (goodIn_of _ (by decide +kernel)) ggL_law_X9_setRule
set_option maxRecDepth 20000 in
theorem ggL_law_X8_ruleText : GoodIn wsL_law wsX8_ruleText := goodIn_r _ [462, 21, 312, 313, 290, 314, 315, 2, 316, 317, 318, 319, 323, 227, 228, 18, 229, 230, 50, 797, 798, 799, 800, 801, 802, 803, 862, 863, 864, 865, 866, 875, 876, 877, 878, 879, 880, 881, 882, 883, 860, 861] (by decide +kernel) (by decide +kernel)
set_option maxRecDepth 20000 in
theorem gL_law_X8_ruleText : GoodIn wsL_law (wsV RL 37 RX8 yX8_ruleText wsX8_ruleText) := goodIn_app (goodIn_of _ (by decide +kernel)) ggL_law_X8_ruleText
set_option maxRecDepth 20000 in
theorem ggL_law_X9_ruleText : GoodIn wsL_law wsX9_ruleText := goodIn_r _ [466, 120, 121, 413, 414, 5, 415, 152, 153, 154, 804, 805, 806, 807, 808, 809, 810, 811, 812, 813, 814, 815, 816, 817, 818, 819, 820, 821, 822, 823, 824, 825, 826, 827, 828, 829, 830, 831, 832, 833, 834, 835, 836, 837, 838, 839, 840, 841, 842, 843, 844, 845, 846, 847, 848, 849, 850, 851, 852, 853, 854, 855, 856, 857] (by decide +kernel) (by decide +kernel)
set_option maxRecDepth 20000 in
theorem gL_law_X9_ruleText : GoodIn wsL_law (wsV RL 41 RX9 yX9_ruleText wsX9_ruleText) := goodIn_app (goodIn_of _ (by decide +kernel)) ggL_law_X9_ruleText
set_option maxRecDepth 20000 in
theorem ggL_law_X8_matchLength : GoodIn wsL_law wsX8_matchLength := goodIn_r _ [470, 21, 312, 15, 471, 314, 315, 2, 316, 317, 318, 319, 472, 473, 474, 475, 476, 290, 330, 197, 198, 63, 199, 68, 200, 477, 202, 203, 204, 205, 76, 72, 206, 207, 208, 209, 210, 211, 212, 213, 214, 215, 216, 217, 218, 73, 219, 220, 221, 222, 223, 224, 14, 225, 38, 226, 227, 228, 18, 229, 230, 50, 231, 166, 167, 168, 40, 232, 233, 234, 235, 75, 163, 164, 236, 237, 238, 239, 74, 240, 241, 242, 243, 77, 244, 46, 47, 48, 797, 798, 799, 800, 801, 802, 803, 862, 863, 864, 865, 866, 875, 876, 877, 878, 879, 880, 881, 882, 883, 858, 859, 860, 861, 884, 885, 886] (by decide +kernel) (by decide +kernel)
set_option maxRecDepth 20000 in
theorem gL_law_X8_matchLength : GoodIn wsL_law (wsV RL 42 RX8 yX8_matchLength wsX8_matchLength) := goodIn_app (goodIn_of _ (by decide +kernel)) ggL_law_X8_matchLength
set_option maxRecDepth 20000 in
theorem ggL_law_X9_matchLength : GoodIn wsL_law wsX9_matchLength := goodIn_r _ [481, 120, 413, 414, 5, 415, 152, 153, 154, 482, 483, 484, 485, 253, 262, 263, 264, 265, 126, 127, 266, 267, 268, 269, 108, 131, 122, 270, 271, 272, 273, 128, 129, 130, 274, 275, 276, 277, 123, 804, 805, 806, 807, 808, 809, 810, 811, 812, 813, 814, 815, 816, 817, 818, 819, 820, 821, 822, 823, 824, 825, 826, 827, 828, 829, 830, 831, 832, 833, 834, 835, 836, 837, 838, 839, 840, 841, 842, 843, 844, 845, 846, 847, 848, 849, 850, 851, 852, 853, 854, 855, 856, 857] (by decide +kernel) (by decide +kernel)
set_option maxRecDepth 20000 in
theorem gL_law_X9_matchLength : GoodIn wsL_law (wsV RL 45 RX9 yX9_matchLength wsX9_matchLength) := goodIn_app (goodIn_of _ (by decide +kernel)) ggL_law_X9_matchLength
set_option maxRecDepth 20000 in
theorem ggL_law_X8_addException : GoodIn wsL_law wsX8_addException := goodIn_r _ [489, 19, 290, 490, 28, 491, 492, 2, 493, 323, 227, 228, 18, 229, 230, 50, 159, 160, 161, 494, 495, 496, 497, 498, 499, 500, 501, 335, 331, 332, 333, 334, 336, 292, 293, 294, 797, 798, 799, 800, 801, 802, 803, 860, 861] (by decide +kernel) (by decide +kernel)
set_option maxRecDepth 20000 in
theorem gL_law_X8_addException : GoodIn wsL_law (wsV RL 46 RX8 yX8_addException wsX8_addException) := goodIn_app (goodIn_of _ (by decide +kernel)) ggL_law_X8_addException
set_option maxRecDepth 20000 in
theorem ggL_law_X9_addException : GoodIn wsL_law wsX9_addException := goodIn_r _ [505, 299, 109, 506, 147, 146, 152, 153, 5, 154, 507, 508, 509, 510, 804, 805, 806, 807, 808, 809, 810, 811, 812, 813, 814, 815, 816, 817, 818, 819, 820, 821, 822, 823, 824, 825, 826, 827, 828, 829, 830, 831, 832, 833, 834, 835, 836, 837, 838, 839, 840, 841, 842, 843, 844, 845, 846, 847, 848, 849, 850, 851, 852, 853, 854, 855, 856, 857] (by decide +kernel) (by decide +kernel)
set_option maxRecDepth 20000 in
theorem gL_law_X9_addException : GoodIn wsL_law (wsV RL 49 RX9 yX9_addException wsX9_addException) := goodIn_app (goodIn_of _ (by decide +kernel)) ggL_law_X9_addException
set_option maxRecDepth 20000 in
theorem ggL_law_X8_removeException : GoodIn wsL_law wsX8_removeException := goodIn_r _ [514, 19, 290, 490, 28, 494, 495, 496, 2, 497, 498, 499, 500, 18, 501, 230, 335, 227, 228, 229, 50, 797, 798, 799, 800, 801, 802, 803, 860, 861] (by decide +kernel) (by decide +kernel)
set_option maxRecDepth 20000 in
theorem gL_law_X8_removeException : GoodIn wsL_law (wsV RL 50 RX8 yX8_removeException wsX8_removeException) := goodIn_app (goodIn_of _ (by decide +kernel)) ggL_law_X8_removeException
set_option maxRecDepth 20000 in
theorem ggL_law_X9_removeException : GoodIn wsL_law wsX9_removeException := goodIn_r _ [518, 506, 146, 147, 507, 508, 509, 5, 510, 299, 109, 804, 805, 806, 807, 808, 809, 810, 811, 812, 813, 814, 815, 816, 817, 818, 819, 820, 821, 822, 823, 824, 825, 826, 827, 828, 829, 830, 831, 832, 833, 834, 835, 836, 837, 838, 839, 840, 841, 842, 843, 844, 845, 846, 847, 848, 849, 850, 851, 852, 853, 854, 855, 856, 857] (by decide +kernel) (by decide +kernel)
set_option maxRecDepth 20000 in
theorem gL_law_X9_removeException : GoodIn wsL_law (wsV RL 53 RX9 yX9_removeException wsX9_removeException) := goodIn_app (goodIn_of _ (by decide +kernel)) ggL_law_X9_removeException
set_option maxRecDepth 20000 in
theorem ggL_law_X8_insert : GoodIn wsL_law wsX8_insert := goodIn_r _ [522, 15, 476, 290, 32, 523, 524, 525, 472, 473, 474, 2, 475, 159, 160, 161, 526, 527, 528, 31, 529, 530, 531, 532, 533, 534, 535, 536, 537, 538, 539, 540, 95, 291, 292, 293, 18, 294, 230, 50, 541, 542, 543, 544, 21, 545, 546, 547, 548, 549, 550, 551, 552, 553, 554, 555, 556, 557, 558, 559, 23, 560, 61, 561, 562, 563, 564, 565, 566, 567, 213, 568, 569, 570, 571, 572, 573, 574, 575, 576, 180, 181, 182, 177, 178, 183, 184, 47, 185, 186, 46, 48, 187, 188, 189, 190, 191, 192, 193, 60, 194, 195, 196, 197, 198, 63, 199, 68, 200, 201, 202, 203, 204, 205, 76, 72, 206, 207, 208, 209, 210, 211, 212, 214, 215, 216, 217, 218, 73, 219, 220, 221, 222, 223, 224, 14, 225, 38, 226, 227, 228, 229, 231, 166, 167, 168, 40, 232, 233, 234, 235, 75, 163, 164, 236, 237, 238, 239, 74, 240, 241, 242, 243, 77, 244, 797, 798, 799, 800, 801, 802, 803, 858, 859, 860, 861, 887, 888, 889, 871, 872, 873, 874, 862, 863, 864, 865, 866, 875, 876, 877, 878, 879, 880, 881, 882, 883, 884, 885, 886] (by decide +kernel) (by decide +kernel)
set_option maxRecDepth 20000 in
theorem gL_law_X8_insert : GoodIn wsL_law (wsV RL 54 RX8 yX8_insert wsX8_insert) := goodIn_app (goodIn_of _ (by decide +kernel)) ggL_law_X8_insert
set_option maxRecDepth 20000 in
theorem ggL_law_X9_insert : GoodIn wsL_law wsX9_insert := goodIn_r _ [580, 253, 137, 581, 482, 483, 484, 5, 485, 152, 153, 154, 582, 583, 584, 585, 586, 138, 139, 140, 141, 587, 588, 589, 590, 131, 591, 592, 593, 594, 132, 135, 595, 596, 597, 598, 133, 599, 600, 601, 602, 120, 603, 604, 605, 606, 126, 125, 129, 127, 266, 267, 268, 269, 108, 122, 274, 275, 276, 277, 123, 607, 608, 609, 610, 611, 612, 613, 614, 136, 134, 615, 616, 617, 618, 258, 259, 260, 261, 262, 263, 264, 265, 270, 271, 272, 273, 128, 130, 254, 255, 256, 257, 804, 805, 806, 807, 808, 809, 810, 811, 812, 813, 814, 815, 816, 817, 818, 819, 820, 821, 822, 823, 824, 825, 826, 827, 828, 829, 830, 831, 832, 833, 834, 835, 836, 837, 838, 839, 840, 841, 842, 843, 844, 845, 846, 847, 848, 849, 850, 851, 852, 853, 854, 855, 856, 857] (by decide +kernel) (by decide +kernel)
set_option maxRecDepth 20000 in
theorem gL_law_X9_insert : GoodIn wsL_law (wsV RL 58 RX9 yX9_insert wsX9_insert) := goodIn_app (goodIn_of _ (by decide +kernel)) ggL_law_X9_insert
set_option maxRecDepth 20000 in
theorem ggL_law_X8_erase : GoodIn wsL_law wsX8_erase := goodIn_r _ [622, 15, 476, 290, 32, 523, 524, 525, 623, 624, 625, 2, 626, 526, 527, 528, 31, 529, 530, 531, 532, 533, 534, 535, 536, 537, 538, 539, 540, 95, 331, 332, 333, 18, 334, 230, 335, 227, 228, 229, 50, 336, 292, 293, 294, 541, 542, 543, 544, 21, 545, 546, 547, 548, 549, 550, 551, 552, 553, 554, 555, 556, 557, 558, 559, 23, 560, 61, 561, 562, 563, 564, 565, 566, 567, 213, 568, 569, 570, 571, 572, 573, 574, 575, 576, 180, 181, 182, 177, 178, 183, 184, 47, 185, 186, 46, 48, 187, 188, 189, 190, 191, 192, 193, 60, 194, 195, 196, 197, 198, 63, 199, 68, 200, 201, 202, 203, 204, 205, 76, 72, 206, 207, 208, 209, 210, 211, 212, 214, 215, 216, 217, 218, 73, 219, 220, 221, 222, 223, 224, 14, 225, 38, 226, 231, 166, 167, 168, 40, 232, 233, 234, 235, 75, 163, 164, 236, 237, 238, 239, 74, 240, 241, 242, 243, 77, 244, 797, 798, 799, 800, 801, 802, 803, 858, 859, 860, 861, 887, 888, 889, 871, 872, 873, 874, 862, 863, 864, 865, 866, 875, 876, 877, 878, 879, 880, 881, 882, 883, 884, 885, 886] (by decide +kernel) (by decide +kernel)
set_option maxRecDepth 20000 in
theorem gL_law_X8_erase : GoodIn wsL_law (wsV RL 59 RX8 yX8_erase wsX8_erase) := goodIn_app (goodIn_of _ (by decide +kernel)) ggL_law_X8_erase
set_option maxRecDepth 20000 in
theorem ggL_law_X9_erase : GoodIn wsL_law wsX9_erase := goodIn_r _ [630, 253, 137, 131, 581, 152, 153, 5, 154, 582, 583, 584, 585, 586, 138, 139, 140, 141, 631, 632, 633, 634, 591, 592, 593, 594, 132, 135, 595, 596, 597, 598, 133, 599, 600, 601, 602, 120, 603, 604, 605, 606, 126, 125, 129, 127, 266, 267, 268, 269, 108, 122, 274, 275, 276, 277, 123, 607, 608, 609, 610, 611, 612, 613, 614, 136, 134, 615, 616, 617, 618, 258, 259, 260, 261, 262, 263, 264, 265, 270, 271, 272, 273, 128, 130, 254, 255, 256, 257, 804, 805, 806, 807, 808, 809, 810, 811, 812, 813, 814, 815, 816, 817, 818, 819, 820, 821, 822, 823, 824, 825, 826, 827, 828, 829, 830, 831, 832, 833, 834, 835, 836, 837, 838, 839, 840, 841, 842, 843, 844, 845, 846, 847, 848, 849, 850, 851, 852, 853, 854, 855, 856, 857] (by decide +kernel) (by decide +kernel)
set_option maxRecDepth 20000 in
theorem gL_law_X9_erase : GoodIn wsL_law (wsV RL 62 RX9 yX9_erase wsX9_erase) := goodIn_app (goodIn_of _ (by decide +kernel)) ggL_law_X9_erase
set_option maxRecDepth 20000 in
theorem ggL_law_X8_undo : GoodIn wsL_law wsX8_undo := goodIn_r _ [638, 32, 639, 523, 640, 641, 642, 31, 643, 531, 530, 537, 538, 539, 540, 95, 532, 533, 534, 535, 536, 541, 542, 543, 2, 544, 15, 476, 290, 524, 525, 21, 545, 546, 547, 18, 548, 230, 50, 549, 550, 551, 552, 553, 554, 555, 556, 557, 558, 559, 23, 560, 61, 561, 562, 563, 564, 565, 566, 567, 213, 568, 569, 570, 571, 572, 573, 574, 575, 576, 180, 181, 182, 177, 178, 183, 184, 47, 185, 186, 46, 48, 187, 188, 189, 190, 191, 192, 193, 60, 194, 195, 196, 197, 198, 63, 199, 68, 200, 201, 202, 203, 204, 205, 76, 72, 206, 207, 208, 209, 210, 211, 212, 214, 215, 216, 217, 218, 73, 219, 220, 221, 222, 223, 224, 14, 225, 38, 226, 227, 228, 229, 231, 166, 167, 168, 40, 232, 233, 234, 235, 75, 163, 164, 236, 237, 238, 239, 74, 240, 241, 242, 243, 77, 244, 797, 798, 799, 800, 801, 802, 803, 871, 872, 873, 874, 887, 888, 889, 858, 859, 860, 861, 862, 863, 864, 865, 866, 875, 876, 877, 878, 879, 880, 881, 882, 883, 884, 885, 886] (by decide +kernel) (by decide +kernel)
set_option maxRecDepth 20000 in
theorem gL_law_X8_undo : GoodIn wsL_law (wsV RL 63 RX8 yX8_undo wsX8_undo) := goodIn_app (goodIn_of _ (by decide +kernel)) ggL_law_X8_undo
set_option maxRecDepth 20000 in
theorem ggL_law_X9_undo : GoodIn wsL_law wsX9_undo := goodIn_r _ [647, 586, 140, 137, 141, 145, 581, 142, 138, 143, 139, 144, 648, 649, 650, 5, 651, 587, 588, 589, 590, 253, 131, 591, 592, 593, 594, 132, 135, 595, 596, 597, 598, 133, 599, 600, 601, 602, 120, 603, 604, 605, 606, 126, 125, 129, 127, 266, 267, 268, 269, 108, 122, 274, 275, 276, 277, 123, 607, 608, 609, 610, 611, 612, 613, 614, 136, 134, 615, 616, 617, 618, 258, 259, 260, 261, 262, 263, 264, 265, 270, 271, 272, 273, 128, 130, 254, 255, 256, 257, 631, 632, 633, 634, 804, 805, 806, 807, 808, 809, 810, 811, 812, 813, 814, 815, 816, 817, 818, 819, 820, 821, 822, 823, 824, 825, 826, 827, 828, 829, 830, 831, 832, 833, 834, 835, 836, 837, 838, 839, 840, 841, 842, 843, 844, 845, 846, 847, 848, 849, 850, 851, 852, 853, 854, 855, 856, 857] (by decide +kernel) (by decide +kernel)
set_option maxRecDepth 20000 in
theorem gL_law_X9_undo : GoodIn wsL_law (wsV RL 66 RX9 yX9_undo wsX9_undo) := goodIn_app (goodIn_of _ (by decide +kernel)) ggL_law_X9_undo
set_option maxRecDepth 20000 in
theorem ggL_law_X8_redo : GoodIn wsL_law wsX8_redo := goodIn_r _ [655, 32, 656, 523, 657, 658, 659, 31, 660, 531, 530, 537, 538, 539, 540, 95, 532, 533, 534, 535, 536, 541, 542, 543, 2, 544, 15, 476, 290, 524, 525, 21, 545, 546, 547, 18, 548, 230, 50, 549, 550, 551, 552, 553, 554, 555, 556, 557, 558, 559, 23, 560, 61, 561, 562, 563, 564, 565, 566, 567, 213, 568, 569, 570, 571, 572, 573, 574, 575, 576, 180, 181, 182, 177, 178, 183, 184, 47, 185, 186, 46, 48, 187, 188, 189, 190, 191, 192, 193, 60, 194, 195, 196, 197, 198, 63, 199, 68, 200, 201, 202, 203, 204, 205, 76, 72, 206, 207, 208, 209, 210, 211, 212, 214, 215, 216, 217, 218, 73, 219, 220, 221, 222, 223, 224, 14, 225, 38, 226, 227, 228, 229, 231, 166, 167, 168, 40, 232, 233, 234, 235, 75, 163, 164, 236, 237, 238, 239, 74, 240, 241, 242, 243, 77, 244, 797, 798, 799, 800, 801, 802, 803, 871, 872, 873, 874, 887, 888, 889, 858, 859, 860, 861, 862, 863, 864, 865, 866, 875, 876, 877, 878, 879, 880, 881, 882, 883, 884, 885, 886] (by decide +kernel) (by decide +kernel)
set_option maxRecDepth 20000 in
theorem gL_law_X8_redo : GoodIn wsL_law (wsV RL 67 RX8 yX8_redo wsX8_redo) := goodIn_app (goodIn_of _ (by decide +kernel)) ggL_law_X8_redo
set_option maxRecDepth 20000 in
theorem ggL_law_X9_redo : GoodIn wsL_law wsX9_redo := goodIn_r _ [664, 581, 144, 137, 145, 142, 143, 582, 583, 584, 5, 585, 586, 138, 139, 140, 141, 648, 649, 650, 651, 587, 588, 589, 590, 253, 131, 591, 592, 593, 594, 132, 135, 595, 596, 597, 598, 133, 599, 600, 601, 602, 120, 603, 604, 605, 606, 126, 125, 129, 127, 266, 267, 268, 269, 108, 122, 274, 275, 276, 277, 123, 607, 608, 609, 610, 611, 612, 613, 614, 136, 134, 615, 616, 617, 618, 258, 259, 260, 261, 262, 263, 264, 265, 270, 271, 272, 273, 128, 130, 254, 255, 256, 257, 631, 632, 633, 634, 804, 805, 806, 807, 808, 809, 810, 811, 812, 813, 814, 815, 816, 817, 818, 819, 820, 821, 822, 823, 824, 825, 826, 827, 828, 829, 830, 831, 832, 833, 834, 835, 836, 837, 838, 839, 840, 841, 842, 843, 844, 845, 846, 847, 848, 849, 850, 851, 852, 853, 854, 855, 856, 857] (by decide +kernel) (by decide +kernel)
set_option maxRecDepth 20000 in
theorem gL_law_X9_redo : GoodIn wsL_law (wsV RL 70 RX9 yX9_redo wsX9_redo) := goodIn_app (goodIn_of _ (by decide +kernel)) ggL_law_X9_redo
set_option maxRecDepth 20000 in
theorem ggL_law_X8_charAt : GoodIn wsL_law wsX8_charAt := goodIn_r _ [668, 15, 476, 623, 624, 625, 2, 626, 290, 323, 227, 228, 18, 229, 230, 50, 797, 798, 799, 800, 801, 802, 803, 858, 859, 860, 861] (by decide +kernel) (by decide +kernel)
set_option maxRecDepth 20000 in
theorem gL_law_X8_charAt : GoodIn wsL_law (wsV RL 71 RX8 yX8_charAt wsX8_charAt) := goodIn_app (goodIn_of _ (by decide +kernel)) ggL_law_X8_charAt
set_option maxRecDepth 20000 in
theorem ggL_law_X9_charAt : GoodIn wsL_law wsX9_charAt := goodIn_r _ [672, 253, 131, 152, 153, 5, 154, 804, 805, 806, 807, 808, 809, 810, 811, 812, 813, 814, 815, 816, 817, 818, 819, 820, 821, 822, 823, 824, 825, 826, 827, 828, 829, 830, 831, 832, 833, 834, 835, 836, 837, 838, 839, 840, 841, 842, 843, 844, 845, 846, 847, 848, 849, 850, 851, 852, 853, 854, 855, 856, 857] (by decide +kernel) (by decide +kernel)
set_option maxRecDepth 20000 in
theorem gL_law_X9_charAt : GoodIn wsL_law (wsV RL 75 RX9 yX9_charAt wsX9_charAt) := goodIn_app (goodIn_of _ (by decide +kernel)) ggL_law_X9_charAt
set_option maxRecDepth 20000 in
theorem ggL_law_X8_value : GoodIn wsL_law wsX8_value := goodIn_r _ [676, 15, 476, 290, 19, 490, 32, 639, 656, 797, 798, 799, 800, 801, 802, 803, 858, 859, 860, 861, 871, 872, 873, 874] (by decide +kernel) (by decide +kernel)
set_option maxRecDepth 20000 in
theorem gL_law_X8_value : GoodIn wsL_law (wsV RL 76 RX8 yX8_value wsX8_value) := goodIn_app (goodIn_of _ (by decide +kernel)) ggL_law_X8_value
set_option maxRecDepth 20000 in
theorem ggL_law_X9_value : GoodIn wsL_law wsX9_value := goodIn_r _ [680, 253, 299, 506, 586, 581, 804, 805, 806, 807, 808, 809, 810, 811, 812, 813, 814, 815, 816, 817, 818, 819, 820, 821, 822, 823, 824, 825, 826, 827, 828, 829, 830, 831, 832, 833, 834, 835, 836, 837, 838, 839, 840, 841, 842, 843, 844, 845, 846, 847, 848, 849, 850, 851, 852, 853, 854, 855, 856, 857] (by decide +kernel) (by decide +kernel)
set_option maxRecDepth 20000 in
theorem gL_law_X9_value : GoodIn wsL_law (wsV RL 79 RX9 yX9_value wsX9_value) := goodIn_app (goodIn_of _ (by decide +kernel)) ggL_law_X9_value
set_option maxRecDepth 20000 in
theorem ggL_law_X8_boundaryAt : GoodIn wsL_law wsX8_boundaryAt := goodIn_r _ [684, 314, 315, 2, 316, 472, 473, 474, 475, 15, 476, 290, 685, 686, 687, 688, 21, 689, 690, 691, 23, 692, 61, 693, 694, 695, 696, 323, 227, 228, 18, 229, 230, 50, 697, 698, 699, 700, 701, 223, 224, 14, 225, 38, 226, 231, 166, 167, 168, 40, 494, 495, 496, 497, 490, 28, 498, 499, 500, 501, 335, 797, 798, 799, 800, 801, 802, 803, 858, 859, 860, 861, 862, 863, 864, 865, 866] (by decide +kernel) (by decide +kernel)
set_option maxRecDepth 20000 in
theorem gL_law_X8_boundaryAt : GoodIn wsL_law (wsV RL 80 RX8 yX8_boundaryAt wsX8_boundaryAt) := goodIn_app (goodIn_of _ (by decide +kernel)) ggL_law_X8_boundaryAt
set_option maxRecDepth 20000 in
theorem ggL_law_X9_boundaryAt : GoodIn wsL_law wsX9_boundaryAt := goodIn_r _ [705, 132, 706, 707, 708, 5, 709, 710, 711, 712, 152, 153, 154, 482, 483, 484, 485, 253, 595, 596, 597, 598, 133, 713, 714, 715, 716, 131, 108, 717, 718, 719, 720, 506, 146, 147, 804, 805, 806, 807, 808, 809, 810, 811, 812, 813, 814, 815, 816, 817, 818, 819, 820, 821, 822, 823, 824, 825, 826, 827, 828, 829, 830, 831, 832, 833, 834, 835, 836, 837, 838, 839, 840, 841, 842, 843, 844, 845, 846, 847, 848, 849, 850, 851, 852, 853, 854, 855, 856, 857] (by decide +kernel) (by decide +kernel)
set_option maxRecDepth 20000 in
theorem gL_law_X9_boundaryAt : GoodIn wsL_law (wsV RL 83 RX9 yX9_boundaryAt wsX9_boundaryAt) := goodIn_app (goodIn_of _ (by decide +kernel)) ggL_law_X9_boundaryAt
set_option maxRecDepth 20000 in
theorem ggL_law_X8_next : GoodIn wsL_law wsX8_next := goodIn_r _ [724, 314, 315, 2, 316, 472, 473, 474, 475, 15, 476, 290, 725, 726, 727, 728, 685, 686, 687, 688, 21, 689, 690, 691, 23, 692, 61, 693, 694, 695, 696, 323, 227, 228, 18, 229, 230, 50, 697, 698, 699, 700, 701, 223, 224, 14, 225, 38, 226, 231, 166, 167, 168, 40, 494, 495, 496, 497, 490, 28, 498, 499, 500, 501, 335, 797, 798, 799, 800, 801, 802, 803, 858, 859, 860, 861, 862, 863, 864, 865, 866] (by decide +kernel) (by decide +kernel)
set_option maxRecDepth 20000 in
theorem gL_law_X8_next : GoodIn wsL_law (wsV RL 84 RX8 yX8_next wsX8_next) := goodIn_app (goodIn_of _ (by decide +kernel)) ggL_law_X8_next
set_option maxRecDepth 20000 in
theorem ggL_law_X9_next : GoodIn wsL_law wsX9_next := goodIn_r _ [732, 132, 706, 707, 708, 5, 709, 710, 711, 712, 152, 153, 154, 482, 483, 484, 485, 253, 595, 596, 597, 598, 133, 713, 714, 715, 716, 131, 108, 717, 718, 719, 720, 506, 146, 147, 804, 805, 806, 807, 808, 809, 810, 811, 812, 813, 814, 815, 816, 817, 818, 819, 820, 821, 822, 823, 824, 825, 826, 827, 828, 829, 830, 831, 832, 833, 834, 835, 836, 837, 838, 839, 840, 841, 842, 843, 844, 845, 846, 847, 848, 849, 850, 851, 852, 853, 854, 855, 856, 857] (by decide +kernel) (by decide +kernel)
set_option maxRecDepth 20000 in
theorem gL_law_X9_next : GoodIn wsL_law (wsV RL 87 RX9 yX9_next wsX9_next) := goodIn_app (goodIn_of _ (by decide +kernel)) ggL_law_X9_next
set_option maxRecDepth 20000 in
theorem ggL_law_X8_previous : GoodIn wsL_law wsX8_previous := goodIn_r _ [736, 314, 315, 2, 316, 472, 473, 474, 475, 15, 476, 290, 685, 686, 687, 688, 21, 689, 690, 691, 23, 692, 61, 693, 694, 695, 696, 323, 227, 228, 18, 229, 230, 50, 697, 698, 699, 700, 701, 223, 224, 14, 225, 38, 226, 231, 166, 167, 168, 40, 494, 495, 496, 497, 490, 28, 498, 499, 500, 501, 335, 797, 798, 799, 800, 801, 802, 803, 858, 859, 860, 861, 862, 863, 864, 865, 866] (by decide +kernel) (by decide +kernel)
set_option maxRecDepth 20000 in
theorem gL_law_X8_previous : GoodIn wsL_law (wsV RL 88 RX8 yX8_previous wsX8_previous) := goodIn_app (goodIn_of _ (by decide +kernel)) ggL_law_X8_previous
set_option maxRecDepth 20000 in
theorem ggL_law_X9_previous : GoodIn wsL_law wsX9_previous := goodIn_r _ [740, 132, 706, 707, 708, 5, 709, 710, 711, 712, 152, 153, 154, 482, 483, 484, 485, 253, 595, 596, 597, 598, 133, 713, 714, 715, 716, 131, 108, 717, 718, 719, 720, 506, 146, 147, 804, 805, 806, 807, 808, 809, 810, 811, 812, 813, 814, 815, 816, 817, 818, 819, 820, 821, 822, 823, 824, 825, 826, 827, 828, 829, 830, 831, 832, 833, 834, 835, 836, 837, 838, 839, 840, 841, 842, 843, 844, 845, 846, 847, 848, 849, 850, 851, 852, 853, 854, 855, 856, 857] (by decide +kernel) (by decide +kernel)
set_option maxRecDepth 20000 in
theorem gL_law_X9_previous : GoodIn wsL_law (wsV RL 91 RX9 yX9_previous wsX9_previous) := goodIn_app (goodIn_of _ (by decide +kernel)) ggL_law_X9_previous
set_option maxRecDepth 20000 in
theorem ggL_law_X8_segmentCount : GoodIn wsL_law wsX8_segmentCount := goodIn_r _ [744, 15, 476, 290, 314, 315, 2, 316, 685, 686, 687, 688, 21, 689, 690, 691, 23, 692, 61, 693, 694, 695, 696, 323, 227, 228, 18, 229, 230, 50, 697, 698, 699, 700, 701, 223, 224, 14, 225, 38, 226, 231, 166, 167, 168, 40, 494, 495, 496, 497, 490, 28, 498, 499, 500, 501, 335, 797, 798, 799, 800, 801, 802, 803, 858, 859, 860, 861, 862, 863, 864, 865, 866] (by decide +kernel) (by decide +kernel)
set_option maxRecDepth 20000 in
theorem gL_law_X8_segmentCount : GoodIn wsL_law (wsV RL 92 RX8 yX8_segmentCount wsX8_segmentCount) := goodIn_app (goodIn_of _ (by decide +kernel)) ggL_law_X8_segmentCount
set_option maxRecDepth 20000 in
theorem ggL_law_X9_segmentCount : GoodIn wsL_law wsX9_segmentCount := goodIn_r _ [748, 749, 710, 711, 5, 712, 152, 153, 154, 750, 751, 752, 753, 132, 148, 595, 596, 597, 598, 133, 713, 714, 715, 716, 253, 131, 108, 717, 718, 719, 720, 506, 146, 147, 804, 805, 806, 807, 808, 809, 810, 811, 812, 813, 814, 815, 816, 817, 818, 819, 820, 821, 822, 823, 824, 825, 826, 827, 828, 829, 830, 831, 832, 833, 834, 835, 836, 837, 838, 839, 840, 841, 842, 843, 844, 845, 846, 847, 848, 849, 850, 851, 852, 853, 854, 855, 856, 857] (by decide +kernel) (by decide +kernel)
set_option maxRecDepth 20000 in
theorem gL_law_X9_segmentCount : GoodIn wsL_law (wsV RL 95 RX9 yX9_segmentCount wsX9_segmentCount) := goodIn_app (goodIn_of _ (by decide +kernel)) ggL_law_X9_segmentCount
set_option maxRecDepth 20000 in
theorem ggL_law_X8_segment : GoodIn wsL_law wsX8_segment := goodIn_r _ [757, 15, 476, 290, 314, 315, 2, 316, 685, 686, 687, 688, 21, 689, 690, 691, 23, 692, 61, 693, 694, 695, 696, 323, 227, 228, 18, 229, 230, 50, 697, 698, 699, 700, 701, 223, 224, 14, 225, 38, 226, 231, 166, 167, 168, 40, 494, 495, 496, 497, 490, 28, 498, 499, 500, 501, 335, 797, 798, 799, 800, 801, 802, 803, 858, 859, 860, 861, 862, 863, 864, 865, 866] (by decide +kernel) (by decide +kernel)
set_option maxRecDepth 20000 in
theorem gL_law_X8_segment : GoodIn wsL_law (wsV RL 96 RX8 yX8_segment wsX8_segment) := goodIn_app (goodIn_of _ (by decide +kernel)) ggL_law_X8_segment
set_option maxRecDepth 20000 in
theorem ggL_law_X9_segment : GoodIn wsL_law wsX9_segment := goodIn_r _ [761, 749, 148, 710, 711, 5, 712, 152, 153, 154, 750, 751, 752, 753, 132, 595, 596, 597, 598, 133, 713, 714, 715, 716, 253, 131, 108, 717, 718, 719, 720, 506, 146, 147, 804, 805, 806, 807, 808, 809, 810, 811, 812, 813, 814, 815, 816, 817, 818, 819, 820, 821, 822, 823, 824, 825, 826, 827, 828, 829, 830, 831, 832, 833, 834, 835, 836, 837, 838, 839, 840, 841, 842, 843, 844, 845, 846, 847, 848, 849, 850, 851, 852, 853, 854, 855, 856, 857] (by decide +kernel) (by decide +kernel)
set_option maxRecDepth 20000 in
theorem gL_law_X9_segment : GoodIn wsL_law (wsV RL 99 RX9 yX9_segment wsX9_segment) := goodIn_app (goodIn_of _ (by decide +kernel)) ggL_law_X9_segment
set_option maxRecDepth 20000 in
theorem ggL_law_X8_longest : GoodIn wsL_law wsX8_longest := goodIn_r _ [765, 15, 476, 290, 314, 315, 2, 316, 685, 686, 687, 688, 21, 689, 690, 691, 23, 692, 61, 693, 694, 695, 696, 323, 227, 228, 18, 229, 230, 50, 697, 698, 699, 700, 701, 223, 224, 14, 225, 38, 226, 231, 166, 167, 168, 40, 494, 495, 496, 497, 490, 28, 498, 499, 500, 501, 335, 797, 798, 799, 800, 801, 802, 803, 858, 859, 860, 861, 862, 863, 864, 865, 866] (by decide +kernel) (by decide +kernel)
set_option maxRecDepth 20000 in
theorem gL_law_X8_longest : GoodIn wsL_law (wsV RL 100 RX8 yX8_longest wsX8_longest) := goodIn_app (goodIn_of _ (by decide +kernel)) ggL_law_X8_longest
set_option maxRecDepth 20000 in
theorem ggL_law_X9_longest : GoodIn wsL_law wsX9_longest := goodIn_r _ [769, 749, 148, 710, 711, 5, 712, 152, 153, 154, 750, 751, 752, 753, 132, 595, 596, 597, 598, 133, 713, 714, 715, 716, 253, 131, 108, 717, 718, 719, 720, 506, 146, 147, 804, 805, 806, 807, 808, 809, 810, 811, 812, 813, 814, 815, 816, 817, 818, 819, 820, 821, 822, 823, 824, 825, 826, 827, 828, 829, 830, 831, 832, 833, 834, 835, 836, 837, 838, 839, 840, 841, 842, 843, 844, 845, 846, 847, 848, 849, 850, 851, 852, 853, 854, 855, 856, 857] (by decide +kernel) (by decide +kernel)
set_option maxRecDepth 20000 in
theorem gL_law_X9_longest : GoodIn wsL_law (wsV RL 103 RX9 yX9_longest wsX9_longest) := goodIn_app (goodIn_of _ (by decide +kernel)) ggL_law_X9_longest
set_option maxRecDepth 20000 in
theorem ggL_law_X8_segmentsWith : GoodIn wsL_law wsX8_segmentsWith := goodIn_r _ [773, 15, 476, 290, 314, 315, 2, 316, 162, 163, 164, 685, 686, 687, 688, 21, 689, 690, 691, 23, 692, 61, 693, 694, 695, 696, 323, 227, 228, 18, 229, 230, 50, 697, 698, 699, 700, 701, 223, 224, 14, 225, 38, 226, 231, 166, 167, 168, 40, 494, 495, 496, 497, 490, 28, 498, 499, 500, 501, 335, 797, 798, 799, 800, 801, 802, 803, 858, 859, 860, 861, 862, 863, 864, 865, 866] (by decide +kernel) (by decide +kernel)
set_option maxRecDepth 20000 in
theorem gL_law_X8_segmentsWith : GoodIn wsL_law (wsV RL 104 RX8 yX8_segmentsWith wsX8_segmentsWith) := goodIn_app (goodIn_of _ (by decide +kernel)) ggL_law_X8_segmentsWith
set_option maxRecDepth 20000 in
theorem ggL_law_X9_segmentsWith : GoodIn wsL_law wsX9_segmentsWith := goodIn_r _ [777, 749, 148, 108, 131, 710, 711, 5, 712, 152, 153, 154, 750, 751, 752, 753, 132, 595, 596, 597, 598, 133, 713, 714, 715, 716, 253, 717, 718, 719, 720, 506, 146, 147, 804, 805, 806, 807, 808, 809, 810, 811, 812, 813, 814, 815, 816, 817, 818, 819, 820, 821, 822, 823, 824, 825, 826, 827, 828, 829, 830, 831, 832, 833, 834, 835, 836, 837, 838, 839, 840, 841, 842, 843, 844, 845, 846, 847, 848, 849, 850, 851, 852, 853, 854, 855, 856, 857] (by decide +kernel) (by decide +kernel)
set_option maxRecDepth 20000 in
theorem gL_law_X9_segmentsWith : GoodIn wsL_law (wsV RL 107 RX9 yX9_segmentsWith wsX9_segmentsWith) := goodIn_app (goodIn_of _ (by decide +kernel)) ggL_law_X9_segmentsWith
set_option maxRecDepth 20000 in
theorem ggL_law_X8_looksAt : GoodIn wsL_law wsX8_looksAt := goodIn_r _ [781, 21, 15, 782, 314, 315, 2, 316, 623, 624, 625, 626, 476, 290, 783, 191, 192, 23, 193, 188, 189, 60, 194, 186, 46, 47, 48, 195, 196, 197, 198, 63, 199, 68, 200, 201, 202, 203, 204, 205, 76, 72, 206, 207, 208, 209, 210, 211, 212, 213, 214, 215, 216, 217, 218, 73, 219, 220, 221, 222, 223, 224, 14, 225, 38, 226, 227, 228, 18, 229, 230, 50, 231, 166, 167, 168, 40, 232, 233, 234, 235, 75, 163, 164, 236, 237, 238, 239, 74, 240, 241, 242, 243, 77, 244, 797, 798, 799, 800, 801, 802, 803, 862, 863, 864, 865, 866, 858, 859, 860, 861, 875, 876, 877, 878, 879, 880, 881, 882, 883, 884, 885, 886] (by decide +kernel) (by decide +kernel)
set_option maxRecDepth 20000 in
theorem gL_law_X8_looksAt : GoodIn wsL_law (wsV RL 108 RX8 yX8_looksAt wsX8_looksAt) := goodIn_app (goodIn_of _ (by decide +kernel)) ggL_law_X8_looksAt
set_option maxRecDepth 20000 in
theorem ggL_law_X9_looksAt : GoodIn wsL_law wsX9_looksAt := goodIn_r _ [787, 253, 710, 711, 5, 712, 152, 153, 154, 599, 600, 601, 602, 120, 603, 604, 605, 606, 126, 125, 129, 127, 266, 267, 268, 269, 108, 131, 122, 274, 275, 276, 277, 123, 804, 805, 806, 807, 808, 809, 810, 811, 812, 813, 814, 815, 816, 817, 818, 819, 820, 821, 822, 823, 824, 825, 826, 827, 828, 829, 830, 831, 832, 833, 834, 835, 836, 837, 838, 839, 840, 841, 842, 843, 844, 845, 846, 847, 848, 849, 850, 851, 852, 853, 854, 855, 856, 857] (by decide +kernel) (by decide +kernel)
set_option maxRecDepth 20000 in
theorem gL_law_X9_looksAt : GoodIn wsL_law (wsV RL 111 RX9 yX9_looksAt wsX9_looksAt) := goodIn_app (goodIn_of _ (by decide +kernel)) ggL_law_X9_looksAt
set_option maxRecDepth 20000 in
theorem ggL_law_X8_work : GoodIn wsL_law wsX8_work := goodIn_r _ [791, 21, 792, 314, 315, 2, 316, 797, 798, 799, 800, 801, 802, 803, 862, 863, 864, 865, 866] (by decide +kernel) (by decide +kernel)
set_option maxRecDepth 20000 in
theorem gL_law_X8_work : GoodIn wsL_law (wsV RL 112 RX8 yX8_work wsX8_work) := goodIn_app (goodIn_of _ (by decide +kernel)) ggL_law_X8_work
set_option maxRecDepth 20000 in
theorem ggL_law_X9_work : GoodIn wsL_law wsX9_work := goodIn_r _ [796, 134, 710, 711, 5, 712, 152, 153, 154, 804, 805, 806, 807, 808, 809, 810, 811, 812, 813, 814, 815, 816, 817, 818, 819, 820, 821, 822, 823, 824, 825, 826, 827, 828, 829, 830, 831, 832, 833, 834, 835, 836, 837, 838, 839, 840, 841, 842, 843, 844, 845, 846, 847, 848, 849, 850, 851, 852, 853, 854, 855, 856, 857] (by decide +kernel) (by decide +kernel)
set_option maxRecDepth 20000 in
theorem gL_law_X9_work : GoodIn wsL_law (wsV RL 115 RX9 yX9_work wsX9_work) := goodIn_app (goodIn_of _ (by decide +kernel)) ggL_law_X9_work
theorem dL_law_0 : decode cL_law 0 = .ok (.new 7, 3) := by decide +kernel
theorem dL_law_3 : decode cL_law 3 = .ok (.dup, 1) := by decide +kernel
theorem dL_law_4 : decode cL_law 4 = .ok (.invokespecial 9, 3) := by decide +kernel
theorem dL_law_7 : decode cL_law 7 = .ok (.astore_n 1, 1) := by decide +kernel
theorem dL_law_8 : decode cL_law 8 = .ok (.new 10, 3) := by decide +kernel
theorem dL_law_11 : decode cL_law 11 = .ok (.dup, 1) := by decide +kernel
theorem dL_law_12 : decode cL_law 12 = .ok (.invokespecial 12, 3) := by decide +kernel
theorem dL_law_15 : decode cL_law 15 = .ok (.astore_n 2, 1) := by decide +kernel
theorem dL_law_16 : decode cL_law 16 = .ok (.iconst 0, 1) := by decide +kernel
theorem dL_law_17 : decode cL_law 17 = .ok (.istore_n 3, 1) := by decide +kernel
theorem dL_law_18 : decode cL_law 18 = .ok (.iload_n 3, 1) := by decide +kernel
theorem dL_law_19 : decode cL_law 19 = .ok (.aload_n 0, 1) := by decide +kernel
theorem dL_law_20 : decode cL_law 20 = .ok (.arraylength, 1) := by decide +kernel
theorem dL_law_21 : decode cL_law 21 = .ok (.iconst 4, 1) := by decide +kernel
theorem dL_law_22 : decode cL_law 22 = .ok (.isub, 1) := by decide +kernel
theorem dL_law_23 : decode cL_law 23 = .ok (.if_icmp .gt 777, 3) := by decide +kernel
theorem dL_law_26 : decode cL_law 26 = .ok (.aload_n 0, 1) := by decide +kernel
theorem dL_law_27 : decode cL_law 27 = .ok (.iload_n 3, 1) := by decide +kernel
theorem dL_law_28 : decode cL_law 28 = .ok (.iaload, 1) := by decide +kernel
theorem dL_law_29 : decode cL_law 29 = .ok (.bipush 31, 2) := by decide +kernel
theorem dL_law_31 : decode cL_law 31 = .ok (.iand, 1) := by decide +kernel
theorem dL_law_32 : decode cL_law 32 = .ok (.tableswitch 762 0 23 #[112, 147, 172, 197, 210, 243, 286, 329, 342, 355, 390, 423, 436, 449, 472, 495, 528, 561, 594, 617, 650, 673, 706, 739], 112) := by decide +kernel
theorem dL_law_144 : decode cL_law 144 = .ok (.aload_n 1, 1) := by decide +kernel
theorem dL_law_145 : decode cL_law 145 = .ok (.aload_n 0, 1) := by decide +kernel
theorem dL_law_146 : decode cL_law 146 = .ok (.iload_n 3, 1) := by decide +kernel
theorem dL_law_147 : decode cL_law 147 = .ok (.iconst 1, 1) := by decide +kernel
theorem dL_law_148 : decode cL_law 148 = .ok (.iadd, 1) := by decide +kernel
theorem dL_law_149 : decode cL_law 149 = .ok (.iaload, 1) := by decide +kernel
theorem dL_law_150 : decode cL_law 150 = .ok (.i2c, 1) := by decide +kernel
theorem dL_law_151 : decode cL_law 151 = .ok (.aload_n 0, 1) := by decide +kernel
theorem dL_law_152 : decode cL_law 152 = .ok (.iload_n 3, 1) := by decide +kernel
theorem dL_law_153 : decode cL_law 153 = .ok (.iconst 2, 1) := by decide +kernel
theorem dL_law_154 : decode cL_law 154 = .ok (.iadd, 1) := by decide +kernel
theorem dL_law_155 : decode cL_law 155 = .ok (.iaload, 1) := by decide +kernel
theorem dL_law_156 : decode cL_law 156 = .ok (.invokevirtual 13, 3) := by decide +kernel
theorem dL_law_159 : decode cL_law 159 = .ok (.aload_n 2, 1) := by decide +kernel
theorem dL_law_160 : decode cL_law 160 = .ok (.aload_n 0, 1) := by decide +kernel
theorem dL_law_161 : decode cL_law 161 = .ok (.iload_n 3, 1) := by decide +kernel
theorem dL_law_162 : decode cL_law 162 = .ok (.iconst 1, 1) := by decide +kernel
theorem dL_law_163 : decode cL_law 163 = .ok (.iadd, 1) := by decide +kernel
theorem dL_law_164 : decode cL_law 164 = .ok (.iaload, 1) := by decide +kernel
theorem dL_law_165 : decode cL_law 165 = .ok (.i2c, 1) := by decide +kernel
theorem dL_law_166 : decode cL_law 166 = .ok (.aload_n 0, 1) := by decide +kernel
theorem dL_law_167 : decode cL_law 167 = .ok (.iload_n 3, 1) := by decide +kernel
theorem dL_law_168 : decode cL_law 168 = .ok (.iconst 2, 1) := by decide +kernel
theorem dL_law_169 : decode cL_law 169 = .ok (.iadd, 1) := by decide +kernel
theorem dL_law_170 : decode cL_law 170 = .ok (.iaload, 1) := by decide +kernel
theorem dL_law_171 : decode cL_law 171 = .ok (.invokevirtual 17, 3) := by decide +kernel
theorem dL_law_174 : decode cL_law 174 = .ok (.if_icmp .eq 620, 3) := by decide +kernel
theorem dL_law_177 : decode cL_law 177 = .ok (.iconst 0, 1) := by decide +kernel
theorem dL_law_178 : decode cL_law 178 = .ok (.ireturn, 1) := by decide +kernel
theorem dL_law_179 : decode cL_law 179 = .ok (.aload_n 1, 1) := by decide +kernel
theorem dL_law_180 : decode cL_law 180 = .ok (.aload_n 0, 1) := by decide +kernel
theorem dL_law_181 : decode cL_law 181 = .ok (.iload_n 3, 1) := by decide +kernel
theorem dL_law_182 : decode cL_law 182 = .ok (.iconst 1, 1) := by decide +kernel
theorem dL_law_183 : decode cL_law 183 = .ok (.iadd, 1) := by decide +kernel
theorem dL_law_184 : decode cL_law 184 = .ok (.iaload, 1) := by decide +kernel
theorem dL_law_185 : decode cL_law 185 = .ok (.i2c, 1) := by decide +kernel
theorem dL_law_186 : decode cL_law 186 = .ok (.invokevirtual 18, 3) := by decide +kernel
theorem dL_law_189 : decode cL_law 189 = .ok (.aload_n 2, 1) := by decide +kernel
theorem dL_law_190 : decode cL_law 190 = .ok (.aload_n 0, 1) := by decide +kernel
theorem dL_law_191 : decode cL_law 191 = .ok (.iload_n 3, 1) := by decide +kernel
theorem dL_law_192 : decode cL_law 192 = .ok (.iconst 1, 1) := by decide +kernel
theorem dL_law_193 : decode cL_law 193 = .ok (.iadd, 1) := by decide +kernel
theorem dL_law_194 : decode cL_law 194 = .ok (.iaload, 1) := by decide +kernel
theorem dL_law_195 : decode cL_law 195 = .ok (.i2c, 1) := by decide +kernel
theorem dL_law_196 : decode cL_law 196 = .ok (.invokevirtual 22, 3) := by decide +kernel
theorem dL_law_199 : decode cL_law 199 = .ok (.if_icmp .eq 595, 3) := by decide +kernel
theorem dL_law_202 : decode cL_law 202 = .ok (.iconst 0, 1) := by decide +kernel
theorem dL_law_203 : decode cL_law 203 = .ok (.ireturn, 1) := by decide +kernel
theorem dL_law_204 : decode cL_law 204 = .ok (.aload_n 1, 1) := by decide +kernel
theorem dL_law_205 : decode cL_law 205 = .ok (.aload_n 0, 1) := by decide +kernel
theorem dL_law_206 : decode cL_law 206 = .ok (.iload_n 3, 1) := by decide +kernel
theorem dL_law_207 : decode cL_law 207 = .ok (.iconst 1, 1) := by decide +kernel
theorem dL_law_208 : decode cL_law 208 = .ok (.iadd, 1) := by decide +kernel
theorem dL_law_209 : decode cL_law 209 = .ok (.iaload, 1) := by decide +kernel
theorem dL_law_210 : decode cL_law 210 = .ok (.i2c, 1) := by decide +kernel
theorem dL_law_211 : decode cL_law 211 = .ok (.invokevirtual 23, 3) := by decide +kernel
theorem dL_law_214 : decode cL_law 214 = .ok (.aload_n 2, 1) := by decide +kernel
theorem dL_law_215 : decode cL_law 215 = .ok (.aload_n 0, 1) := by decide +kernel
theorem dL_law_216 : decode cL_law 216 = .ok (.iload_n 3, 1) := by decide +kernel
theorem dL_law_217 : decode cL_law 217 = .ok (.iconst 1, 1) := by decide +kernel
theorem dL_law_218 : decode cL_law 218 = .ok (.iadd, 1) := by decide +kernel
theorem dL_law_219 : decode cL_law 219 = .ok (.iaload, 1) := by decide +kernel
theorem dL_law_220 : decode cL_law 220 = .ok (.i2c, 1) := by decide +kernel
theorem dL_law_221 : decode cL_law 221 = .ok (.invokevirtual 26, 3) := by decide +kernel
theorem dL_law_224 : decode cL_law 224 = .ok (.if_icmp .eq 570, 3) := by decide +kernel
theorem dL_law_227 : decode cL_law 227 = .ok (.iconst 0, 1) := by decide +kernel
theorem dL_law_228 : decode cL_law 228 = .ok (.ireturn, 1) := by decide +kernel
theorem dL_law_229 : decode cL_law 229 = .ok (.aload_n 1, 1) := by decide +kernel
theorem dL_law_230 : decode cL_law 230 = .ok (.invokevirtual 27, 3) := by decide +kernel
theorem dL_law_233 : decode cL_law 233 = .ok (.aload_n 2, 1) := by decide +kernel
theorem dL_law_234 : decode cL_law 234 = .ok (.invokevirtual 31, 3) := by decide +kernel
theorem dL_law_237 : decode cL_law 237 = .ok (.if_icmp .eq 557, 3) := by decide +kernel
theorem dL_law_240 : decode cL_law 240 = .ok (.iconst 0, 1) := by decide +kernel
theorem dL_law_241 : decode cL_law 241 = .ok (.ireturn, 1) := by decide +kernel
theorem dL_law_242 : decode cL_law 242 = .ok (.aload_n 1, 1) := by decide +kernel
theorem dL_law_243 : decode cL_law 243 = .ok (.aload_n 0, 1) := by decide +kernel
theorem dL_law_244 : decode cL_law 244 = .ok (.iload_n 3, 1) := by decide +kernel
theorem dL_law_245 : decode cL_law 245 = .ok (.iconst 1, 1) := by decide +kernel
theorem dL_law_246 : decode cL_law 246 = .ok (.iadd, 1) := by decide +kernel
theorem dL_law_247 : decode cL_law 247 = .ok (.iaload, 1) := by decide +kernel
theorem dL_law_248 : decode cL_law 248 = .ok (.aload_n 0, 1) := by decide +kernel
theorem dL_law_249 : decode cL_law 249 = .ok (.iload_n 3, 1) := by decide +kernel
theorem dL_law_250 : decode cL_law 250 = .ok (.iconst 2, 1) := by decide +kernel
theorem dL_law_251 : decode cL_law 251 = .ok (.iadd, 1) := by decide +kernel
theorem dL_law_252 : decode cL_law 252 = .ok (.iaload, 1) := by decide +kernel
theorem dL_law_253 : decode cL_law 253 = .ok (.invokevirtual 32, 3) := by decide +kernel
theorem dL_law_256 : decode cL_law 256 = .ok (.aload_n 2, 1) := by decide +kernel
theorem dL_law_257 : decode cL_law 257 = .ok (.aload_n 0, 1) := by decide +kernel
theorem dL_law_258 : decode cL_law 258 = .ok (.iload_n 3, 1) := by decide +kernel
theorem dL_law_259 : decode cL_law 259 = .ok (.iconst 1, 1) := by decide +kernel
theorem dL_law_260 : decode cL_law 260 = .ok (.iadd, 1) := by decide +kernel
theorem dL_law_261 : decode cL_law 261 = .ok (.iaload, 1) := by decide +kernel
theorem dL_law_262 : decode cL_law 262 = .ok (.aload_n 0, 1) := by decide +kernel
theorem dL_law_263 : decode cL_law 263 = .ok (.iload_n 3, 1) := by decide +kernel
theorem dL_law_264 : decode cL_law 264 = .ok (.iconst 2, 1) := by decide +kernel
theorem dL_law_265 : decode cL_law 265 = .ok (.iadd, 1) := by decide +kernel
theorem dL_law_266 : decode cL_law 266 = .ok (.iaload, 1) := by decide +kernel
theorem dL_law_267 : decode cL_law 267 = .ok (.invokevirtual 36, 3) := by decide +kernel
theorem dL_law_270 : decode cL_law 270 = .ok (.if_icmp .eq 524, 3) := by decide +kernel
theorem dL_law_273 : decode cL_law 273 = .ok (.iconst 0, 1) := by decide +kernel
theorem dL_law_274 : decode cL_law 274 = .ok (.ireturn, 1) := by decide +kernel
theorem dL_law_275 : decode cL_law 275 = .ok (.aload_n 1, 1) := by decide +kernel
theorem dL_law_276 : decode cL_law 276 = .ok (.aload_n 0, 1) := by decide +kernel
theorem dL_law_277 : decode cL_law 277 = .ok (.iload_n 3, 1) := by decide +kernel
theorem dL_law_278 : decode cL_law 278 = .ok (.iconst 1, 1) := by decide +kernel
theorem dL_law_279 : decode cL_law 279 = .ok (.iadd, 1) := by decide +kernel
theorem dL_law_280 : decode cL_law 280 = .ok (.iaload, 1) := by decide +kernel
theorem dL_law_281 : decode cL_law 281 = .ok (.aload_n 0, 1) := by decide +kernel
theorem dL_law_282 : decode cL_law 282 = .ok (.iload_n 3, 1) := by decide +kernel
theorem dL_law_283 : decode cL_law 283 = .ok (.iconst 2, 1) := by decide +kernel
theorem dL_law_284 : decode cL_law 284 = .ok (.iadd, 1) := by decide +kernel
theorem dL_law_285 : decode cL_law 285 = .ok (.iaload, 1) := by decide +kernel
theorem dL_law_286 : decode cL_law 286 = .ok (.aload_n 0, 1) := by decide +kernel
theorem dL_law_287 : decode cL_law 287 = .ok (.iload_n 3, 1) := by decide +kernel
theorem dL_law_288 : decode cL_law 288 = .ok (.iconst 3, 1) := by decide +kernel
theorem dL_law_289 : decode cL_law 289 = .ok (.iadd, 1) := by decide +kernel
theorem dL_law_290 : decode cL_law 290 = .ok (.iaload, 1) := by decide +kernel
theorem dL_law_291 : decode cL_law 291 = .ok (.invokevirtual 37, 3) := by decide +kernel
theorem dL_law_294 : decode cL_law 294 = .ok (.aload_n 2, 1) := by decide +kernel
theorem dL_law_295 : decode cL_law 295 = .ok (.aload_n 0, 1) := by decide +kernel
theorem dL_law_296 : decode cL_law 296 = .ok (.iload_n 3, 1) := by decide +kernel
theorem dL_law_297 : decode cL_law 297 = .ok (.iconst 1, 1) := by decide +kernel
theorem dL_law_298 : decode cL_law 298 = .ok (.iadd, 1) := by decide +kernel
theorem dL_law_299 : decode cL_law 299 = .ok (.iaload, 1) := by decide +kernel
theorem dL_law_300 : decode cL_law 300 = .ok (.aload_n 0, 1) := by decide +kernel
theorem dL_law_301 : decode cL_law 301 = .ok (.iload_n 3, 1) := by decide +kernel
theorem dL_law_302 : decode cL_law 302 = .ok (.iconst 2, 1) := by decide +kernel
theorem dL_law_303 : decode cL_law 303 = .ok (.iadd, 1) := by decide +kernel
theorem dL_law_304 : decode cL_law 304 = .ok (.iaload, 1) := by decide +kernel
theorem dL_law_305 : decode cL_law 305 = .ok (.aload_n 0, 1) := by decide +kernel
theorem dL_law_306 : decode cL_law 306 = .ok (.iload_n 3, 1) := by decide +kernel
theorem dL_law_307 : decode cL_law 307 = .ok (.iconst 3, 1) := by decide +kernel
theorem dL_law_308 : decode cL_law 308 = .ok (.iadd, 1) := by decide +kernel
theorem dL_law_309 : decode cL_law 309 = .ok (.iaload, 1) := by decide +kernel
theorem dL_law_310 : decode cL_law 310 = .ok (.invokevirtual 41, 3) := by decide +kernel
theorem dL_law_313 : decode cL_law 313 = .ok (.if_icmp .eq 481, 3) := by decide +kernel
theorem dL_law_316 : decode cL_law 316 = .ok (.iconst 0, 1) := by decide +kernel
theorem dL_law_317 : decode cL_law 317 = .ok (.ireturn, 1) := by decide +kernel
