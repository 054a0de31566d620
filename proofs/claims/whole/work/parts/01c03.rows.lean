theorem dX8_value_56 : decode cX8_value 56 = .ok (.getfield 131, 3) := by decide +kernel
theorem dX8_value_59 : decode cX8_value 59 = .ok (.ireturn, 1) := by decide +kernel
theorem dX8_value_60 : decode cX8_value 60 = .ok (.aload_n 0, 1) := by decide +kernel
theorem dX8_value_61 : decode cX8_value 61 = .ok (.getfield 46, 3) := by decide +kernel
theorem dX8_value_64 : decode cX8_value 64 = .ok (.getfield 156, 3) := by decide +kernel
theorem dX8_value_67 : decode cX8_value 67 = .ok (.ireturn, 1) := by decide +kernel
theorem dX8_value_68 : decode cX8_value 68 = .ok (.aload_n 0, 1) := by decide +kernel
theorem dX8_value_69 : decode cX8_value 69 = .ok (.getfield 46, 3) := by decide +kernel
theorem dX8_value_72 : decode cX8_value 72 = .ok (.getfield 162, 3) := by decide +kernel
theorem dX8_value_75 : decode cX8_value 75 = .ok (.ireturn, 1) := by decide +kernel
theorem dX8_value_76 : decode cX8_value 76 = .ok (.bipush (-2), 2) := by decide +kernel
theorem dX8_value_78 : decode cX8_value 78 = .ok (.ireturn, 1) := by decide +kernel
set_option maxRecDepth 20000 in
theorem ggX8_boundaryAt_X8_isKind : GoodIn wsX8_boundaryAt wsX8_isKind := goodIn_r _ [4] (by decide +kernel) (by decide +kernel)
set_option maxRecDepth 20000 in
theorem gX8_boundaryAt_X8_isKind : GoodIn wsX8_boundaryAt (va_wsS RX8 78 yX8_isKind wsX8_isKind) := goodIn_app (goodIn_of _ (by decide +kernel)) ggX8_boundaryAt_X8_isKind
set_option maxRecDepth 20000 in
theorem ggX8_boundaryAt_X8_isPosition : GoodIn wsX8_boundaryAt wsX8_isPosition := goodIn_r _ [8, 9, 10, 11, 61, 62, 63, 64, 65, 66, 67, 68, 69, 70, 71] (by decide +kernel) (by decide +kernel)
set_option maxRecDepth 20000 in
theorem gX8_boundaryAt_X8_isPosition : GoodIn wsX8_boundaryAt (wsV RX8 113 RX8 yX8_isPosition wsX8_isPosition) := goodIn_app (goodIn_of _ (by decide +kernel)) ggX8_boundaryAt_X8_isPosition
set_option maxRecDepth 20000 in
theorem ggX8_boundaryAt_X8_stateAt : GoodIn wsX8_boundaryAt wsX8_stateAt := goodIn_r _ [15, 16, 9, 10, 11, 17, 18, 19, 20, 21, 22, 23, 24, 25, 3, 26, 27, 28, 29, 30, 31, 32, 33, 34, 35, 36, 37, 38, 39, 40, 41, 42, 43, 44, 45, 46, 47, 48, 49, 50, 51, 52, 53, 54, 55, 56, 57, 58, 59, 60, 61, 62, 63, 64, 65, 66, 67, 68, 69, 70, 71, 72, 73, 74, 75, 76] (by decide +kernel) (by decide +kernel)
set_option maxRecDepth 20000 in
theorem gX8_boundaryAt_X8_stateAt : GoodIn wsX8_boundaryAt (wsV RX8 168 RX8 yX8_stateAt wsX8_stateAt) := goodIn_app (goodIn_of _ (by decide +kernel)) ggX8_boundaryAt_X8_stateAt
theorem dX8_boundaryAt_0 : decode cX8_boundaryAt 0 = .ok (.iload_n 1, 1) := by decide +kernel
theorem dX8_boundaryAt_1 : decode cX8_boundaryAt 1 = .ok (.invokestatic 78, 3) := by decide +kernel
theorem dX8_boundaryAt_4 : decode cX8_boundaryAt 4 = .ok (.ifCond .ne 6, 3) := by decide +kernel
theorem dX8_boundaryAt_7 : decode cX8_boundaryAt 7 = .ok (.bipush (-2), 2) := by decide +kernel
theorem dX8_boundaryAt_9 : decode cX8_boundaryAt 9 = .ok (.ireturn, 1) := by decide +kernel
theorem dX8_boundaryAt_10 : decode cX8_boundaryAt 10 = .ok (.aload_n 0, 1) := by decide +kernel
theorem dX8_boundaryAt_11 : decode cX8_boundaryAt 11 = .ok (.iload_n 2, 1) := by decide +kernel
theorem dX8_boundaryAt_12 : decode cX8_boundaryAt 12 = .ok (.invokevirtual 113, 3) := by decide +kernel
theorem dX8_boundaryAt_15 : decode cX8_boundaryAt 15 = .ok (.ifCond .eq 12, 3) := by decide +kernel
theorem dX8_boundaryAt_18 : decode cX8_boundaryAt 18 = .ok (.aload_n 0, 1) := by decide +kernel
theorem dX8_boundaryAt_19 : decode cX8_boundaryAt 19 = .ok (.iload_n 1, 1) := by decide +kernel
theorem dX8_boundaryAt_20 : decode cX8_boundaryAt 20 = .ok (.iload_n 2, 1) := by decide +kernel
theorem dX8_boundaryAt_21 : decode cX8_boundaryAt 21 = .ok (.invokevirtual 168, 3) := by decide +kernel
theorem dX8_boundaryAt_24 : decode cX8_boundaryAt 24 = .ok (.goto 4, 3) := by decide +kernel
theorem dX8_boundaryAt_27 : decode cX8_boundaryAt 27 = .ok (.iconst (-1), 1) := by decide +kernel
theorem dX8_boundaryAt_28 : decode cX8_boundaryAt 28 = .ok (.ireturn, 1) := by decide +kernel
set_option maxRecDepth 20000 in
theorem ggX8_next_X8_isKind : GoodIn wsX8_next wsX8_isKind := goodIn_r _ [4] (by decide +kernel) (by decide +kernel)
set_option maxRecDepth 20000 in
theorem gX8_next_X8_isKind : GoodIn wsX8_next (va_wsS RX8 78 yX8_isKind wsX8_isKind) := goodIn_app (goodIn_of _ (by decide +kernel)) ggX8_next_X8_isKind
set_option maxRecDepth 20000 in
theorem ggX8_next_X8_isPosition : GoodIn wsX8_next wsX8_isPosition := goodIn_r _ [8, 9, 10, 11, 65, 66, 67, 68, 69, 70, 71, 72, 73, 74, 75] (by decide +kernel) (by decide +kernel)
set_option maxRecDepth 20000 in
theorem gX8_next_X8_isPosition : GoodIn wsX8_next (wsV RX8 113 RX8 yX8_isPosition wsX8_isPosition) := goodIn_app (goodIn_of _ (by decide +kernel)) ggX8_next_X8_isPosition
set_option maxRecDepth 20000 in
theorem ggX8_next_X8_boundaryBehind : GoodIn wsX8_next wsX8_boundaryBehind := goodIn_r _ [15, 9, 10, 11, 16, 17, 18, 3, 19, 20, 21, 22, 23, 24, 25, 26, 27, 28, 29, 30, 31, 32, 33, 34, 35, 36, 37, 38, 39, 40, 41, 42, 43, 44, 45, 46, 47, 48, 49, 50, 51, 52, 53, 54, 55, 56, 57, 58, 59, 60, 61, 62, 63, 64, 65, 66, 67, 68, 69, 70, 71, 72, 73, 74, 75, 76, 77, 78, 79, 80] (by decide +kernel) (by decide +kernel)
set_option maxRecDepth 20000 in
theorem gX8_next_X8_boundaryBehind : GoodIn wsX8_next (wsV RX8 172 RX8 yX8_boundaryBehind wsX8_boundaryBehind) := goodIn_app (goodIn_of _ (by decide +kernel)) ggX8_next_X8_boundaryBehind
theorem dX8_next_0 : decode cX8_next 0 = .ok (.iload_n 1, 1) := by decide +kernel
theorem dX8_next_1 : decode cX8_next 1 = .ok (.invokestatic 78, 3) := by decide +kernel
theorem dX8_next_4 : decode cX8_next 4 = .ok (.ifCond .ne 6, 3) := by decide +kernel
theorem dX8_next_7 : decode cX8_next 7 = .ok (.bipush (-2), 2) := by decide +kernel
theorem dX8_next_9 : decode cX8_next 9 = .ok (.ireturn, 1) := by decide +kernel
theorem dX8_next_10 : decode cX8_next 10 = .ok (.aload_n 0, 1) := by decide +kernel
theorem dX8_next_11 : decode cX8_next 11 = .ok (.iload_n 2, 1) := by decide +kernel
theorem dX8_next_12 : decode cX8_next 12 = .ok (.invokevirtual 113, 3) := by decide +kernel
theorem dX8_next_15 : decode cX8_next 15 = .ok (.ifCond .eq 12, 3) := by decide +kernel
theorem dX8_next_18 : decode cX8_next 18 = .ok (.aload_n 0, 1) := by decide +kernel
theorem dX8_next_19 : decode cX8_next 19 = .ok (.iload_n 1, 1) := by decide +kernel
theorem dX8_next_20 : decode cX8_next 20 = .ok (.iload_n 2, 1) := by decide +kernel
theorem dX8_next_21 : decode cX8_next 21 = .ok (.invokevirtual 172, 3) := by decide +kernel
theorem dX8_next_24 : decode cX8_next 24 = .ok (.goto 4, 3) := by decide +kernel
theorem dX8_next_27 : decode cX8_next 27 = .ok (.iconst (-1), 1) := by decide +kernel
theorem dX8_next_28 : decode cX8_next 28 = .ok (.ireturn, 1) := by decide +kernel
set_option maxRecDepth 20000 in
theorem ggX8_previous_X8_isKind : GoodIn wsX8_previous wsX8_isKind := goodIn_r _ [4] (by decide +kernel) (by decide +kernel)
set_option maxRecDepth 20000 in
theorem gX8_previous_X8_isKind : GoodIn wsX8_previous (va_wsS RX8 78 yX8_isKind wsX8_isKind) := goodIn_app (goodIn_of _ (by decide +kernel)) ggX8_previous_X8_isKind
set_option maxRecDepth 20000 in
theorem ggX8_previous_X8_isPosition : GoodIn wsX8_previous wsX8_isPosition := goodIn_r _ [8, 9, 10, 11, 61, 62, 63, 64, 65, 66, 67, 68, 69, 70, 71] (by decide +kernel) (by decide +kernel)
set_option maxRecDepth 20000 in
theorem gX8_previous_X8_isPosition : GoodIn wsX8_previous (wsV RX8 113 RX8 yX8_isPosition wsX8_isPosition) := goodIn_app (goodIn_of _ (by decide +kernel)) ggX8_previous_X8_isPosition
set_option maxRecDepth 20000 in
theorem ggX8_previous_X8_stateAt : GoodIn wsX8_previous wsX8_stateAt := goodIn_r _ [15, 16, 9, 10, 11, 17, 18, 19, 20, 21, 22, 23, 24, 25, 3, 26, 27, 28, 29, 30, 31, 32, 33, 34, 35, 36, 37, 38, 39, 40, 41, 42, 43, 44, 45, 46, 47, 48, 49, 50, 51, 52, 53, 54, 55, 56, 57, 58, 59, 60, 61, 62, 63, 64, 65, 66, 67, 68, 69, 70, 71, 72, 73, 74, 75, 76] (by decide +kernel) (by decide +kernel)
set_option maxRecDepth 20000 in
theorem gX8_previous_X8_stateAt : GoodIn wsX8_previous (wsV RX8 168 RX8 yX8_stateAt wsX8_stateAt) := goodIn_app (goodIn_of _ (by decide +kernel)) ggX8_previous_X8_stateAt
theorem dX8_previous_0 : decode cX8_previous 0 = .ok (.iload_n 1, 1) := by decide +kernel
theorem dX8_previous_1 : decode cX8_previous 1 = .ok (.invokestatic 78, 3) := by decide +kernel
theorem dX8_previous_4 : decode cX8_previous 4 = .ok (.ifCond .ne 6, 3) := by decide +kernel
theorem dX8_previous_7 : decode cX8_previous 7 = .ok (.bipush (-2), 2) := by decide +kernel
theorem dX8_previous_9 : decode cX8_previous 9 = .ok (.ireturn, 1) := by decide +kernel
theorem dX8_previous_10 : decode cX8_previous 10 = .ok (.aload_n 0, 1) := by decide +kernel
theorem dX8_previous_11 : decode cX8_previous 11 = .ok (.iload_n 2, 1) := by decide +kernel
theorem dX8_previous_12 : decode cX8_previous 12 = .ok (.invokevirtual 113, 3) := by decide +kernel
theorem dX8_previous_15 : decode cX8_previous 15 = .ok (.ifCond .ne 5, 3) := by decide +kernel
theorem dX8_previous_18 : decode cX8_previous 18 = .ok (.iconst (-1), 1) := by decide +kernel
theorem dX8_previous_19 : decode cX8_previous 19 = .ok (.ireturn, 1) := by decide +kernel
theorem dX8_previous_20 : decode cX8_previous 20 = .ok (.iload_n 2, 1) := by decide +kernel
theorem dX8_previous_21 : decode cX8_previous 21 = .ok (.iconst 1, 1) := by decide +kernel
theorem dX8_previous_22 : decode cX8_previous 22 = .ok (.isub, 1) := by decide +kernel
theorem dX8_previous_23 : decode cX8_previous 23 = .ok (.istore_n 3, 1) := by decide +kernel
theorem dX8_previous_24 : decode cX8_previous 24 = .ok (.iload_n 3, 1) := by decide +kernel
theorem dX8_previous_25 : decode cX8_previous 25 = .ok (.ifCond .lt 21, 3) := by decide +kernel
theorem dX8_previous_28 : decode cX8_previous 28 = .ok (.aload_n 0, 1) := by decide +kernel
theorem dX8_previous_29 : decode cX8_previous 29 = .ok (.iload_n 1, 1) := by decide +kernel
theorem dX8_previous_30 : decode cX8_previous 30 = .ok (.iload_n 3, 1) := by decide +kernel
theorem dX8_previous_31 : decode cX8_previous 31 = .ok (.invokevirtual 168, 3) := by decide +kernel
theorem dX8_previous_34 : decode cX8_previous 34 = .ok (.iconst 1, 1) := by decide +kernel
theorem dX8_previous_35 : decode cX8_previous 35 = .ok (.if_icmp .ne 5, 3) := by decide +kernel
theorem dX8_previous_38 : decode cX8_previous 38 = .ok (.iload_n 3, 1) := by decide +kernel
theorem dX8_previous_39 : decode cX8_previous 39 = .ok (.ireturn, 1) := by decide +kernel
theorem dX8_previous_40 : decode cX8_previous 40 = .ok (.iinc 3 (-1), 3) := by decide +kernel
theorem dX8_previous_43 : decode cX8_previous 43 = .ok (.goto (-19), 3) := by decide +kernel
theorem dX8_previous_46 : decode cX8_previous 46 = .ok (.bipush (-5), 2) := by decide +kernel
theorem dX8_previous_48 : decode cX8_previous 48 = .ok (.ireturn, 1) := by decide +kernel
set_option maxRecDepth 20000 in
theorem ggX8_segmentCount_X8_isKind : GoodIn wsX8_segmentCount wsX8_isKind := goodIn_r _ [7] (by decide +kernel) (by decide +kernel)
set_option maxRecDepth 20000 in
theorem gX8_segmentCount_X8_isKind : GoodIn wsX8_segmentCount (va_wsS RX8 78 yX8_isKind wsX8_isKind) := goodIn_app (goodIn_of _ (by decide +kernel)) ggX8_segmentCount_X8_isKind
set_option maxRecDepth 20000 in
theorem ggX8_segmentCount_X8_stateAt : GoodIn wsX8_segmentCount wsX8_stateAt := goodIn_r _ [11, 12, 1, 2, 3, 13, 14, 15, 16, 17, 18, 19, 20, 21, 6, 22, 23, 24, 25, 26, 27, 28, 29, 30, 31, 32, 33, 34, 35, 36, 37, 38, 39, 40, 41, 42, 43, 44, 45, 46, 47, 48, 49, 50, 51, 52, 53, 54, 55, 56, 57, 58, 59, 60, 61, 62, 63, 64, 65, 66, 67, 68, 69, 70, 71, 72] (by decide +kernel) (by decide +kernel)
set_option maxRecDepth 20000 in
theorem gX8_segmentCount_X8_stateAt : GoodIn wsX8_segmentCount (wsV RX8 168 RX8 yX8_stateAt wsX8_stateAt) := goodIn_app (goodIn_of _ (by decide +kernel)) ggX8_segmentCount_X8_stateAt
theorem dX8_segmentCount_0 : decode cX8_segmentCount 0 = .ok (.iload_n 1, 1) := by decide +kernel
theorem dX8_segmentCount_1 : decode cX8_segmentCount 1 = .ok (.invokestatic 78, 3) := by decide +kernel
theorem dX8_segmentCount_4 : decode cX8_segmentCount 4 = .ok (.ifCond .ne 6, 3) := by decide +kernel
theorem dX8_segmentCount_7 : decode cX8_segmentCount 7 = .ok (.bipush (-2), 2) := by decide +kernel
theorem dX8_segmentCount_9 : decode cX8_segmentCount 9 = .ok (.ireturn, 1) := by decide +kernel
theorem dX8_segmentCount_10 : decode cX8_segmentCount 10 = .ok (.iconst 0, 1) := by decide +kernel
theorem dX8_segmentCount_11 : decode cX8_segmentCount 11 = .ok (.istore_n 2, 1) := by decide +kernel
theorem dX8_segmentCount_12 : decode cX8_segmentCount 12 = .ok (.iconst 1, 1) := by decide +kernel
theorem dX8_segmentCount_13 : decode cX8_segmentCount 13 = .ok (.istore_n 3, 1) := by decide +kernel
theorem dX8_segmentCount_14 : decode cX8_segmentCount 14 = .ok (.iload_n 3, 1) := by decide +kernel
theorem dX8_segmentCount_15 : decode cX8_segmentCount 15 = .ok (.aload_n 0, 1) := by decide +kernel
theorem dX8_segmentCount_16 : decode cX8_segmentCount 16 = .ok (.getfield 10, 3) := by decide +kernel
theorem dX8_segmentCount_19 : decode cX8_segmentCount 19 = .ok (.getfield 134, 3) := by decide +kernel
theorem dX8_segmentCount_22 : decode cX8_segmentCount 22 = .ok (.getfield 70, 3) := by decide +kernel
theorem dX8_segmentCount_25 : decode cX8_segmentCount 25 = .ok (.if_icmp .gt 22, 3) := by decide +kernel
theorem dX8_segmentCount_28 : decode cX8_segmentCount 28 = .ok (.aload_n 0, 1) := by decide +kernel
theorem dX8_segmentCount_29 : decode cX8_segmentCount 29 = .ok (.iload_n 1, 1) := by decide +kernel
theorem dX8_segmentCount_30 : decode cX8_segmentCount 30 = .ok (.iload_n 3, 1) := by decide +kernel
theorem dX8_segmentCount_31 : decode cX8_segmentCount 31 = .ok (.invokevirtual 168, 3) := by decide +kernel
theorem dX8_segmentCount_34 : decode cX8_segmentCount 34 = .ok (.iconst 1, 1) := by decide +kernel
theorem dX8_segmentCount_35 : decode cX8_segmentCount 35 = .ok (.if_icmp .ne 6, 3) := by decide +kernel
theorem dX8_segmentCount_38 : decode cX8_segmentCount 38 = .ok (.iinc 2 1, 3) := by decide +kernel
theorem dX8_segmentCount_41 : decode cX8_segmentCount 41 = .ok (.iinc 3 1, 3) := by decide +kernel
theorem dX8_segmentCount_44 : decode cX8_segmentCount 44 = .ok (.goto (-30), 3) := by decide +kernel
theorem dX8_segmentCount_47 : decode cX8_segmentCount 47 = .ok (.iload_n 2, 1) := by decide +kernel
theorem dX8_segmentCount_48 : decode cX8_segmentCount 48 = .ok (.ireturn, 1) := by decide +kernel
set_option maxRecDepth 20000 in
theorem ggX8_segment_X8_isKind : GoodIn wsX8_segment wsX8_isKind := goodIn_r _ [7] (by decide +kernel) (by decide +kernel)
set_option maxRecDepth 20000 in
theorem gX8_segment_X8_isKind : GoodIn wsX8_segment (va_wsS RX8 78 yX8_isKind wsX8_isKind) := goodIn_app (goodIn_of _ (by decide +kernel)) ggX8_segment_X8_isKind
set_option maxRecDepth 20000 in
theorem ggX8_segment_X8_stateAt : GoodIn wsX8_segment wsX8_stateAt := goodIn_r _ [11, 12, 1, 2, 3, 13, 14, 15, 16, 17, 18, 19, 20, 21, 6, 22, 23, 24, 25, 26, 27, 28, 29, 30, 31, 32, 33, 34, 35, 36, 37, 38, 39, 40, 41, 42, 43, 44, 45, 46, 47, 48, 49, 50, 51, 52, 53, 54, 55, 56, 57, 58, 59, 60, 61, 62, 63, 64, 65, 66, 67, 68, 69, 70, 71, 72] (by decide +kernel) (by decide +kernel)
set_option maxRecDepth 20000 in
theorem gX8_segment_X8_stateAt : GoodIn wsX8_segment (wsV RX8 168 RX8 yX8_stateAt wsX8_stateAt) := goodIn_app (goodIn_of _ (by decide +kernel)) ggX8_segment_X8_stateAt
theorem dX8_segment_0 : decode cX8_segment 0 = .ok (.iload_n 1, 1) := by decide +kernel
theorem dX8_segment_1 : decode cX8_segment 1 = .ok (.invokestatic 78, 3) := by decide +kernel
theorem dX8_segment_4 : decode cX8_segment 4 = .ok (.ifCond .eq 7, 3) := by decide +kernel
theorem dX8_segment_7 : decode cX8_segment 7 = .ok (.iload_n 2, 1) := by decide +kernel
theorem dX8_segment_8 : decode cX8_segment 8 = .ok (.ifCond .ge 6, 3) := by decide +kernel
theorem dX8_segment_11 : decode cX8_segment 11 = .ok (.bipush (-2), 2) := by decide +kernel
theorem dX8_segment_13 : decode cX8_segment 13 = .ok (.ireturn, 1) := by decide +kernel
theorem dX8_segment_14 : decode cX8_segment 14 = .ok (.iload_n 2, 1) := by decide +kernel
theorem dX8_segment_15 : decode cX8_segment 15 = .ok (.istore_n 3, 1) := by decide +kernel
theorem dX8_segment_16 : decode cX8_segment 16 = .ok (.iconst 0, 1) := by decide +kernel
theorem dX8_segment_17 : decode cX8_segment 17 = .ok (.istore 4, 2) := by decide +kernel
theorem dX8_segment_19 : decode cX8_segment 19 = .ok (.iload 4, 2) := by decide +kernel
theorem dX8_segment_21 : decode cX8_segment 21 = .ok (.aload_n 0, 1) := by decide +kernel
theorem dX8_segment_22 : decode cX8_segment 22 = .ok (.getfield 10, 3) := by decide +kernel
theorem dX8_segment_25 : decode cX8_segment 25 = .ok (.getfield 134, 3) := by decide +kernel
theorem dX8_segment_28 : decode cX8_segment 28 = .ok (.getfield 70, 3) := by decide +kernel
theorem dX8_segment_31 : decode cX8_segment 31 = .ok (.if_icmp .ge 30, 3) := by decide +kernel
theorem dX8_segment_34 : decode cX8_segment 34 = .ok (.aload_n 0, 1) := by decide +kernel
theorem dX8_segment_35 : decode cX8_segment 35 = .ok (.iload_n 1, 1) := by decide +kernel
theorem dX8_segment_36 : decode cX8_segment 36 = .ok (.iload 4, 2) := by decide +kernel
theorem dX8_segment_38 : decode cX8_segment 38 = .ok (.invokevirtual 168, 3) := by decide +kernel
theorem dX8_segment_41 : decode cX8_segment 41 = .ok (.iconst 1, 1) := by decide +kernel
theorem dX8_segment_42 : decode cX8_segment 42 = .ok (.if_icmp .ne 13, 3) := by decide +kernel
theorem dX8_segment_45 : decode cX8_segment 45 = .ok (.iload_n 3, 1) := by decide +kernel
theorem dX8_segment_46 : decode cX8_segment 46 = .ok (.ifCond .ne 6, 3) := by decide +kernel
theorem dX8_segment_49 : decode cX8_segment 49 = .ok (.iload 4, 2) := by decide +kernel
theorem dX8_segment_51 : decode cX8_segment 51 = .ok (.ireturn, 1) := by decide +kernel
theorem dX8_segment_52 : decode cX8_segment 52 = .ok (.iinc 3 (-1), 3) := by decide +kernel
theorem dX8_segment_55 : decode cX8_segment 55 = .ok (.iinc 4 1, 3) := by decide +kernel
theorem dX8_segment_58 : decode cX8_segment 58 = .ok (.goto (-39), 3) := by decide +kernel
theorem dX8_segment_61 : decode cX8_segment 61 = .ok (.bipush (-5), 2) := by decide +kernel
theorem dX8_segment_63 : decode cX8_segment 63 = .ok (.ireturn, 1) := by decide +kernel
set_option maxRecDepth 20000 in
theorem ggX8_longest_X8_isKind : GoodIn wsX8_longest wsX8_isKind := goodIn_r _ [7] (by decide +kernel) (by decide +kernel)
set_option maxRecDepth 20000 in
theorem gX8_longest_X8_isKind : GoodIn wsX8_longest (va_wsS RX8 78 yX8_isKind wsX8_isKind) := goodIn_app (goodIn_of _ (by decide +kernel)) ggX8_longest_X8_isKind
set_option maxRecDepth 20000 in
theorem ggX8_longest_X8_stateAt : GoodIn wsX8_longest wsX8_stateAt := goodIn_r _ [11, 12, 1, 2, 3, 13, 14, 15, 16, 17, 18, 19, 20, 21, 6, 22, 23, 24, 25, 26, 27, 28, 29, 30, 31, 32, 33, 34, 35, 36, 37, 38, 39, 40, 41, 42, 43, 44, 45, 46, 47, 48, 49, 50, 51, 52, 53, 54, 55, 56, 57, 58, 59, 60, 61, 62, 63, 64, 65, 66, 67, 68, 69, 70, 71, 72] (by decide +kernel) (by decide +kernel)
set_option maxRecDepth 20000 in
theorem gX8_longest_X8_stateAt : GoodIn wsX8_longest (wsV RX8 168 RX8 yX8_stateAt wsX8_stateAt) := goodIn_app (goodIn_of _ (by decide +kernel)) ggX8_longest_X8_stateAt
theorem dX8_longest_0 : decode cX8_longest 0 = .ok (.iload_n 1, 1) := by decide +kernel
theorem dX8_longest_1 : decode cX8_longest 1 = .ok (.invokestatic 78, 3) := by decide +kernel
theorem dX8_longest_4 : decode cX8_longest 4 = .ok (.ifCond .ne 6, 3) := by decide +kernel
theorem dX8_longest_7 : decode cX8_longest 7 = .ok (.bipush (-2), 2) := by decide +kernel
theorem dX8_longest_9 : decode cX8_longest 9 = .ok (.ireturn, 1) := by decide +kernel
theorem dX8_longest_10 : decode cX8_longest 10 = .ok (.bipush (-5), 2) := by decide +kernel
theorem dX8_longest_12 : decode cX8_longest 12 = .ok (.istore_n 2, 1) := by decide +kernel
theorem dX8_longest_13 : decode cX8_longest 13 = .ok (.iconst 0, 1) := by decide +kernel
theorem dX8_longest_14 : decode cX8_longest 14 = .ok (.istore_n 3, 1) := by decide +kernel
theorem dX8_longest_15 : decode cX8_longest 15 = .ok (.iconst 0, 1) := by decide +kernel
theorem dX8_longest_16 : decode cX8_longest 16 = .ok (.istore 4, 2) := by decide +kernel
theorem dX8_longest_18 : decode cX8_longest 18 = .ok (.iconst 1, 1) := by decide +kernel
theorem dX8_longest_19 : decode cX8_longest 19 = .ok (.istore 5, 2) := by decide +kernel
theorem dX8_longest_21 : decode cX8_longest 21 = .ok (.iload 5, 2) := by decide +kernel
theorem dX8_longest_23 : decode cX8_longest 23 = .ok (.aload_n 0, 1) := by decide +kernel
theorem dX8_longest_24 : decode cX8_longest 24 = .ok (.getfield 10, 3) := by decide +kernel
theorem dX8_longest_27 : decode cX8_longest 27 = .ok (.getfield 134, 3) := by decide +kernel
theorem dX8_longest_30 : decode cX8_longest 30 = .ok (.getfield 70, 3) := by decide +kernel
theorem dX8_longest_33 : decode cX8_longest 33 = .ok (.if_icmp .gt 42, 3) := by decide +kernel
theorem dX8_longest_36 : decode cX8_longest 36 = .ok (.aload_n 0, 1) := by decide +kernel
theorem dX8_longest_37 : decode cX8_longest 37 = .ok (.iload_n 1, 1) := by decide +kernel
theorem dX8_longest_38 : decode cX8_longest 38 = .ok (.iload 5, 2) := by decide +kernel
theorem dX8_longest_40 : decode cX8_longest 40 = .ok (.invokevirtual 168, 3) := by decide +kernel
theorem dX8_longest_43 : decode cX8_longest 43 = .ok (.iconst 1, 1) := by decide +kernel
theorem dX8_longest_44 : decode cX8_longest 44 = .ok (.if_icmp .ne 25, 3) := by decide +kernel
theorem dX8_longest_47 : decode cX8_longest 47 = .ok (.iload 5, 2) := by decide +kernel
theorem dX8_longest_49 : decode cX8_longest 49 = .ok (.iload 4, 2) := by decide +kernel
theorem dX8_longest_51 : decode cX8_longest 51 = .ok (.isub, 1) := by decide +kernel
theorem dX8_longest_52 : decode cX8_longest 52 = .ok (.iload_n 3, 1) := by decide +kernel
theorem dX8_longest_53 : decode cX8_longest 53 = .ok (.if_icmp .le 12, 3) := by decide +kernel
theorem dX8_longest_56 : decode cX8_longest 56 = .ok (.iload 4, 2) := by decide +kernel
theorem dX8_longest_58 : decode cX8_longest 58 = .ok (.istore_n 2, 1) := by decide +kernel
theorem dX8_longest_59 : decode cX8_longest 59 = .ok (.iload 5, 2) := by decide +kernel
theorem dX8_longest_61 : decode cX8_longest 61 = .ok (.iload 4, 2) := by decide +kernel
theorem dX8_longest_63 : decode cX8_longest 63 = .ok (.isub, 1) := by decide +kernel
theorem dX8_longest_64 : decode cX8_longest 64 = .ok (.istore_n 3, 1) := by decide +kernel
theorem dX8_longest_65 : decode cX8_longest 65 = .ok (.iload 5, 2) := by decide +kernel
theorem dX8_longest_67 : decode cX8_longest 67 = .ok (.istore 4, 2) := by decide +kernel
theorem dX8_longest_69 : decode cX8_longest 69 = .ok (.iinc 5 1, 3) := by decide +kernel
theorem dX8_longest_72 : decode cX8_longest 72 = .ok (.goto (-51), 3) := by decide +kernel
theorem dX8_longest_75 : decode cX8_longest 75 = .ok (.iload_n 2, 1) := by decide +kernel
theorem dX8_longest_76 : decode cX8_longest 76 = .ok (.ireturn, 1) := by decide +kernel
set_option maxRecDepth 20000 in
theorem ggX8_segmentsWith_X8_isKind : GoodIn wsX8_segmentsWith wsX8_isKind := goodIn_r _ [7] (by decide +kernel) (by decide +kernel)
set_option maxRecDepth 20000 in
theorem gX8_segmentsWith_X8_isKind : GoodIn wsX8_segmentsWith (va_wsS RX8 78 yX8_isKind wsX8_isKind) := goodIn_app (goodIn_of _ (by decide +kernel)) ggX8_segmentsWith_X8_isKind
set_option maxRecDepth 20000 in
theorem ggX8_segmentsWith_X8_isClass : GoodIn wsX8_segmentsWith wsX8_isClass := goodIn_r _ [10] (by decide +kernel) (by decide +kernel)
set_option maxRecDepth 20000 in
theorem gX8_segmentsWith_X8_isClass : GoodIn wsX8_segmentsWith (va_wsS RX8 54 yX8_isClass wsX8_isClass) := goodIn_app (goodIn_of _ (by decide +kernel)) ggX8_segmentsWith_X8_isClass
set_option maxRecDepth 20000 in
theorem ggX8_segmentsWith_X8_stateAt : GoodIn wsX8_segmentsWith wsX8_stateAt := goodIn_r _ [14, 15, 1, 2, 3, 16, 17, 18, 19, 20, 21, 22, 23, 24, 6, 25, 26, 27, 28, 29, 30, 31, 32, 33, 34, 35, 36, 37, 38, 39, 40, 41, 42, 43, 44, 45, 46, 47, 48, 49, 50, 51, 52, 53, 54, 55, 56, 57, 58, 59, 60, 61, 62, 63, 64, 65, 66, 67, 68, 69, 70, 71, 72, 73, 74, 75] (by decide +kernel) (by decide +kernel)
set_option maxRecDepth 20000 in
theorem gX8_segmentsWith_X8_stateAt : GoodIn wsX8_segmentsWith (wsV RX8 168 RX8 yX8_stateAt wsX8_stateAt) := goodIn_app (goodIn_of _ (by decide +kernel)) ggX8_segmentsWith_X8_stateAt
set_option maxRecDepth 20000 in
theorem ggX8_segmentsWith_X7_classAt : GoodIn wsX8_segmentsWith wsX7_classAt := goodIn_r _ [41, 42, 43, 27, 28, 29, 30, 31, 32, 44, 45, 46, 40, 47, 48, 67, 68, 69, 70] (by decide +kernel) (by decide +kernel)
set_option maxRecDepth 20000 in
theorem gX8_segmentsWith_X7_classAt : GoodIn wsX8_segmentsWith (wsV RX8 175 RX7 yX7_classAt wsX7_classAt) := goodIn_app (goodIn_of _ (by decide +kernel)) ggX8_segmentsWith_X7_classAt
theorem dX8_segmentsWith_0 : decode cX8_segmentsWith 0 = .ok (.iload_n 1, 1) := by decide +kernel
theorem dX8_segmentsWith_1 : decode cX8_segmentsWith 1 = .ok (.invokestatic 78, 3) := by decide +kernel
theorem dX8_segmentsWith_4 : decode cX8_segmentsWith 4 = .ok (.ifCond .eq 10, 3) := by decide +kernel
theorem dX8_segmentsWith_7 : decode cX8_segmentsWith 7 = .ok (.iload_n 2, 1) := by decide +kernel
theorem dX8_segmentsWith_8 : decode cX8_segmentsWith 8 = .ok (.invokestatic 54, 3) := by decide +kernel
theorem dX8_segmentsWith_11 : decode cX8_segmentsWith 11 = .ok (.ifCond .ne 6, 3) := by decide +kernel
theorem dX8_segmentsWith_14 : decode cX8_segmentsWith 14 = .ok (.bipush (-2), 2) := by decide +kernel
theorem dX8_segmentsWith_16 : decode cX8_segmentsWith 16 = .ok (.ireturn, 1) := by decide +kernel
theorem dX8_segmentsWith_17 : decode cX8_segmentsWith 17 = .ok (.iconst 0, 1) := by decide +kernel
theorem dX8_segmentsWith_18 : decode cX8_segmentsWith 18 = .ok (.istore_n 3, 1) := by decide +kernel
theorem dX8_segmentsWith_19 : decode cX8_segmentsWith 19 = .ok (.iconst 0, 1) := by decide +kernel
theorem dX8_segmentsWith_20 : decode cX8_segmentsWith 20 = .ok (.istore 4, 2) := by decide +kernel
theorem dX8_segmentsWith_22 : decode cX8_segmentsWith 22 = .ok (.iconst 0, 1) := by decide +kernel
theorem dX8_segmentsWith_23 : decode cX8_segmentsWith 23 = .ok (.istore 5, 2) := by decide +kernel
theorem dX8_segmentsWith_25 : decode cX8_segmentsWith 25 = .ok (.iload 5, 2) := by decide +kernel
theorem dX8_segmentsWith_27 : decode cX8_segmentsWith 27 = .ok (.aload_n 0, 1) := by decide +kernel
theorem dX8_segmentsWith_28 : decode cX8_segmentsWith 28 = .ok (.getfield 10, 3) := by decide +kernel
theorem dX8_segmentsWith_31 : decode cX8_segmentsWith 31 = .ok (.getfield 134, 3) := by decide +kernel
theorem dX8_segmentsWith_34 : decode cX8_segmentsWith 34 = .ok (.getfield 70, 3) := by decide +kernel
theorem dX8_segmentsWith_37 : decode cX8_segmentsWith 37 = .ok (.if_icmp .ge 47, 3) := by decide +kernel
theorem dX8_segmentsWith_40 : decode cX8_segmentsWith 40 = .ok (.aload_n 0, 1) := by decide +kernel
theorem dX8_segmentsWith_41 : decode cX8_segmentsWith 41 = .ok (.iload_n 1, 1) := by decide +kernel
theorem dX8_segmentsWith_42 : decode cX8_segmentsWith 42 = .ok (.iload 5, 2) := by decide +kernel
theorem dX8_segmentsWith_44 : decode cX8_segmentsWith 44 = .ok (.invokevirtual 168, 3) := by decide +kernel
theorem dX8_segmentsWith_47 : decode cX8_segmentsWith 47 = .ok (.iconst 1, 1) := by decide +kernel
theorem dX8_segmentsWith_48 : decode cX8_segmentsWith 48 = .ok (.if_icmp .ne 6, 3) := by decide +kernel
theorem dX8_segmentsWith_51 : decode cX8_segmentsWith 51 = .ok (.iconst 0, 1) := by decide +kernel
theorem dX8_segmentsWith_52 : decode cX8_segmentsWith 52 = .ok (.istore 4, 2) := by decide +kernel
theorem dX8_segmentsWith_54 : decode cX8_segmentsWith 54 = .ok (.iload 4, 2) := by decide +kernel
theorem dX8_segmentsWith_56 : decode cX8_segmentsWith 56 = .ok (.ifCond .ne 22, 3) := by decide +kernel
theorem dX8_segmentsWith_59 : decode cX8_segmentsWith 59 = .ok (.aload_n 0, 1) := by decide +kernel
theorem dX8_segmentsWith_60 : decode cX8_segmentsWith 60 = .ok (.getfield 10, 3) := by decide +kernel
theorem dX8_segmentsWith_63 : decode cX8_segmentsWith 63 = .ok (.iload 5, 2) := by decide +kernel
theorem dX8_segmentsWith_65 : decode cX8_segmentsWith 65 = .ok (.invokevirtual 175, 3) := by decide +kernel
theorem dX8_segmentsWith_68 : decode cX8_segmentsWith 68 = .ok (.iload_n 2, 1) := by decide +kernel
theorem dX8_segmentsWith_69 : decode cX8_segmentsWith 69 = .ok (.if_icmp .ne 9, 3) := by decide +kernel
theorem dX8_segmentsWith_72 : decode cX8_segmentsWith 72 = .ok (.iconst 1, 1) := by decide +kernel
theorem dX8_segmentsWith_73 : decode cX8_segmentsWith 73 = .ok (.istore 4, 2) := by decide +kernel
theorem dX8_segmentsWith_75 : decode cX8_segmentsWith 75 = .ok (.iinc 3 1, 3) := by decide +kernel
theorem dX8_segmentsWith_78 : decode cX8_segmentsWith 78 = .ok (.iinc 5 1, 3) := by decide +kernel
theorem dX8_segmentsWith_81 : decode cX8_segmentsWith 81 = .ok (.goto (-56), 3) := by decide +kernel
theorem dX8_segmentsWith_84 : decode cX8_segmentsWith 84 = .ok (.iload_n 3, 1) := by decide +kernel
theorem dX8_segmentsWith_85 : decode cX8_segmentsWith 85 = .ok (.ireturn, 1) := by decide +kernel
set_option maxRecDepth 20000 in
theorem ggX8_looksAt_X8_isKind : GoodIn wsX8_looksAt wsX8_isKind := goodIn_r _ [7] (by decide +kernel) (by decide +kernel)
set_option maxRecDepth 20000 in
theorem gX8_looksAt_X8_isKind : GoodIn wsX8_looksAt (va_wsS RX8 78 yX8_isKind wsX8_isKind) := goodIn_app (goodIn_of _ (by decide +kernel)) ggX8_looksAt_X8_isKind
set_option maxRecDepth 20000 in
theorem ggX8_looksAt_X8_isPositionOfCharacter : GoodIn wsX8_looksAt wsX8_isPositionOfCharacter := goodIn_r _ [11, 2, 12, 13, 95, 96, 97, 98, 99, 100, 101, 107, 108, 109, 110] (by decide +kernel) (by decide +kernel)
set_option maxRecDepth 20000 in
theorem gX8_looksAt_X8_isPositionOfCharacter : GoodIn wsX8_looksAt (wsV RX8 153 RX8 yX8_isPositionOfCharacter wsX8_isPositionOfCharacter) := goodIn_app (goodIn_of _ (by decide +kernel)) ggX8_looksAt_X8_isPositionOfCharacter
set_option maxRecDepth 20000 in
theorem ggX8_looksAt_X2_measure : GoodIn wsX8_looksAt wsX2_measure := goodIn_r _ [18, 19, 20, 21, 22, 23, 24, 25, 26, 27, 28, 29, 30, 31, 32, 33, 34, 35, 36, 37, 38, 39, 40, 41, 42, 43, 44, 45, 46, 47, 48, 49, 50, 51, 52, 53, 54, 55, 56, 57, 58, 59, 60, 61, 62, 63, 64, 65, 66, 67, 68, 69, 70, 71, 72, 73, 74, 75, 76, 77, 78, 79, 80, 81, 82, 6, 83, 84, 85, 86, 87, 88, 89, 90, 91, 92, 93, 94, 102, 103, 104, 105, 106, 111, 112, 113, 114, 115, 116, 117, 118, 119, 109, 110, 120, 121, 122, 107, 108] (by decide +kernel) (by decide +kernel)
set_option maxRecDepth 20000 in
theorem gX8_looksAt_X2_measure : GoodIn wsX8_looksAt (wsV RX8 179 RX2 yX2_measure wsX2_measure) := goodIn_app (goodIn_of _ (by decide +kernel)) ggX8_looksAt_X2_measure
theorem dX8_looksAt_0 : decode cX8_looksAt 0 = .ok (.iload_n 1, 1) := by decide +kernel
theorem dX8_looksAt_1 : decode cX8_looksAt 1 = .ok (.invokestatic 78, 3) := by decide +kernel
theorem dX8_looksAt_4 : decode cX8_looksAt 4 = .ok (.ifCond .ne 6, 3) := by decide +kernel
theorem dX8_looksAt_7 : decode cX8_looksAt 7 = .ok (.bipush (-2), 2) := by decide +kernel
theorem dX8_looksAt_9 : decode cX8_looksAt 9 = .ok (.ireturn, 1) := by decide +kernel
theorem dX8_looksAt_10 : decode cX8_looksAt 10 = .ok (.aload_n 0, 1) := by decide +kernel
theorem dX8_looksAt_11 : decode cX8_looksAt 11 = .ok (.iload_n 2, 1) := by decide +kernel
theorem dX8_looksAt_12 : decode cX8_looksAt 12 = .ok (.invokevirtual 153, 3) := by decide +kernel
theorem dX8_looksAt_15 : decode cX8_looksAt 15 = .ok (.ifCond .ne 5, 3) := by decide +kernel
theorem dX8_looksAt_18 : decode cX8_looksAt 18 = .ok (.iconst (-1), 1) := by decide +kernel
theorem dX8_looksAt_19 : decode cX8_looksAt 19 = .ok (.ireturn, 1) := by decide +kernel
theorem dX8_looksAt_20 : decode cX8_looksAt 20 = .ok (.aload_n 0, 1) := by decide +kernel
theorem dX8_looksAt_21 : decode cX8_looksAt 21 = .ok (.getfield 27, 3) := by decide +kernel
theorem dX8_looksAt_24 : decode cX8_looksAt 24 = .ok (.iload_n 1, 1) := by decide +kernel
theorem dX8_looksAt_25 : decode cX8_looksAt 25 = .ok (.aaload, 1) := by decide +kernel
theorem dX8_looksAt_26 : decode cX8_looksAt 26 = .ok (.aload_n 0, 1) := by decide +kernel
theorem dX8_looksAt_27 : decode cX8_looksAt 27 = .ok (.getfield 10, 3) := by decide +kernel
theorem dX8_looksAt_30 : decode cX8_looksAt 30 = .ok (.iload_n 2, 1) := by decide +kernel
theorem dX8_looksAt_31 : decode cX8_looksAt 31 = .ok (.invokevirtual 179, 3) := by decide +kernel
theorem dX8_looksAt_34 : decode cX8_looksAt 34 = .ok (.aload_n 0, 1) := by decide +kernel
theorem dX8_looksAt_35 : decode cX8_looksAt 35 = .ok (.getfield 27, 3) := by decide +kernel
theorem dX8_looksAt_38 : decode cX8_looksAt 38 = .ok (.iload_n 1, 1) := by decide +kernel
theorem dX8_looksAt_39 : decode cX8_looksAt 39 = .ok (.aaload, 1) := by decide +kernel
theorem dX8_looksAt_40 : decode cX8_looksAt 40 = .ok (.getfield 182, 3) := by decide +kernel
theorem dX8_looksAt_43 : decode cX8_looksAt 43 = .ok (.ireturn, 1) := by decide +kernel
set_option maxRecDepth 20000 in
theorem ggX8_work_X8_isKind : GoodIn wsX8_work wsX8_isKind := goodIn_r _ [6] (by decide +kernel) (by decide +kernel)
set_option maxRecDepth 20000 in
theorem gX8_work_X8_isKind : GoodIn wsX8_work (va_wsS RX8 78 yX8_isKind wsX8_isKind) := goodIn_app (goodIn_of _ (by decide +kernel)) ggX8_work_X8_isKind
theorem dX8_work_0 : decode cX8_work 0 = .ok (.iload_n 1, 1) := by decide +kernel
theorem dX8_work_1 : decode cX8_work 1 = .ok (.invokestatic 78, 3) := by decide +kernel
theorem dX8_work_4 : decode cX8_work 4 = .ok (.ifCond .eq 15, 3) := by decide +kernel
theorem dX8_work_7 : decode cX8_work 7 = .ok (.aload_n 0, 1) := by decide +kernel
theorem dX8_work_8 : decode cX8_work 8 = .ok (.getfield 27, 3) := by decide +kernel
theorem dX8_work_11 : decode cX8_work 11 = .ok (.iload_n 1, 1) := by decide +kernel
theorem dX8_work_12 : decode cX8_work 12 = .ok (.aaload, 1) := by decide +kernel
theorem dX8_work_13 : decode cX8_work 13 = .ok (.getfield 185, 3) := by decide +kernel
theorem dX8_work_16 : decode cX8_work 16 = .ok (.goto 5, 3) := by decide +kernel
theorem dX8_work_19 : decode cX8_work 19 = .ok (.bipush (-2), 2) := by decide +kernel
theorem dX8_work_21 : decode cX8_work 21 = .ok (.ireturn, 1) := by decide +kernel
theorem dX8_isCharacter_0 : decode cX8_isCharacter 0 = .ok (.iload_n 0, 1) := by decide +kernel
theorem dX8_isCharacter_1 : decode cX8_isCharacter 1 = .ok (.bipush 32, 2) := by decide +kernel
theorem dX8_isCharacter_3 : decode cX8_isCharacter 3 = .ok (.if_icmp .lt 13, 3) := by decide +kernel
theorem dX8_isCharacter_6 : decode cX8_isCharacter 6 = .ok (.iload_n 0, 1) := by decide +kernel
theorem dX8_isCharacter_7 : decode cX8_isCharacter 7 = .ok (.bipush 126, 2) := by decide +kernel
theorem dX8_isCharacter_9 : decode cX8_isCharacter 9 = .ok (.if_icmp .gt 7, 3) := by decide +kernel
theorem dX8_isCharacter_12 : decode cX8_isCharacter 12 = .ok (.iconst 1, 1) := by decide +kernel
theorem dX8_isCharacter_13 : decode cX8_isCharacter 13 = .ok (.goto 4, 3) := by decide +kernel
theorem dX8_isCharacter_16 : decode cX8_isCharacter 16 = .ok (.iconst 0, 1) := by decide +kernel
theorem dX8_isCharacter_17 : decode cX8_isCharacter 17 = .ok (.ireturn, 1) := by decide +kernel
theorem dX8_isClass_0 : decode cX8_isClass 0 = .ok (.iload_n 0, 1) := by decide +kernel
theorem dX8_isClass_1 : decode cX8_isClass 1 = .ok (.ifCond .lt 13, 3) := by decide +kernel
theorem dX8_isClass_4 : decode cX8_isClass 4 = .ok (.iload_n 0, 1) := by decide +kernel
theorem dX8_isClass_5 : decode cX8_isClass 5 = .ok (.bipush 12, 2) := by decide +kernel
theorem dX8_isClass_7 : decode cX8_isClass 7 = .ok (.if_icmp .ge 7, 3) := by decide +kernel
theorem dX8_isClass_10 : decode cX8_isClass 10 = .ok (.iconst 1, 1) := by decide +kernel
theorem dX8_isClass_11 : decode cX8_isClass 11 = .ok (.goto 4, 3) := by decide +kernel
theorem dX8_isClass_14 : decode cX8_isClass 14 = .ok (.iconst 0, 1) := by decide +kernel
theorem dX8_isClass_15 : decode cX8_isClass 15 = .ok (.ireturn, 1) := by decide +kernel
theorem dX8_isKind_0 : decode cX8_isKind 0 = .ok (.iload_n 0, 1) := by decide +kernel
theorem dX8_isKind_1 : decode cX8_isKind 1 = .ok (.ifCond .lt 12, 3) := by decide +kernel
theorem dX8_isKind_4 : decode cX8_isKind 4 = .ok (.iload_n 0, 1) := by decide +kernel
theorem dX8_isKind_5 : decode cX8_isKind 5 = .ok (.iconst 3, 1) := by decide +kernel
theorem dX8_isKind_6 : decode cX8_isKind 6 = .ok (.if_icmp .ge 7, 3) := by decide +kernel
theorem dX8_isKind_9 : decode cX8_isKind 9 = .ok (.iconst 1, 1) := by decide +kernel
theorem dX8_isKind_10 : decode cX8_isKind 10 = .ok (.goto 4, 3) := by decide +kernel
theorem dX8_isKind_13 : decode cX8_isKind 13 = .ok (.iconst 0, 1) := by decide +kernel
theorem dX8_isKind_14 : decode cX8_isKind 14 = .ok (.ireturn, 1) := by decide +kernel
theorem dX8_isPlace_0 : decode cX8_isPlace 0 = .ok (.iload_n 0, 1) := by decide +kernel
theorem dX8_isPlace_1 : decode cX8_isPlace 1 = .ok (.ifCond .lt 12, 3) := by decide +kernel
theorem dX8_isPlace_4 : decode cX8_isPlace 4 = .ok (.iload_n 0, 1) := by decide +kernel
theorem dX8_isPlace_5 : decode cX8_isPlace 5 = .ok (.iconst 5, 1) := by decide +kernel
theorem dX8_isPlace_6 : decode cX8_isPlace 6 = .ok (.if_icmp .ge 7, 3) := by decide +kernel
theorem dX8_isPlace_9 : decode cX8_isPlace 9 = .ok (.iconst 1, 1) := by decide +kernel
theorem dX8_isPlace_10 : decode cX8_isPlace 10 = .ok (.goto 4, 3) := by decide +kernel
theorem dX8_isPlace_13 : decode cX8_isPlace 13 = .ok (.iconst 0, 1) := by decide +kernel
theorem dX8_isPlace_14 : decode cX8_isPlace 14 = .ok (.ireturn, 1) := by decide +kernel
theorem dX8_isPosition_0 : decode cX8_isPosition 0 = .ok (.iload_n 1, 1) := by decide +kernel
theorem dX8_isPosition_1 : decode cX8_isPosition 1 = .ok (.ifCond .lt 21, 3) := by decide +kernel
theorem dX8_isPosition_4 : decode cX8_isPosition 4 = .ok (.iload_n 1, 1) := by decide +kernel
theorem dX8_isPosition_5 : decode cX8_isPosition 5 = .ok (.aload_n 0, 1) := by decide +kernel
theorem dX8_isPosition_6 : decode cX8_isPosition 6 = .ok (.getfield 10, 3) := by decide +kernel
theorem dX8_isPosition_9 : decode cX8_isPosition 9 = .ok (.getfield 134, 3) := by decide +kernel
theorem dX8_isPosition_12 : decode cX8_isPosition 12 = .ok (.getfield 70, 3) := by decide +kernel
theorem dX8_isPosition_15 : decode cX8_isPosition 15 = .ok (.if_icmp .gt 7, 3) := by decide +kernel
theorem dX8_isPosition_18 : decode cX8_isPosition 18 = .ok (.iconst 1, 1) := by decide +kernel
theorem dX8_isPosition_19 : decode cX8_isPosition 19 = .ok (.goto 4, 3) := by decide +kernel
theorem dX8_isPosition_22 : decode cX8_isPosition 22 = .ok (.iconst 0, 1) := by decide +kernel
theorem dX8_isPosition_23 : decode cX8_isPosition 23 = .ok (.ireturn, 1) := by decide +kernel
theorem dX8_isPositionOfCharacter_0 : decode cX8_isPositionOfCharacter 0 = .ok (.iload_n 1, 1) := by decide +kernel
theorem dX8_isPositionOfCharacter_1 : decode cX8_isPositionOfCharacter 1 = .ok (.ifCond .lt 21, 3) := by decide +kernel
theorem dX8_isPositionOfCharacter_4 : decode cX8_isPositionOfCharacter 4 = .ok (.iload_n 1, 1) := by decide +kernel
theorem dX8_isPositionOfCharacter_5 : decode cX8_isPositionOfCharacter 5 = .ok (.aload_n 0, 1) := by decide +kernel
theorem dX8_isPositionOfCharacter_6 : decode cX8_isPositionOfCharacter 6 = .ok (.getfield 10, 3) := by decide +kernel
theorem dX8_isPositionOfCharacter_9 : decode cX8_isPositionOfCharacter 9 = .ok (.getfield 134, 3) := by decide +kernel
theorem dX8_isPositionOfCharacter_12 : decode cX8_isPositionOfCharacter 12 = .ok (.getfield 70, 3) := by decide +kernel
theorem dX8_isPositionOfCharacter_15 : decode cX8_isPositionOfCharacter 15 = .ok (.if_icmp .ge 7, 3) := by decide +kernel
theorem dX8_isPositionOfCharacter_18 : decode cX8_isPositionOfCharacter 18 = .ok (.iconst 1, 1) := by decide +kernel
theorem dX8_isPositionOfCharacter_19 : decode cX8_isPositionOfCharacter 19 = .ok (.goto 4, 3) := by decide +kernel
theorem dX8_isPositionOfCharacter_22 : decode cX8_isPositionOfCharacter 22 = .ok (.iconst 0, 1) := by decide +kernel
theorem dX8_isPositionOfCharacter_23 : decode cX8_isPositionOfCharacter 23 = .ok (.ireturn, 1) := by decide +kernel
set_option maxRecDepth 20000 in
theorem ggX8_isExceptionWord_X4_at : GoodIn wsX8_isExceptionWord wsX4_at := goodIn_r _ [6, 7, 8, 13, 14] (by decide +kernel) (by decide +kernel)
set_option maxRecDepth 20000 in
theorem gX8_isExceptionWord_X4_at : GoodIn wsX8_isExceptionWord (wsV RX8 109 RX4 yX4_at wsX4_at) := goodIn_app (goodIn_of _ (by decide +kernel)) ggX8_isExceptionWord_X4_at
set_option maxRecDepth 20000 in
theorem ggX8_isExceptionWord_X8_isCharacter : GoodIn wsX8_isExceptionWord wsX8_isCharacter := goodIn_r _ [12] (by decide +kernel) (by decide +kernel)
set_option maxRecDepth 20000 in
theorem gX8_isExceptionWord_X8_isCharacter : GoodIn wsX8_isExceptionWord (va_wsS RX8 50 yX8_isCharacter wsX8_isCharacter) := goodIn_app (goodIn_of _ (by decide +kernel)) ggX8_isExceptionWord_X8_isCharacter
theorem dX8_isExceptionWord_0 : decode cX8_isExceptionWord 0 = .ok (.aload_n 0, 1) := by decide +kernel
theorem dX8_isExceptionWord_1 : decode cX8_isExceptionWord 1 = .ok (.getfield 70, 3) := by decide +kernel
theorem dX8_isExceptionWord_4 : decode cX8_isExceptionWord 4 = .ok (.iconst 1, 1) := by decide +kernel
theorem dX8_isExceptionWord_5 : decode cX8_isExceptionWord 5 = .ok (.if_icmp .lt 12, 3) := by decide +kernel
theorem dX8_isExceptionWord_8 : decode cX8_isExceptionWord 8 = .ok (.aload_n 0, 1) := by decide +kernel
theorem dX8_isExceptionWord_9 : decode cX8_isExceptionWord 9 = .ok (.getfield 70, 3) := by decide +kernel
theorem dX8_isExceptionWord_12 : decode cX8_isExceptionWord 12 = .ok (.bipush 8, 2) := by decide +kernel
theorem dX8_isExceptionWord_14 : decode cX8_isExceptionWord 14 = .ok (.if_icmp .le 5, 3) := by decide +kernel
theorem dX8_isExceptionWord_17 : decode cX8_isExceptionWord 17 = .ok (.iconst 0, 1) := by decide +kernel
theorem dX8_isExceptionWord_18 : decode cX8_isExceptionWord 18 = .ok (.ireturn, 1) := by decide +kernel
theorem dX8_isExceptionWord_19 : decode cX8_isExceptionWord 19 = .ok (.iconst 0, 1) := by decide +kernel
theorem dX8_isExceptionWord_20 : decode cX8_isExceptionWord 20 = .ok (.istore_n 1, 1) := by decide +kernel
theorem dX8_isExceptionWord_21 : decode cX8_isExceptionWord 21 = .ok (.iload_n 1, 1) := by decide +kernel
theorem dX8_isExceptionWord_22 : decode cX8_isExceptionWord 22 = .ok (.aload_n 0, 1) := by decide +kernel
theorem dX8_isExceptionWord_23 : decode cX8_isExceptionWord 23 = .ok (.getfield 70, 3) := by decide +kernel
theorem dX8_isExceptionWord_26 : decode cX8_isExceptionWord 26 = .ok (.if_icmp .ge 22, 3) := by decide +kernel
theorem dX8_isExceptionWord_29 : decode cX8_isExceptionWord 29 = .ok (.aload_n 0, 1) := by decide +kernel
theorem dX8_isExceptionWord_30 : decode cX8_isExceptionWord 30 = .ok (.iload_n 1, 1) := by decide +kernel
theorem dX8_isExceptionWord_31 : decode cX8_isExceptionWord 31 = .ok (.invokevirtual 109, 3) := by decide +kernel
theorem dX8_isExceptionWord_34 : decode cX8_isExceptionWord 34 = .ok (.invokestatic 50, 3) := by decide +kernel
theorem dX8_isExceptionWord_37 : decode cX8_isExceptionWord 37 = .ok (.ifCond .ne 5, 3) := by decide +kernel
theorem dX8_isExceptionWord_40 : decode cX8_isExceptionWord 40 = .ok (.iconst 0, 1) := by decide +kernel
theorem dX8_isExceptionWord_41 : decode cX8_isExceptionWord 41 = .ok (.ireturn, 1) := by decide +kernel
theorem dX8_isExceptionWord_42 : decode cX8_isExceptionWord 42 = .ok (.iinc 1 1, 3) := by decide +kernel
theorem dX8_isExceptionWord_45 : decode cX8_isExceptionWord 45 = .ok (.goto (-24), 3) := by decide +kernel
theorem dX8_isExceptionWord_48 : decode cX8_isExceptionWord 48 = .ok (.iconst 1, 1) := by decide +kernel
theorem dX8_isExceptionWord_49 : decode cX8_isExceptionWord 49 = .ok (.ireturn, 1) := by decide +kernel
theorem dX8_isClassLetterOrDot_0 : decode cX8_isClassLetterOrDot 0 = .ok (.iload_n 0, 1) := by decide +kernel
theorem dX8_isClassLetterOrDot_1 : decode cX8_isClassLetterOrDot 1 = .ok (.bipush 46, 2) := by decide +kernel
theorem dX8_isClassLetterOrDot_3 : decode cX8_isClassLetterOrDot 3 = .ok (.if_icmp .eq 15, 3) := by decide +kernel
theorem dX8_isClassLetterOrDot_6 : decode cX8_isClassLetterOrDot 6 = .ok (.iload_n 0, 1) := by decide +kernel
theorem dX8_isClassLetterOrDot_7 : decode cX8_isClassLetterOrDot 7 = .ok (.bipush 65, 2) := by decide +kernel
theorem dX8_isClassLetterOrDot_9 : decode cX8_isClassLetterOrDot 9 = .ok (.if_icmp .lt 13, 3) := by decide +kernel
theorem dX8_isClassLetterOrDot_12 : decode cX8_isClassLetterOrDot 12 = .ok (.iload_n 0, 1) := by decide +kernel
theorem dX8_isClassLetterOrDot_13 : decode cX8_isClassLetterOrDot 13 = .ok (.bipush 77, 2) := by decide +kernel
theorem dX8_isClassLetterOrDot_15 : decode cX8_isClassLetterOrDot 15 = .ok (.if_icmp .ge 7, 3) := by decide +kernel
theorem dX8_isClassLetterOrDot_18 : decode cX8_isClassLetterOrDot 18 = .ok (.iconst 1, 1) := by decide +kernel
theorem dX8_isClassLetterOrDot_19 : decode cX8_isClassLetterOrDot 19 = .ok (.goto 4, 3) := by decide +kernel
theorem dX8_isClassLetterOrDot_22 : decode cX8_isClassLetterOrDot 22 = .ok (.iconst 0, 1) := by decide +kernel
theorem dX8_isClassLetterOrDot_23 : decode cX8_isClassLetterOrDot 23 = .ok (.ireturn, 1) := by decide +kernel
theorem dX8_isRepetition_0 : decode cX8_isRepetition 0 = .ok (.iload_n 0, 1) := by decide +kernel
theorem dX8_isRepetition_1 : decode cX8_isRepetition 1 = .ok (.bipush 42, 2) := by decide +kernel
theorem dX8_isRepetition_3 : decode cX8_isRepetition 3 = .ok (.if_icmp .eq 15, 3) := by decide +kernel
theorem dX8_isRepetition_6 : decode cX8_isRepetition 6 = .ok (.iload_n 0, 1) := by decide +kernel
theorem dX8_isRepetition_7 : decode cX8_isRepetition 7 = .ok (.bipush 43, 2) := by decide +kernel
theorem dX8_isRepetition_9 : decode cX8_isRepetition 9 = .ok (.if_icmp .eq 9, 3) := by decide +kernel
theorem dX8_isRepetition_12 : decode cX8_isRepetition 12 = .ok (.iload_n 0, 1) := by decide +kernel
theorem dX8_isRepetition_13 : decode cX8_isRepetition 13 = .ok (.bipush 63, 2) := by decide +kernel
theorem dX8_isRepetition_15 : decode cX8_isRepetition 15 = .ok (.if_icmp .ne 7, 3) := by decide +kernel
theorem dX8_isRepetition_18 : decode cX8_isRepetition 18 = .ok (.iconst 1, 1) := by decide +kernel
theorem dX8_isRepetition_19 : decode cX8_isRepetition 19 = .ok (.goto 4, 3) := by decide +kernel
theorem dX8_isRepetition_22 : decode cX8_isRepetition 22 = .ok (.iconst 0, 1) := by decide +kernel
theorem dX8_isRepetition_23 : decode cX8_isRepetition 23 = .ok (.ireturn, 1) := by decide +kernel
set_option maxRecDepth 20000 in
theorem ggX8_faultOf_X4_at : GoodIn wsX8_faultOf wsX4_at := goodIn_r _ [6, 7, 8, 16, 17] (by decide +kernel) (by decide +kernel)
set_option maxRecDepth 20000 in
theorem gX8_faultOf_X4_at : GoodIn wsX8_faultOf (wsV RX8 109 RX4 yX4_at wsX4_at) := goodIn_app (goodIn_of _ (by decide +kernel)) ggX8_faultOf_X4_at
set_option maxRecDepth 20000 in
theorem ggX8_faultOf_X8_isClassLetterOrDot : GoodIn wsX8_faultOf wsX8_isClassLetterOrDot := goodIn_r _ [12] (by decide +kernel) (by decide +kernel)
set_option maxRecDepth 20000 in
theorem gX8_faultOf_X8_isClassLetterOrDot : GoodIn wsX8_faultOf (va_wsS RX8 188 yX8_isClassLetterOrDot wsX8_isClassLetterOrDot) := goodIn_app (goodIn_of _ (by decide +kernel)) ggX8_faultOf_X8_isClassLetterOrDot
set_option maxRecDepth 20000 in
theorem ggX8_faultOf_X8_isRepetition : GoodIn wsX8_faultOf wsX8_isRepetition := goodIn_r _ [15] (by decide +kernel) (by decide +kernel)
set_option maxRecDepth 20000 in
theorem gX8_faultOf_X8_isRepetition : GoodIn wsX8_faultOf (va_wsS RX8 191 yX8_isRepetition wsX8_isRepetition) := goodIn_app (goodIn_of _ (by decide +kernel)) ggX8_faultOf_X8_isRepetition
theorem dX8_faultOf_0 : decode cX8_faultOf 0 = .ok (.iconst 0, 1) := by decide +kernel
theorem dX8_faultOf_1 : decode cX8_faultOf 1 = .ok (.istore_n 1, 1) := by decide +kernel
theorem dX8_faultOf_2 : decode cX8_faultOf 2 = .ok (.iconst 0, 1) := by decide +kernel
theorem dX8_faultOf_3 : decode cX8_faultOf 3 = .ok (.istore_n 2, 1) := by decide +kernel
theorem dX8_faultOf_4 : decode cX8_faultOf 4 = .ok (.iconst 0, 1) := by decide +kernel
theorem dX8_faultOf_5 : decode cX8_faultOf 5 = .ok (.istore_n 3, 1) := by decide +kernel
theorem dX8_faultOf_6 : decode cX8_faultOf 6 = .ok (.iconst 0, 1) := by decide +kernel
theorem dX8_faultOf_7 : decode cX8_faultOf 7 = .ok (.istore 4, 2) := by decide +kernel
theorem dX8_faultOf_9 : decode cX8_faultOf 9 = .ok (.iconst 0, 1) := by decide +kernel
theorem dX8_faultOf_10 : decode cX8_faultOf 10 = .ok (.istore 5, 2) := by decide +kernel
theorem dX8_faultOf_12 : decode cX8_faultOf 12 = .ok (.iload 5, 2) := by decide +kernel
theorem dX8_faultOf_14 : decode cX8_faultOf 14 = .ok (.aload_n 0, 1) := by decide +kernel
theorem dX8_faultOf_15 : decode cX8_faultOf 15 = .ok (.getfield 70, 3) := by decide +kernel
theorem dX8_faultOf_18 : decode cX8_faultOf 18 = .ok (.if_icmp .ge 145, 3) := by decide +kernel
theorem dX8_faultOf_21 : decode cX8_faultOf 21 = .ok (.aload_n 0, 1) := by decide +kernel
theorem dX8_faultOf_22 : decode cX8_faultOf 22 = .ok (.iload 5, 2) := by decide +kernel
theorem dX8_faultOf_24 : decode cX8_faultOf 24 = .ok (.invokevirtual 109, 3) := by decide +kernel
theorem dX8_faultOf_27 : decode cX8_faultOf 27 = .ok (.istore 6, 2) := by decide +kernel
theorem dX8_faultOf_29 : decode cX8_faultOf 29 = .ok (.iload 6, 2) := by decide +kernel
theorem dX8_faultOf_31 : decode cX8_faultOf 31 = .ok (.invokestatic 188, 3) := by decide +kernel
theorem dX8_faultOf_34 : decode cX8_faultOf 34 = .ok (.ifCond .eq 10, 3) := by decide +kernel
theorem dX8_faultOf_37 : decode cX8_faultOf 37 = .ok (.iconst 1, 1) := by decide +kernel
theorem dX8_faultOf_38 : decode cX8_faultOf 38 = .ok (.istore_n 2, 1) := by decide +kernel
theorem dX8_faultOf_39 : decode cX8_faultOf 39 = .ok (.iconst 1, 1) := by decide +kernel
theorem dX8_faultOf_40 : decode cX8_faultOf 40 = .ok (.istore_n 3, 1) := by decide +kernel
theorem dX8_faultOf_41 : decode cX8_faultOf 41 = .ok (.goto 116, 3) := by decide +kernel
theorem dX8_faultOf_44 : decode cX8_faultOf 44 = .ok (.iload 6, 2) := by decide +kernel
theorem dX8_faultOf_46 : decode cX8_faultOf 46 = .ok (.bipush 40, 2) := by decide +kernel
theorem dX8_faultOf_48 : decode cX8_faultOf 48 = .ok (.if_icmp .ne 18, 3) := by decide +kernel
theorem dX8_faultOf_51 : decode cX8_faultOf 51 = .ok (.iload_n 1, 1) := by decide +kernel
theorem dX8_faultOf_52 : decode cX8_faultOf 52 = .ok (.iconst 4, 1) := by decide +kernel
theorem dX8_faultOf_53 : decode cX8_faultOf 53 = .ok (.if_icmp .ge 13, 3) := by decide +kernel
theorem dX8_faultOf_56 : decode cX8_faultOf 56 = .ok (.iinc 1 1, 3) := by decide +kernel
theorem dX8_faultOf_59 : decode cX8_faultOf 59 = .ok (.iconst 0, 1) := by decide +kernel
theorem dX8_faultOf_60 : decode cX8_faultOf 60 = .ok (.istore_n 2, 1) := by decide +kernel
theorem dX8_faultOf_61 : decode cX8_faultOf 61 = .ok (.iconst 0, 1) := by decide +kernel
theorem dX8_faultOf_62 : decode cX8_faultOf 62 = .ok (.istore_n 3, 1) := by decide +kernel
theorem dX8_faultOf_63 : decode cX8_faultOf 63 = .ok (.goto 94, 3) := by decide +kernel
theorem dX8_faultOf_66 : decode cX8_faultOf 66 = .ok (.iload 6, 2) := by decide +kernel
theorem dX8_faultOf_68 : decode cX8_faultOf 68 = .ok (.bipush 41, 2) := by decide +kernel
theorem dX8_faultOf_70 : decode cX8_faultOf 70 = .ok (.if_icmp .ne 19, 3) := by decide +kernel
theorem dX8_faultOf_73 : decode cX8_faultOf 73 = .ok (.iload_n 1, 1) := by decide +kernel
theorem dX8_faultOf_74 : decode cX8_faultOf 74 = .ok (.ifCond .le 15, 3) := by decide +kernel
theorem dX8_faultOf_77 : decode cX8_faultOf 77 = .ok (.iload_n 2, 1) := by decide +kernel
theorem dX8_faultOf_78 : decode cX8_faultOf 78 = .ok (.ifCond .eq 11, 3) := by decide +kernel
theorem dX8_faultOf_81 : decode cX8_faultOf 81 = .ok (.iinc 1 (-1), 3) := by decide +kernel
theorem dX8_faultOf_84 : decode cX8_faultOf 84 = .ok (.iconst 1, 1) := by decide +kernel
theorem dX8_faultOf_85 : decode cX8_faultOf 85 = .ok (.istore_n 3, 1) := by decide +kernel
theorem dX8_faultOf_86 : decode cX8_faultOf 86 = .ok (.goto 71, 3) := by decide +kernel
theorem dX8_faultOf_89 : decode cX8_faultOf 89 = .ok (.iload 6, 2) := by decide +kernel
theorem dX8_faultOf_91 : decode cX8_faultOf 91 = .ok (.bipush 124, 2) := by decide +kernel
theorem dX8_faultOf_93 : decode cX8_faultOf 93 = .ok (.if_icmp .ne 14, 3) := by decide +kernel
theorem dX8_faultOf_96 : decode cX8_faultOf 96 = .ok (.iload_n 2, 1) := by decide +kernel
theorem dX8_faultOf_97 : decode cX8_faultOf 97 = .ok (.ifCond .eq 10, 3) := by decide +kernel
theorem dX8_faultOf_100 : decode cX8_faultOf 100 = .ok (.iconst 0, 1) := by decide +kernel
theorem dX8_faultOf_101 : decode cX8_faultOf 101 = .ok (.istore_n 2, 1) := by decide +kernel
theorem dX8_faultOf_102 : decode cX8_faultOf 102 = .ok (.iconst 0, 1) := by decide +kernel
theorem dX8_faultOf_103 : decode cX8_faultOf 103 = .ok (.istore_n 3, 1) := by decide +kernel
theorem dX8_faultOf_104 : decode cX8_faultOf 104 = .ok (.goto 53, 3) := by decide +kernel
theorem dX8_faultOf_107 : decode cX8_faultOf 107 = .ok (.iload 6, 2) := by decide +kernel
theorem dX8_faultOf_109 : decode cX8_faultOf 109 = .ok (.bipush 47, 2) := by decide +kernel
theorem dX8_faultOf_111 : decode cX8_faultOf 111 = .ok (.if_icmp .ne 26, 3) := by decide +kernel
theorem dX8_faultOf_114 : decode cX8_faultOf 114 = .ok (.iload_n 2, 1) := by decide +kernel
theorem dX8_faultOf_115 : decode cX8_faultOf 115 = .ok (.ifCond .eq 22, 3) := by decide +kernel
theorem dX8_faultOf_118 : decode cX8_faultOf 118 = .ok (.iload_n 1, 1) := by decide +kernel
theorem dX8_faultOf_119 : decode cX8_faultOf 119 = .ok (.ifCond .ne 18, 3) := by decide +kernel
theorem dX8_faultOf_122 : decode cX8_faultOf 122 = .ok (.iload 4, 2) := by decide +kernel
theorem dX8_faultOf_124 : decode cX8_faultOf 124 = .ok (.ifCond .ne 13, 3) := by decide +kernel
theorem dX8_faultOf_127 : decode cX8_faultOf 127 = .ok (.iconst 1, 1) := by decide +kernel
theorem dX8_faultOf_128 : decode cX8_faultOf 128 = .ok (.istore 4, 2) := by decide +kernel
theorem dX8_faultOf_130 : decode cX8_faultOf 130 = .ok (.iconst 0, 1) := by decide +kernel
theorem dX8_faultOf_131 : decode cX8_faultOf 131 = .ok (.istore_n 2, 1) := by decide +kernel
theorem dX8_faultOf_132 : decode cX8_faultOf 132 = .ok (.iconst 0, 1) := by decide +kernel
theorem dX8_faultOf_133 : decode cX8_faultOf 133 = .ok (.istore_n 3, 1) := by decide +kernel
theorem dX8_faultOf_134 : decode cX8_faultOf 134 = .ok (.goto 23, 3) := by decide +kernel
theorem dX8_faultOf_137 : decode cX8_faultOf 137 = .ok (.iload 6, 2) := by decide +kernel
theorem dX8_faultOf_139 : decode cX8_faultOf 139 = .ok (.invokestatic 191, 3) := by decide +kernel
theorem dX8_faultOf_142 : decode cX8_faultOf 142 = .ok (.ifCond .eq 12, 3) := by decide +kernel
theorem dX8_faultOf_145 : decode cX8_faultOf 145 = .ok (.iload_n 3, 1) := by decide +kernel
theorem dX8_faultOf_146 : decode cX8_faultOf 146 = .ok (.ifCond .eq 8, 3) := by decide +kernel
theorem dX8_faultOf_149 : decode cX8_faultOf 149 = .ok (.iconst 0, 1) := by decide +kernel
theorem dX8_faultOf_150 : decode cX8_faultOf 150 = .ok (.istore_n 3, 1) := by decide +kernel
theorem dX8_faultOf_151 : decode cX8_faultOf 151 = .ok (.goto 6, 3) := by decide +kernel
theorem dX8_faultOf_154 : decode cX8_faultOf 154 = .ok (.iload 5, 2) := by decide +kernel
theorem dX8_faultOf_156 : decode cX8_faultOf 156 = .ok (.ireturn, 1) := by decide +kernel
theorem dX8_faultOf_157 : decode cX8_faultOf 157 = .ok (.iinc 5 1, 3) := by decide +kernel
theorem dX8_faultOf_160 : decode cX8_faultOf 160 = .ok (.goto (-148), 3) := by decide +kernel
theorem dX8_faultOf_163 : decode cX8_faultOf 163 = .ok (.iload_n 2, 1) := by decide +kernel
theorem dX8_faultOf_164 : decode cX8_faultOf 164 = .ok (.ifCond .eq 11, 3) := by decide +kernel
theorem dX8_faultOf_167 : decode cX8_faultOf 167 = .ok (.iload_n 1, 1) := by decide +kernel
theorem dX8_faultOf_168 : decode cX8_faultOf 168 = .ok (.ifCond .ne 7, 3) := by decide +kernel
theorem dX8_faultOf_171 : decode cX8_faultOf 171 = .ok (.iconst (-1), 1) := by decide +kernel
theorem dX8_faultOf_172 : decode cX8_faultOf 172 = .ok (.goto 7, 3) := by decide +kernel
theorem dX8_faultOf_175 : decode cX8_faultOf 175 = .ok (.aload_n 0, 1) := by decide +kernel
theorem dX8_faultOf_176 : decode cX8_faultOf 176 = .ok (.getfield 70, 3) := by decide +kernel
theorem dX8_faultOf_179 : decode cX8_faultOf 179 = .ok (.ireturn, 1) := by decide +kernel
set_option maxRecDepth 20000 in
theorem ggX8_carryOut_X4_putIn : GoodIn wsX8_carryOut wsX4_putIn := goodIn_r _ [11, 12, 13, 14, 15, 16, 17, 140, 141] (by decide +kernel) (by decide +kernel)
set_option maxRecDepth 20000 in
theorem gX8_carryOut_X4_putIn : GoodIn wsX8_carryOut (wsV RX8 194 RX4 yX4_putIn wsX4_putIn) := goodIn_app (goodIn_of _ (by decide +kernel)) ggX8_carryOut_X4_putIn
set_option maxRecDepth 20000 in
theorem ggX8_carryOut_X4_takeOut : GoodIn wsX8_carryOut wsX4_takeOut := goodIn_r _ [21, 12, 13, 14, 15, 16, 17, 140, 141] (by decide +kernel) (by decide +kernel)
set_option maxRecDepth 20000 in
theorem gX8_carryOut_X4_takeOut : GoodIn wsX8_carryOut (wsV RX8 198 RX4 yX4_takeOut wsX4_takeOut) := goodIn_app (goodIn_of _ (by decide +kernel)) ggX8_carryOut_X4_takeOut
set_option maxRecDepth 20000 in
theorem ggX8_carryOut_X2_firstTouched : GoodIn wsX8_carryOut wsX2_firstTouched := goodIn_r _ [26, 27, 145, 146, 147, 148, 149] (by decide +kernel) (by decide +kernel)
set_option maxRecDepth 20000 in
theorem gX8_carryOut_X2_firstTouched : GoodIn wsX8_carryOut (wsV RX8 202 RX2 yX2_firstTouched wsX2_firstTouched) := goodIn_app (goodIn_of _ (by decide +kernel)) ggX8_carryOut_X2_firstTouched
set_option maxRecDepth 20000 in
theorem ggX8_carryOut_X2_moveUp : GoodIn wsX8_carryOut wsX2_moveUp := goodIn_r _ [31, 27, 32, 15, 16, 17, 33, 34, 35, 36, 37, 38, 39, 145, 146, 147, 148, 149] (by decide +kernel) (by decide +kernel)
set_option maxRecDepth 20000 in
theorem gX8_carryOut_X2_moveUp : GoodIn wsX8_carryOut (wsV RX8 205 RX2 yX2_moveUp wsX2_moveUp) := goodIn_app (goodIn_of _ (by decide +kernel)) ggX8_carryOut_X2_moveUp
set_option maxRecDepth 20000 in
theorem ggX8_carryOut_X2_moveDown : GoodIn wsX8_carryOut wsX2_moveDown := goodIn_r _ [43, 27, 32, 15, 16, 17, 145, 146, 147, 148, 149] (by decide +kernel) (by decide +kernel)
set_option maxRecDepth 20000 in
theorem gX8_carryOut_X2_moveDown : GoodIn wsX8_carryOut (wsV RX8 209 RX2 yX2_moveDown wsX2_moveDown) := goodIn_app (goodIn_of _ (by decide +kernel)) ggX8_carryOut_X2_moveDown
set_option maxRecDepth 20000 in
theorem ggX8_carryOut_X2_analyse : GoodIn wsX8_carryOut wsX2_analyse := goodIn_r _ [47, 48, 49, 27, 50, 51, 52, 53, 54, 55, 56, 57, 58, 59, 60, 61, 62, 25, 63, 64, 65, 66, 67, 68, 69, 70, 71, 72, 73, 74, 75, 76, 77, 78, 79, 80, 81, 82, 83, 84, 85, 86, 87, 35, 88, 89, 90, 91, 92, 93, 94, 95, 96, 97, 98, 99, 100, 101, 102, 103, 104, 105, 10, 106, 12, 13, 107, 108, 109, 110, 111, 112, 113, 114, 115, 116, 117, 118, 119, 120, 121, 122, 123, 124, 125, 126, 127, 128, 129, 130, 138, 139, 140, 141, 145, 146, 147, 148, 149, 150, 151, 152, 153, 154, 155, 156, 157, 158, 159, 160, 161] (by decide +kernel) (by decide +kernel)
set_option maxRecDepth 20000 in
theorem gX8_carryOut_X2_analyse : GoodIn wsX8_carryOut (wsV RX8 212 RX2 yX2_analyse wsX2_analyse) := goodIn_app (goodIn_of _ (by decide +kernel)) ggX8_carryOut_X2_analyse
theorem dX8_carryOut_0 : decode cX8_carryOut 0 = .ok (.aload_n 0, 1) := by decide +kernel
theorem dX8_carryOut_1 : decode cX8_carryOut 1 = .ok (.getfield 10, 3) := by decide +kernel
theorem dX8_carryOut_4 : decode cX8_carryOut 4 = .ok (.getfield 134, 3) := by decide +kernel
theorem dX8_carryOut_7 : decode cX8_carryOut 7 = .ok (.getfield 70, 3) := by decide +kernel
theorem dX8_carryOut_10 : decode cX8_carryOut 10 = .ok (.istore_n 3, 1) := by decide +kernel
theorem dX8_carryOut_11 : decode cX8_carryOut 11 = .ok (.aload_n 1, 1) := by decide +kernel
theorem dX8_carryOut_12 : decode cX8_carryOut 12 = .ok (.getfield 145, 3) := by decide +kernel
theorem dX8_carryOut_15 : decode cX8_carryOut 15 = .ok (.istore 4, 2) := by decide +kernel
theorem dX8_carryOut_17 : decode cX8_carryOut 17 = .ok (.aload_n 1, 1) := by decide +kernel
theorem dX8_carryOut_18 : decode cX8_carryOut 18 = .ok (.getfield 148, 3) := by decide +kernel
theorem dX8_carryOut_21 : decode cX8_carryOut 21 = .ok (.getfield 70, 3) := by decide +kernel
theorem dX8_carryOut_24 : decode cX8_carryOut 24 = .ok (.istore 5, 2) := by decide +kernel
theorem dX8_carryOut_26 : decode cX8_carryOut 26 = .ok (.iload_n 2, 1) := by decide +kernel
theorem dX8_carryOut_27 : decode cX8_carryOut 27 = .ok (.ifCond .eq 22, 3) := by decide +kernel
theorem dX8_carryOut_30 : decode cX8_carryOut 30 = .ok (.aload_n 0, 1) := by decide +kernel
theorem dX8_carryOut_31 : decode cX8_carryOut 31 = .ok (.getfield 10, 3) := by decide +kernel
theorem dX8_carryOut_34 : decode cX8_carryOut 34 = .ok (.getfield 134, 3) := by decide +kernel
theorem dX8_carryOut_37 : decode cX8_carryOut 37 = .ok (.iload 4, 2) := by decide +kernel
theorem dX8_carryOut_39 : decode cX8_carryOut 39 = .ok (.aload_n 1, 1) := by decide +kernel
theorem dX8_carryOut_40 : decode cX8_carryOut 40 = .ok (.getfield 148, 3) := by decide +kernel
theorem dX8_carryOut_43 : decode cX8_carryOut 43 = .ok (.invokevirtual 194, 3) := by decide +kernel
theorem dX8_carryOut_46 : decode cX8_carryOut 46 = .ok (.goto 17, 3) := by decide +kernel
theorem dX8_carryOut_49 : decode cX8_carryOut 49 = .ok (.aload_n 0, 1) := by decide +kernel
theorem dX8_carryOut_50 : decode cX8_carryOut 50 = .ok (.getfield 10, 3) := by decide +kernel
theorem dX8_carryOut_53 : decode cX8_carryOut 53 = .ok (.getfield 134, 3) := by decide +kernel
theorem dX8_carryOut_56 : decode cX8_carryOut 56 = .ok (.iload 4, 2) := by decide +kernel
theorem dX8_carryOut_58 : decode cX8_carryOut 58 = .ok (.iload 5, 2) := by decide +kernel
theorem dX8_carryOut_60 : decode cX8_carryOut 60 = .ok (.invokevirtual 198, 3) := by decide +kernel
theorem dX8_carryOut_63 : decode cX8_carryOut 63 = .ok (.iload_n 2, 1) := by decide +kernel
theorem dX8_carryOut_64 : decode cX8_carryOut 64 = .ok (.ifCond .eq 11, 3) := by decide +kernel
theorem dX8_carryOut_67 : decode cX8_carryOut 67 = .ok (.iload 4, 2) := by decide +kernel
theorem dX8_carryOut_69 : decode cX8_carryOut 69 = .ok (.iload 5, 2) := by decide +kernel
theorem dX8_carryOut_71 : decode cX8_carryOut 71 = .ok (.iadd, 1) := by decide +kernel
theorem dX8_carryOut_72 : decode cX8_carryOut 72 = .ok (.goto 5, 3) := by decide +kernel
theorem dX8_carryOut_75 : decode cX8_carryOut 75 = .ok (.iload 4, 2) := by decide +kernel
theorem dX8_carryOut_77 : decode cX8_carryOut 77 = .ok (.istore 6, 2) := by decide +kernel
theorem dX8_carryOut_79 : decode cX8_carryOut 79 = .ok (.iconst 0, 1) := by decide +kernel
theorem dX8_carryOut_80 : decode cX8_carryOut 80 = .ok (.istore 7, 2) := by decide +kernel
theorem dX8_carryOut_82 : decode cX8_carryOut 82 = .ok (.iload 7, 2) := by decide +kernel
theorem dX8_carryOut_84 : decode cX8_carryOut 84 = .ok (.iconst 3, 1) := by decide +kernel
theorem dX8_carryOut_85 : decode cX8_carryOut 85 = .ok (.if_icmp .ge 68, 3) := by decide +kernel
theorem dX8_carryOut_88 : decode cX8_carryOut 88 = .ok (.aload_n 0, 1) := by decide +kernel
theorem dX8_carryOut_89 : decode cX8_carryOut 89 = .ok (.getfield 27, 3) := by decide +kernel
theorem dX8_carryOut_92 : decode cX8_carryOut 92 = .ok (.iload 7, 2) := by decide +kernel
theorem dX8_carryOut_94 : decode cX8_carryOut 94 = .ok (.aaload, 1) := by decide +kernel
theorem dX8_carryOut_95 : decode cX8_carryOut 95 = .ok (.astore 8, 2) := by decide +kernel
theorem dX8_carryOut_97 : decode cX8_carryOut 97 = .ok (.aload 8, 2) := by decide +kernel
theorem dX8_carryOut_99 : decode cX8_carryOut 99 = .ok (.iload 4, 2) := by decide +kernel
theorem dX8_carryOut_101 : decode cX8_carryOut 101 = .ok (.iload_n 3, 1) := by decide +kernel
theorem dX8_carryOut_102 : decode cX8_carryOut 102 = .ok (.invokevirtual 202, 3) := by decide +kernel
theorem dX8_carryOut_105 : decode cX8_carryOut 105 = .ok (.istore 9, 2) := by decide +kernel
theorem dX8_carryOut_107 : decode cX8_carryOut 107 = .ok (.iload_n 2, 1) := by decide +kernel
theorem dX8_carryOut_108 : decode cX8_carryOut 108 = .ok (.ifCond .eq 16, 3) := by decide +kernel
theorem dX8_carryOut_111 : decode cX8_carryOut 111 = .ok (.aload 8, 2) := by decide +kernel
theorem dX8_carryOut_113 : decode cX8_carryOut 113 = .ok (.iload 4, 2) := by decide +kernel
theorem dX8_carryOut_115 : decode cX8_carryOut 115 = .ok (.iload 5, 2) := by decide +kernel
theorem dX8_carryOut_117 : decode cX8_carryOut 117 = .ok (.iload_n 3, 1) := by decide +kernel
theorem dX8_carryOut_118 : decode cX8_carryOut 118 = .ok (.invokevirtual 205, 3) := by decide +kernel
theorem dX8_carryOut_121 : decode cX8_carryOut 121 = .ok (.goto 13, 3) := by decide +kernel
theorem dX8_carryOut_124 : decode cX8_carryOut 124 = .ok (.aload 8, 2) := by decide +kernel
theorem dX8_carryOut_126 : decode cX8_carryOut 126 = .ok (.iload 4, 2) := by decide +kernel
theorem dX8_carryOut_128 : decode cX8_carryOut 128 = .ok (.iload 5, 2) := by decide +kernel
theorem dX8_carryOut_130 : decode cX8_carryOut 130 = .ok (.iload_n 3, 1) := by decide +kernel
theorem dX8_carryOut_131 : decode cX8_carryOut 131 = .ok (.invokevirtual 209, 3) := by decide +kernel
theorem dX8_carryOut_134 : decode cX8_carryOut 134 = .ok (.aload 8, 2) := by decide +kernel
theorem dX8_carryOut_136 : decode cX8_carryOut 136 = .ok (.aload_n 0, 1) := by decide +kernel
theorem dX8_carryOut_137 : decode cX8_carryOut 137 = .ok (.getfield 10, 3) := by decide +kernel
theorem dX8_carryOut_140 : decode cX8_carryOut 140 = .ok (.iload 9, 2) := by decide +kernel
theorem dX8_carryOut_142 : decode cX8_carryOut 142 = .ok (.iload 6, 2) := by decide +kernel
theorem dX8_carryOut_144 : decode cX8_carryOut 144 = .ok (.invokevirtual 212, 3) := by decide +kernel
theorem dX8_carryOut_147 : decode cX8_carryOut 147 = .ok (.iinc 7 1, 3) := by decide +kernel
theorem dX8_carryOut_150 : decode cX8_carryOut 150 = .ok (.goto (-68), 3) := by decide +kernel
theorem dX8_carryOut_153 : decode cX8_carryOut 153 = .ok (.return_, 1) := by decide +kernel
set_option maxRecDepth 20000 in
theorem ggX8_stateAt_X2_isRaw : GoodIn wsX8_stateAt wsX2_isRaw := goodIn_r _ [9, 10, 61, 62, 63, 64, 65] (by decide +kernel) (by decide +kernel)
set_option maxRecDepth 20000 in
theorem gX8_stateAt_X2_isRaw : GoodIn wsX8_stateAt (wsV RX8 216 RX2 yX2_isRaw wsX2_isRaw) := goodIn_app (goodIn_of _ (by decide +kernel)) ggX8_stateAt_X2_isRaw
set_option maxRecDepth 20000 in
theorem ggX8_stateAt_X8_isBehindException : GoodIn wsX8_stateAt wsX8_isBehindException := goodIn_r _ [15, 2, 3, 16, 17, 18, 19, 20, 21, 22, 23, 24, 25, 14, 26, 27, 28, 29, 30, 31, 32, 33, 34, 35, 36, 37, 38, 39, 40, 41, 42, 43, 44, 45, 46, 47, 48, 49, 50, 51, 52, 53, 54, 55, 56, 57, 58, 59, 60] (by decide +kernel) (by decide +kernel)
set_option maxRecDepth 20000 in
theorem gX8_stateAt_X8_isBehindException : GoodIn wsX8_stateAt (wsV RX8 220 RX8 yX8_isBehindException wsX8_isBehindException) := goodIn_app (goodIn_of _ (by decide +kernel)) ggX8_stateAt_X8_isBehindException
theorem dX8_stateAt_0 : decode cX8_stateAt 0 = .ok (.aload_n 0, 1) := by decide +kernel
theorem dX8_stateAt_1 : decode cX8_stateAt 1 = .ok (.getfield 27, 3) := by decide +kernel
theorem dX8_stateAt_4 : decode cX8_stateAt 4 = .ok (.iload_n 1, 1) := by decide +kernel
theorem dX8_stateAt_5 : decode cX8_stateAt 5 = .ok (.aaload, 1) := by decide +kernel
theorem dX8_stateAt_6 : decode cX8_stateAt 6 = .ok (.iload_n 2, 1) := by decide +kernel
theorem dX8_stateAt_7 : decode cX8_stateAt 7 = .ok (.aload_n 0, 1) := by decide +kernel
theorem dX8_stateAt_8 : decode cX8_stateAt 8 = .ok (.getfield 10, 3) := by decide +kernel
theorem dX8_stateAt_11 : decode cX8_stateAt 11 = .ok (.getfield 134, 3) := by decide +kernel
theorem dX8_stateAt_14 : decode cX8_stateAt 14 = .ok (.getfield 70, 3) := by decide +kernel
theorem dX8_stateAt_17 : decode cX8_stateAt 17 = .ok (.invokevirtual 216, 3) := by decide +kernel
theorem dX8_stateAt_20 : decode cX8_stateAt 20 = .ok (.ifCond .ne 5, 3) := by decide +kernel
theorem dX8_stateAt_23 : decode cX8_stateAt 23 = .ok (.iconst 0, 1) := by decide +kernel
theorem dX8_stateAt_24 : decode cX8_stateAt 24 = .ok (.ireturn, 1) := by decide +kernel
theorem dX8_stateAt_25 : decode cX8_stateAt 25 = .ok (.iload_n 2, 1) := by decide +kernel
theorem dX8_stateAt_26 : decode cX8_stateAt 26 = .ok (.ifCond .le 21, 3) := by decide +kernel
theorem dX8_stateAt_29 : decode cX8_stateAt 29 = .ok (.iload_n 2, 1) := by decide +kernel
theorem dX8_stateAt_30 : decode cX8_stateAt 30 = .ok (.aload_n 0, 1) := by decide +kernel
theorem dX8_stateAt_31 : decode cX8_stateAt 31 = .ok (.getfield 10, 3) := by decide +kernel
theorem dX8_stateAt_34 : decode cX8_stateAt 34 = .ok (.getfield 134, 3) := by decide +kernel
theorem dX8_stateAt_37 : decode cX8_stateAt 37 = .ok (.getfield 70, 3) := by decide +kernel
theorem dX8_stateAt_40 : decode cX8_stateAt 40 = .ok (.if_icmp .ge 7, 3) := by decide +kernel
theorem dX8_stateAt_43 : decode cX8_stateAt 43 = .ok (.iconst 1, 1) := by decide +kernel
theorem dX8_stateAt_44 : decode cX8_stateAt 44 = .ok (.goto 4, 3) := by decide +kernel
theorem dX8_stateAt_47 : decode cX8_stateAt 47 = .ok (.iconst 0, 1) := by decide +kernel
theorem dX8_stateAt_48 : decode cX8_stateAt 48 = .ok (.istore_n 3, 1) := by decide +kernel
theorem dX8_stateAt_49 : decode cX8_stateAt 49 = .ok (.iload_n 1, 1) := by decide +kernel
theorem dX8_stateAt_50 : decode cX8_stateAt 50 = .ok (.iconst 2, 1) := by decide +kernel
theorem dX8_stateAt_51 : decode cX8_stateAt 51 = .ok (.if_icmp .ne 17, 3) := by decide +kernel
theorem dX8_stateAt_54 : decode cX8_stateAt 54 = .ok (.iload_n 3, 1) := by decide +kernel
theorem dX8_stateAt_55 : decode cX8_stateAt 55 = .ok (.ifCond .eq 13, 3) := by decide +kernel
theorem dX8_stateAt_58 : decode cX8_stateAt 58 = .ok (.aload_n 0, 1) := by decide +kernel
theorem dX8_stateAt_59 : decode cX8_stateAt 59 = .ok (.iload_n 2, 1) := by decide +kernel
theorem dX8_stateAt_60 : decode cX8_stateAt 60 = .ok (.invokevirtual 220, 3) := by decide +kernel
theorem dX8_stateAt_63 : decode cX8_stateAt 63 = .ok (.ifCond .eq 5, 3) := by decide +kernel
theorem dX8_stateAt_66 : decode cX8_stateAt 66 = .ok (.iconst 2, 1) := by decide +kernel
theorem dX8_stateAt_67 : decode cX8_stateAt 67 = .ok (.ireturn, 1) := by decide +kernel
theorem dX8_stateAt_68 : decode cX8_stateAt 68 = .ok (.iconst 1, 1) := by decide +kernel
theorem dX8_stateAt_69 : decode cX8_stateAt 69 = .ok (.ireturn, 1) := by decide +kernel
set_option maxRecDepth 20000 in
theorem ggX8_boundaryBehind_X8_stateAt : GoodIn wsX8_boundaryBehind wsX8_stateAt := goodIn_r _ [8, 9, 1, 2, 3, 10, 11, 12, 13, 14, 15, 16, 17, 18, 7, 19, 20, 21, 22, 23, 24, 25, 26, 27, 28, 29, 30, 31, 32, 33, 34, 35, 36, 37, 38, 39, 40, 41, 42, 43, 44, 45, 46, 47, 48, 49, 50, 51, 52, 53, 54, 55, 56, 57, 58, 59, 60, 61, 62, 63, 64, 65, 66, 67, 68, 69] (by decide +kernel) (by decide +kernel)
set_option maxRecDepth 20000 in
theorem gX8_boundaryBehind_X8_stateAt : GoodIn wsX8_boundaryBehind (wsV RX8 168 RX8 yX8_stateAt wsX8_stateAt) := goodIn_app (goodIn_of _ (by decide +kernel)) ggX8_boundaryBehind_X8_stateAt
theorem dX8_boundaryBehind_0 : decode cX8_boundaryBehind 0 = .ok (.iload_n 2, 1) := by decide +kernel
theorem dX8_boundaryBehind_1 : decode cX8_boundaryBehind 1 = .ok (.iconst 1, 1) := by decide +kernel
theorem dX8_boundaryBehind_2 : decode cX8_boundaryBehind 2 = .ok (.iadd, 1) := by decide +kernel
theorem dX8_boundaryBehind_3 : decode cX8_boundaryBehind 3 = .ok (.istore_n 3, 1) := by decide +kernel
theorem dX8_boundaryBehind_4 : decode cX8_boundaryBehind 4 = .ok (.iload_n 3, 1) := by decide +kernel
theorem dX8_boundaryBehind_5 : decode cX8_boundaryBehind 5 = .ok (.aload_n 0, 1) := by decide +kernel
theorem dX8_boundaryBehind_6 : decode cX8_boundaryBehind 6 = .ok (.getfield 10, 3) := by decide +kernel
theorem dX8_boundaryBehind_9 : decode cX8_boundaryBehind 9 = .ok (.getfield 134, 3) := by decide +kernel
theorem dX8_boundaryBehind_12 : decode cX8_boundaryBehind 12 = .ok (.getfield 70, 3) := by decide +kernel
theorem dX8_boundaryBehind_15 : decode cX8_boundaryBehind 15 = .ok (.if_icmp .gt 21, 3) := by decide +kernel
theorem dX8_boundaryBehind_18 : decode cX8_boundaryBehind 18 = .ok (.aload_n 0, 1) := by decide +kernel
theorem dX8_boundaryBehind_19 : decode cX8_boundaryBehind 19 = .ok (.iload_n 1, 1) := by decide +kernel
theorem dX8_boundaryBehind_20 : decode cX8_boundaryBehind 20 = .ok (.iload_n 3, 1) := by decide +kernel
theorem dX8_boundaryBehind_21 : decode cX8_boundaryBehind 21 = .ok (.invokevirtual 168, 3) := by decide +kernel
theorem dX8_boundaryBehind_24 : decode cX8_boundaryBehind 24 = .ok (.iconst 1, 1) := by decide +kernel
theorem dX8_boundaryBehind_25 : decode cX8_boundaryBehind 25 = .ok (.if_icmp .ne 5, 3) := by decide +kernel
theorem dX8_boundaryBehind_28 : decode cX8_boundaryBehind 28 = .ok (.iload_n 3, 1) := by decide +kernel
theorem dX8_boundaryBehind_29 : decode cX8_boundaryBehind 29 = .ok (.ireturn, 1) := by decide +kernel
theorem dX8_boundaryBehind_30 : decode cX8_boundaryBehind 30 = .ok (.iinc 3 1, 3) := by decide +kernel
theorem dX8_boundaryBehind_33 : decode cX8_boundaryBehind 33 = .ok (.goto (-29), 3) := by decide +kernel
theorem dX8_boundaryBehind_36 : decode cX8_boundaryBehind 36 = .ok (.bipush (-5), 2) := by decide +kernel
theorem dX8_boundaryBehind_38 : decode cX8_boundaryBehind 38 = .ok (.ireturn, 1) := by decide +kernel
set_option maxRecDepth 20000 in
theorem ggX8_isBehindException_X4_at : GoodIn wsX8_isBehindException wsX4_at := goodIn_r _ [7, 8, 9, 47, 48] (by decide +kernel) (by decide +kernel)
set_option maxRecDepth 20000 in
theorem gX8_isBehindException_X4_at : GoodIn wsX8_isBehindException (wsV RX8 109 RX4 yX4_at wsX4_at) := goodIn_app (goodIn_of _ (by decide +kernel)) ggX8_isBehindException_X4_at
set_option maxRecDepth 20000 in
theorem ggX8_isBehindException_X8_isExceptionBefore : GoodIn wsX8_isBehindException wsX8_isExceptionBefore := goodIn_r _ [14, 1, 2, 15, 16, 17, 18, 19, 20, 21, 4, 5, 6, 7, 8, 9, 22, 23, 24, 25, 26, 27, 28, 29, 13, 30, 31, 32, 33, 34, 35, 36, 37, 38, 39, 40, 41, 42, 43, 44, 45, 46, 47, 48] (by decide +kernel) (by decide +kernel)
set_option maxRecDepth 20000 in
theorem gX8_isBehindException_X8_isExceptionBefore : GoodIn wsX8_isBehindException (wsV RX8 223 RX8 yX8_isExceptionBefore wsX8_isExceptionBefore) := goodIn_app (goodIn_of _ (by decide +kernel)) ggX8_isBehindException_X8_isExceptionBefore
