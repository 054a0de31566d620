set_option maxRecDepth 20000 in
theorem ggX8_isBehindException_X7_classAt : GoodIn wsX8_isBehindException wsX7_classAt := goodIn_r _ [19, 20, 21, 4, 5, 6, 7, 8, 9, 22, 23, 24, 18, 25, 26, 45, 46, 47, 48] (by decide +kernel) (by decide +kernel)
set_option maxRecDepth 20000 in
theorem gX8_isBehindException_X7_classAt : GoodIn wsX8_isBehindException (wsV RX8 175 RX7 yX7_classAt wsX7_classAt) := goodIn_app (goodIn_of _ (by decide +kernel)) ggX8_isBehindException_X7_classAt
theorem dX8_isBehindException_0 : decode cX8_isBehindException 0 = .ok (.iload_n 1, 1) := by decide +kernel
theorem dX8_isBehindException_1 : decode cX8_isBehindException 1 = .ok (.iconst 1, 1) := by decide +kernel
theorem dX8_isBehindException_2 : decode cX8_isBehindException 2 = .ok (.isub, 1) := by decide +kernel
theorem dX8_isBehindException_3 : decode cX8_isBehindException 3 = .ok (.istore_n 2, 1) := by decide +kernel
theorem dX8_isBehindException_4 : decode cX8_isBehindException 4 = .ok (.iload_n 2, 1) := by decide +kernel
theorem dX8_isBehindException_5 : decode cX8_isBehindException 5 = .ok (.ifCond .le 49, 3) := by decide +kernel
theorem dX8_isBehindException_8 : decode cX8_isBehindException 8 = .ok (.aload_n 0, 1) := by decide +kernel
theorem dX8_isBehindException_9 : decode cX8_isBehindException 9 = .ok (.getfield 10, 3) := by decide +kernel
theorem dX8_isBehindException_12 : decode cX8_isBehindException 12 = .ok (.getfield 134, 3) := by decide +kernel
theorem dX8_isBehindException_15 : decode cX8_isBehindException 15 = .ok (.iload_n 2, 1) := by decide +kernel
theorem dX8_isBehindException_16 : decode cX8_isBehindException 16 = .ok (.invokevirtual 109, 3) := by decide +kernel
theorem dX8_isBehindException_19 : decode cX8_isBehindException 19 = .ok (.bipush 46, 2) := by decide +kernel
theorem dX8_isBehindException_21 : decode cX8_isBehindException 21 = .ok (.if_icmp .ne 13, 3) := by decide +kernel
theorem dX8_isBehindException_24 : decode cX8_isBehindException 24 = .ok (.aload_n 0, 1) := by decide +kernel
theorem dX8_isBehindException_25 : decode cX8_isBehindException 25 = .ok (.iload_n 2, 1) := by decide +kernel
theorem dX8_isBehindException_26 : decode cX8_isBehindException 26 = .ok (.invokevirtual 223, 3) := by decide +kernel
theorem dX8_isBehindException_29 : decode cX8_isBehindException 29 = .ok (.ifCond .eq 5, 3) := by decide +kernel
theorem dX8_isBehindException_32 : decode cX8_isBehindException 32 = .ok (.iconst 1, 1) := by decide +kernel
theorem dX8_isBehindException_33 : decode cX8_isBehindException 33 = .ok (.ireturn, 1) := by decide +kernel
theorem dX8_isBehindException_34 : decode cX8_isBehindException 34 = .ok (.aload_n 0, 1) := by decide +kernel
theorem dX8_isBehindException_35 : decode cX8_isBehindException 35 = .ok (.getfield 10, 3) := by decide +kernel
theorem dX8_isBehindException_38 : decode cX8_isBehindException 38 = .ok (.iload_n 2, 1) := by decide +kernel
theorem dX8_isBehindException_39 : decode cX8_isBehindException 39 = .ok (.invokevirtual 175, 3) := by decide +kernel
theorem dX8_isBehindException_42 : decode cX8_isBehindException 42 = .ok (.iconst 2, 1) := by decide +kernel
theorem dX8_isBehindException_43 : decode cX8_isBehindException 43 = .ok (.if_icmp .eq 5, 3) := by decide +kernel
theorem dX8_isBehindException_46 : decode cX8_isBehindException 46 = .ok (.iconst 0, 1) := by decide +kernel
theorem dX8_isBehindException_47 : decode cX8_isBehindException 47 = .ok (.ireturn, 1) := by decide +kernel
theorem dX8_isBehindException_48 : decode cX8_isBehindException 48 = .ok (.iinc 2 (-1), 3) := by decide +kernel
theorem dX8_isBehindException_51 : decode cX8_isBehindException 51 = .ok (.goto (-47), 3) := by decide +kernel
theorem dX8_isBehindException_54 : decode cX8_isBehindException 54 = .ok (.iconst 0, 1) := by decide +kernel
theorem dX8_isBehindException_55 : decode cX8_isBehindException 55 = .ok (.ireturn, 1) := by decide +kernel
set_option maxRecDepth 20000 in
theorem ggX8_isExceptionBefore_X7_classAt : GoodIn wsX8_isExceptionBefore wsX7_classAt := goodIn_r _ [7, 8, 9, 10, 11, 12, 13, 14, 15, 16, 17, 18, 6, 19, 20, 40, 41, 42, 43] (by decide +kernel) (by decide +kernel)
set_option maxRecDepth 20000 in
theorem gX8_isExceptionBefore_X7_classAt : GoodIn wsX8_isExceptionBefore (wsV RX8 175 RX7 yX7_classAt wsX7_classAt) := goodIn_app (goodIn_of _ (by decide +kernel)) ggX8_isExceptionBefore_X7_classAt
set_option maxRecDepth 20000 in
theorem ggX8_isExceptionBefore_X8_exceptionAt : GoodIn wsX8_isExceptionBefore wsX8_exceptionAt := goodIn_r _ [25, 26, 27, 28, 29, 30, 12, 31, 14, 32, 10, 11, 13, 15, 33, 34, 35, 36, 37, 38, 39, 42, 43] (by decide +kernel) (by decide +kernel)
set_option maxRecDepth 20000 in
theorem gX8_isExceptionBefore_X8_exceptionAt : GoodIn wsX8_isExceptionBefore (wsV RX8 127 RX8 yX8_exceptionAt wsX8_exceptionAt) := goodIn_app (goodIn_of _ (by decide +kernel)) ggX8_isExceptionBefore_X8_exceptionAt
theorem dX8_isExceptionBefore_0 : decode cX8_isExceptionBefore 0 = .ok (.iload_n 1, 1) := by decide +kernel
theorem dX8_isExceptionBefore_1 : decode cX8_isExceptionBefore 1 = .ok (.istore_n 2, 1) := by decide +kernel
theorem dX8_isExceptionBefore_2 : decode cX8_isExceptionBefore 2 = .ok (.iload_n 2, 1) := by decide +kernel
theorem dX8_isExceptionBefore_3 : decode cX8_isExceptionBefore 3 = .ok (.ifCond .le 22, 3) := by decide +kernel
theorem dX8_isExceptionBefore_6 : decode cX8_isExceptionBefore 6 = .ok (.aload_n 0, 1) := by decide +kernel
theorem dX8_isExceptionBefore_7 : decode cX8_isExceptionBefore 7 = .ok (.getfield 10, 3) := by decide +kernel
theorem dX8_isExceptionBefore_10 : decode cX8_isExceptionBefore 10 = .ok (.iload_n 2, 1) := by decide +kernel
theorem dX8_isExceptionBefore_11 : decode cX8_isExceptionBefore 11 = .ok (.iconst 1, 1) := by decide +kernel
theorem dX8_isExceptionBefore_12 : decode cX8_isExceptionBefore 12 = .ok (.isub, 1) := by decide +kernel
theorem dX8_isExceptionBefore_13 : decode cX8_isExceptionBefore 13 = .ok (.invokevirtual 175, 3) := by decide +kernel
theorem dX8_isExceptionBefore_16 : decode cX8_isExceptionBefore 16 = .ok (.ifCond .ne 9, 3) := by decide +kernel
theorem dX8_isExceptionBefore_19 : decode cX8_isExceptionBefore 19 = .ok (.iinc 2 (-1), 3) := by decide +kernel
theorem dX8_isExceptionBefore_22 : decode cX8_isExceptionBefore 22 = .ok (.goto (-20), 3) := by decide +kernel
theorem dX8_isExceptionBefore_25 : decode cX8_isExceptionBefore 25 = .ok (.aload_n 0, 1) := by decide +kernel
theorem dX8_isExceptionBefore_26 : decode cX8_isExceptionBefore 26 = .ok (.aload_n 0, 1) := by decide +kernel
theorem dX8_isExceptionBefore_27 : decode cX8_isExceptionBefore 27 = .ok (.getfield 10, 3) := by decide +kernel
theorem dX8_isExceptionBefore_30 : decode cX8_isExceptionBefore 30 = .ok (.getfield 134, 3) := by decide +kernel
theorem dX8_isExceptionBefore_33 : decode cX8_isExceptionBefore 33 = .ok (.iload_n 2, 1) := by decide +kernel
theorem dX8_isExceptionBefore_34 : decode cX8_isExceptionBefore 34 = .ok (.iload_n 1, 1) := by decide +kernel
theorem dX8_isExceptionBefore_35 : decode cX8_isExceptionBefore 35 = .ok (.iload_n 2, 1) := by decide +kernel
theorem dX8_isExceptionBefore_36 : decode cX8_isExceptionBefore 36 = .ok (.isub, 1) := by decide +kernel
theorem dX8_isExceptionBefore_37 : decode cX8_isExceptionBefore 37 = .ok (.invokevirtual 127, 3) := by decide +kernel
theorem dX8_isExceptionBefore_40 : decode cX8_isExceptionBefore 40 = .ok (.bipush (-5), 2) := by decide +kernel
theorem dX8_isExceptionBefore_42 : decode cX8_isExceptionBefore 42 = .ok (.if_icmp .eq 7, 3) := by decide +kernel
theorem dX8_isExceptionBefore_45 : decode cX8_isExceptionBefore 45 = .ok (.iconst 1, 1) := by decide +kernel
theorem dX8_isExceptionBefore_46 : decode cX8_isExceptionBefore 46 = .ok (.goto 4, 3) := by decide +kernel
theorem dX8_isExceptionBefore_49 : decode cX8_isExceptionBefore 49 = .ok (.iconst 0, 1) := by decide +kernel
theorem dX8_isExceptionBefore_50 : decode cX8_isExceptionBefore 50 = .ok (.ireturn, 1) := by decide +kernel
set_option maxRecDepth 20000 in
theorem ggX8_exceptionAt_X4_isPartOf : GoodIn wsX8_exceptionAt wsX4_isPartOf := goodIn_r _ [7, 8, 9, 10, 11, 6, 12, 13, 21, 22] (by decide +kernel) (by decide +kernel)
set_option maxRecDepth 20000 in
theorem gX8_exceptionAt_X4_isPartOf : GoodIn wsX8_exceptionAt (wsV RX8 226 RX4 yX4_isPartOf wsX4_isPartOf) := goodIn_app (goodIn_of _ (by decide +kernel)) ggX8_exceptionAt_X4_isPartOf
theorem dX8_exceptionAt_0 : decode cX8_exceptionAt 0 = .ok (.iconst 0, 1) := by decide +kernel
theorem dX8_exceptionAt_1 : decode cX8_exceptionAt 1 = .ok (.istore 4, 2) := by decide +kernel
theorem dX8_exceptionAt_3 : decode cX8_exceptionAt 3 = .ok (.iload 4, 2) := by decide +kernel
theorem dX8_exceptionAt_5 : decode cX8_exceptionAt 5 = .ok (.aload_n 0, 1) := by decide +kernel
theorem dX8_exceptionAt_6 : decode cX8_exceptionAt 6 = .ok (.getfield 131, 3) := by decide +kernel
theorem dX8_exceptionAt_9 : decode cX8_exceptionAt 9 = .ok (.if_icmp .ge 28, 3) := by decide +kernel
theorem dX8_exceptionAt_12 : decode cX8_exceptionAt 12 = .ok (.aload_n 0, 1) := by decide +kernel
theorem dX8_exceptionAt_13 : decode cX8_exceptionAt 13 = .ok (.getfield 39, 3) := by decide +kernel
theorem dX8_exceptionAt_16 : decode cX8_exceptionAt 16 = .ok (.iload 4, 2) := by decide +kernel
theorem dX8_exceptionAt_18 : decode cX8_exceptionAt 18 = .ok (.aaload, 1) := by decide +kernel
theorem dX8_exceptionAt_19 : decode cX8_exceptionAt 19 = .ok (.aload_n 1, 1) := by decide +kernel
theorem dX8_exceptionAt_20 : decode cX8_exceptionAt 20 = .ok (.iload_n 2, 1) := by decide +kernel
theorem dX8_exceptionAt_21 : decode cX8_exceptionAt 21 = .ok (.iload_n 3, 1) := by decide +kernel
theorem dX8_exceptionAt_22 : decode cX8_exceptionAt 22 = .ok (.invokevirtual 226, 3) := by decide +kernel
theorem dX8_exceptionAt_25 : decode cX8_exceptionAt 25 = .ok (.ifCond .eq 6, 3) := by decide +kernel
theorem dX8_exceptionAt_28 : decode cX8_exceptionAt 28 = .ok (.iload 4, 2) := by decide +kernel
theorem dX8_exceptionAt_30 : decode cX8_exceptionAt 30 = .ok (.ireturn, 1) := by decide +kernel
theorem dX8_exceptionAt_31 : decode cX8_exceptionAt 31 = .ok (.iinc 4 1, 3) := by decide +kernel
theorem dX8_exceptionAt_34 : decode cX8_exceptionAt 34 = .ok (.goto (-31), 3) := by decide +kernel
theorem dX8_exceptionAt_37 : decode cX8_exceptionAt 37 = .ok (.bipush (-5), 2) := by decide +kernel
theorem dX8_exceptionAt_39 : decode cX8_exceptionAt 39 = .ok (.ireturn, 1) := by decide +kernel
set_option maxRecDepth 20000 in
theorem ggX9_init_X9_firstClass : GoodIn wsX9_init wsX9_firstClass := goodIn_r _ [50, 51, 52, 49, 53] (by decide +kernel) (by decide +kernel)
set_option maxRecDepth 20000 in
theorem gX9_init_X9_firstClass : GoodIn wsX9_init (va_wsS RX9 132 yX9_firstClass wsX9_firstClass) := goodIn_app (goodIn_of _ (by decide +kernel)) ggX9_init_X9_firstClass
theorem dX9_init_0 : decode cX9_init 0 = .ok (.aload_n 0, 1) := by decide +kernel
theorem dX9_init_1 : decode cX9_init 1 = .ok (.invokespecial 1, 3) := by decide +kernel
theorem dX9_init_4 : decode cX9_init 4 = .ok (.aload_n 0, 1) := by decide +kernel
theorem dX9_init_5 : decode cX9_init 5 = .ok (.bipush 127, 2) := by decide +kernel
theorem dX9_init_7 : decode cX9_init 7 = .ok (.newarray .int, 2) := by decide +kernel
theorem dX9_init_9 : decode cX9_init 9 = .ok (.putfield 7, 3) := by decide +kernel
theorem dX9_init_12 : decode cX9_init 12 = .ok (.aload_n 0, 1) := by decide +kernel
theorem dX9_init_13 : decode cX9_init 13 = .ok (.bipush 24, 2) := by decide +kernel
theorem dX9_init_15 : decode cX9_init 15 = .ok (.newarray .char, 2) := by decide +kernel
theorem dX9_init_17 : decode cX9_init 17 = .ok (.putfield 13, 3) := by decide +kernel
theorem dX9_init_20 : decode cX9_init 20 = .ok (.aload_n 0, 1) := by decide +kernel
theorem dX9_init_21 : decode cX9_init 21 = .ok (.iconst 5, 1) := by decide +kernel
theorem dX9_init_22 : decode cX9_init 22 = .ok (.newarray .boolean, 2) := by decide +kernel
theorem dX9_init_24 : decode cX9_init 24 = .ok (.putfield 17, 3) := by decide +kernel
theorem dX9_init_27 : decode cX9_init 27 = .ok (.aload_n 0, 1) := by decide +kernel
theorem dX9_init_28 : decode cX9_init 28 = .ok (.iconst 5, 1) := by decide +kernel
theorem dX9_init_29 : decode cX9_init 29 = .ok (.newarray .int, 2) := by decide +kernel
theorem dX9_init_31 : decode cX9_init 31 = .ok (.putfield 21, 3) := by decide +kernel
theorem dX9_init_34 : decode cX9_init 34 = .ok (.aload_n 0, 1) := by decide +kernel
theorem dX9_init_35 : decode cX9_init 35 = .ok (.iconst 5, 1) := by decide +kernel
theorem dX9_init_36 : decode cX9_init 36 = .ok (.newarray .int, 2) := by decide +kernel
theorem dX9_init_38 : decode cX9_init 38 = .ok (.putfield 24, 3) := by decide +kernel
theorem dX9_init_41 : decode cX9_init 41 = .ok (.aload_n 0, 1) := by decide +kernel
theorem dX9_init_42 : decode cX9_init 42 = .ok (.iconst 5, 1) := by decide +kernel
theorem dX9_init_43 : decode cX9_init 43 = .ok (.newarray .boolean, 2) := by decide +kernel
theorem dX9_init_45 : decode cX9_init 45 = .ok (.putfield 27, 3) := by decide +kernel
theorem dX9_init_48 : decode cX9_init 48 = .ok (.aload_n 0, 1) := by decide +kernel
theorem dX9_init_49 : decode cX9_init 49 = .ok (.iconst 5, 1) := by decide +kernel
theorem dX9_init_50 : decode cX9_init 50 = .ok (.newarray .int, 2) := by decide +kernel
theorem dX9_init_52 : decode cX9_init 52 = .ok (.putfield 30, 3) := by decide +kernel
theorem dX9_init_55 : decode cX9_init 55 = .ok (.aload_n 0, 1) := by decide +kernel
theorem dX9_init_56 : decode cX9_init 56 = .ok (.iconst 5, 1) := by decide +kernel
theorem dX9_init_57 : decode cX9_init 57 = .ok (.newarray .int, 2) := by decide +kernel
theorem dX9_init_59 : decode cX9_init 59 = .ok (.putfield 33, 3) := by decide +kernel
theorem dX9_init_62 : decode cX9_init 62 = .ok (.aload_n 0, 1) := by decide +kernel
theorem dX9_init_63 : decode cX9_init 63 = .ok (.iconst 5, 1) := by decide +kernel
theorem dX9_init_64 : decode cX9_init 64 = .ok (.newarray .int, 2) := by decide +kernel
theorem dX9_init_66 : decode cX9_init 66 = .ok (.putfield 36, 3) := by decide +kernel
theorem dX9_init_69 : decode cX9_init 69 = .ok (.aload_n 0, 1) := by decide +kernel
theorem dX9_init_70 : decode cX9_init 70 = .ok (.bipush 24, 2) := by decide +kernel
theorem dX9_init_72 : decode cX9_init 72 = .ok (.newarray .int, 2) := by decide +kernel
theorem dX9_init_74 : decode cX9_init 74 = .ok (.putfield 39, 3) := by decide +kernel
theorem dX9_init_77 : decode cX9_init 77 = .ok (.aload_n 0, 1) := by decide +kernel
theorem dX9_init_78 : decode cX9_init 78 = .ok (.bipush 24, 2) := by decide +kernel
theorem dX9_init_80 : decode cX9_init 80 = .ok (.newarray .int, 2) := by decide +kernel
theorem dX9_init_82 : decode cX9_init 82 = .ok (.putfield 42, 3) := by decide +kernel
theorem dX9_init_85 : decode cX9_init 85 = .ok (.aload_n 0, 1) := by decide +kernel
theorem dX9_init_86 : decode cX9_init 86 = .ok (.bipush 15, 2) := by decide +kernel
theorem dX9_init_88 : decode cX9_init 88 = .ok (.newarray .int, 2) := by decide +kernel
theorem dX9_init_90 : decode cX9_init 90 = .ok (.putfield 45, 3) := by decide +kernel
theorem dX9_init_93 : decode cX9_init 93 = .ok (.aload_n 0, 1) := by decide +kernel
theorem dX9_init_94 : decode cX9_init 94 = .ok (.sipush 360, 3) := by decide +kernel
theorem dX9_init_97 : decode cX9_init 97 = .ok (.newarray .char, 2) := by decide +kernel
theorem dX9_init_99 : decode cX9_init 99 = .ok (.putfield 48, 3) := by decide +kernel
theorem dX9_init_102 : decode cX9_init 102 = .ok (.aload_n 0, 1) := by decide +kernel
theorem dX9_init_103 : decode cX9_init 103 = .ok (.sipush 360, 3) := by decide +kernel
theorem dX9_init_106 : decode cX9_init 106 = .ok (.newarray .int, 2) := by decide +kernel
theorem dX9_init_108 : decode cX9_init 108 = .ok (.putfield 51, 3) := by decide +kernel
theorem dX9_init_111 : decode cX9_init 111 = .ok (.aload_n 0, 1) := by decide +kernel
theorem dX9_init_112 : decode cX9_init 112 = .ok (.sipush 360, 3) := by decide +kernel
theorem dX9_init_115 : decode cX9_init 115 = .ok (.newarray .int, 2) := by decide +kernel
theorem dX9_init_117 : decode cX9_init 117 = .ok (.putfield 54, 3) := by decide +kernel
theorem dX9_init_120 : decode cX9_init 120 = .ok (.aload_n 0, 1) := by decide +kernel
theorem dX9_init_121 : decode cX9_init 121 = .ok (.bipush 15, 2) := by decide +kernel
theorem dX9_init_123 : decode cX9_init 123 = .ok (.newarray .boolean, 2) := by decide +kernel
theorem dX9_init_125 : decode cX9_init 125 = .ok (.putfield 57, 3) := by decide +kernel
theorem dX9_init_128 : decode cX9_init 128 = .ok (.aload_n 0, 1) := by decide +kernel
theorem dX9_init_129 : decode cX9_init 129 = .ok (.bipush 15, 2) := by decide +kernel
theorem dX9_init_131 : decode cX9_init 131 = .ok (.newarray .boolean, 2) := by decide +kernel
theorem dX9_init_133 : decode cX9_init 133 = .ok (.putfield 60, 3) := by decide +kernel
theorem dX9_init_136 : decode cX9_init 136 = .ok (.aload_n 0, 1) := by decide +kernel
theorem dX9_init_137 : decode cX9_init 137 = .ok (.bipush 15, 2) := by decide +kernel
theorem dX9_init_139 : decode cX9_init 139 = .ok (.newarray .int, 2) := by decide +kernel
theorem dX9_init_141 : decode cX9_init 141 = .ok (.putfield 63, 3) := by decide +kernel
theorem dX9_init_144 : decode cX9_init 144 = .ok (.aload_n 0, 1) := by decide +kernel
theorem dX9_init_145 : decode cX9_init 145 = .ok (.bipush 15, 2) := by decide +kernel
theorem dX9_init_147 : decode cX9_init 147 = .ok (.newarray .int, 2) := by decide +kernel
theorem dX9_init_149 : decode cX9_init 149 = .ok (.putfield 66, 3) := by decide +kernel
theorem dX9_init_152 : decode cX9_init 152 = .ok (.aload_n 0, 1) := by decide +kernel
theorem dX9_init_153 : decode cX9_init 153 = .ok (.bipush 15, 2) := by decide +kernel
theorem dX9_init_155 : decode cX9_init 155 = .ok (.newarray .boolean, 2) := by decide +kernel
theorem dX9_init_157 : decode cX9_init 157 = .ok (.putfield 69, 3) := by decide +kernel
theorem dX9_init_160 : decode cX9_init 160 = .ok (.aload_n 0, 1) := by decide +kernel
theorem dX9_init_161 : decode cX9_init 161 = .ok (.bipush 15, 2) := by decide +kernel
theorem dX9_init_163 : decode cX9_init 163 = .ok (.newarray .int, 2) := by decide +kernel
theorem dX9_init_165 : decode cX9_init 165 = .ok (.putfield 72, 3) := by decide +kernel
theorem dX9_init_168 : decode cX9_init 168 = .ok (.aload_n 0, 1) := by decide +kernel
theorem dX9_init_169 : decode cX9_init 169 = .ok (.bipush 15, 2) := by decide +kernel
theorem dX9_init_171 : decode cX9_init 171 = .ok (.newarray .int, 2) := by decide +kernel
theorem dX9_init_173 : decode cX9_init 173 = .ok (.putfield 75, 3) := by decide +kernel
theorem dX9_init_176 : decode cX9_init 176 = .ok (.aload_n 0, 1) := by decide +kernel
theorem dX9_init_177 : decode cX9_init 177 = .ok (.bipush 100, 2) := by decide +kernel
theorem dX9_init_179 : decode cX9_init 179 = .ok (.newarray .char, 2) := by decide +kernel
theorem dX9_init_181 : decode cX9_init 181 = .ok (.putfield 78, 3) := by decide +kernel
theorem dX9_init_184 : decode cX9_init 184 = .ok (.aload_n 0, 1) := by decide +kernel
theorem dX9_init_185 : decode cX9_init 185 = .ok (.iconst 3, 1) := by decide +kernel
theorem dX9_init_186 : decode cX9_init 186 = .ok (.newarray .int, 2) := by decide +kernel
theorem dX9_init_188 : decode cX9_init 188 = .ok (.putfield 81, 3) := by decide +kernel
theorem dX9_init_191 : decode cX9_init 191 = .ok (.aload_n 0, 1) := by decide +kernel
theorem dX9_init_192 : decode cX9_init 192 = .ok (.sipush 303, 3) := by decide +kernel
theorem dX9_init_195 : decode cX9_init 195 = .ok (.newarray .int, 2) := by decide +kernel
theorem dX9_init_197 : decode cX9_init 197 = .ok (.putfield 84, 3) := by decide +kernel
theorem dX9_init_200 : decode cX9_init 200 = .ok (.aload_n 0, 1) := by decide +kernel
theorem dX9_init_201 : decode cX9_init 201 = .ok (.iconst 3, 1) := by decide +kernel
theorem dX9_init_202 : decode cX9_init 202 = .ok (.newarray .int, 2) := by decide +kernel
theorem dX9_init_204 : decode cX9_init 204 = .ok (.putfield 87, 3) := by decide +kernel
theorem dX9_init_207 : decode cX9_init 207 = .ok (.aload_n 0, 1) := by decide +kernel
theorem dX9_init_208 : decode cX9_init 208 = .ok (.iconst 3, 1) := by decide +kernel
theorem dX9_init_209 : decode cX9_init 209 = .ok (.newarray .int, 2) := by decide +kernel
theorem dX9_init_211 : decode cX9_init 211 = .ok (.putfield 90, 3) := by decide +kernel
theorem dX9_init_214 : decode cX9_init 214 = .ok (.aload_n 0, 1) := by decide +kernel
theorem dX9_init_215 : decode cX9_init 215 = .ok (.bipush 101, 2) := by decide +kernel
theorem dX9_init_217 : decode cX9_init 217 = .ok (.newarray .int, 2) := by decide +kernel
theorem dX9_init_219 : decode cX9_init 219 = .ok (.putfield 93, 3) := by decide +kernel
theorem dX9_init_222 : decode cX9_init 222 = .ok (.aload_n 0, 1) := by decide +kernel
theorem dX9_init_223 : decode cX9_init 223 = .ok (.bipush 100, 2) := by decide +kernel
theorem dX9_init_225 : decode cX9_init 225 = .ok (.newarray .char, 2) := by decide +kernel
theorem dX9_init_227 : decode cX9_init 227 = .ok (.putfield 96, 3) := by decide +kernel
theorem dX9_init_230 : decode cX9_init 230 = .ok (.aload_n 0, 1) := by decide +kernel
theorem dX9_init_231 : decode cX9_init 231 = .ok (.bipush 30, 2) := by decide +kernel
theorem dX9_init_233 : decode cX9_init 233 = .ok (.newarray .boolean, 2) := by decide +kernel
theorem dX9_init_235 : decode cX9_init 235 = .ok (.putfield 99, 3) := by decide +kernel
theorem dX9_init_238 : decode cX9_init 238 = .ok (.aload_n 0, 1) := by decide +kernel
theorem dX9_init_239 : decode cX9_init 239 = .ok (.bipush 30, 2) := by decide +kernel
theorem dX9_init_241 : decode cX9_init 241 = .ok (.newarray .int, 2) := by decide +kernel
theorem dX9_init_243 : decode cX9_init 243 = .ok (.putfield 102, 3) := by decide +kernel
theorem dX9_init_246 : decode cX9_init 246 = .ok (.aload_n 0, 1) := by decide +kernel
theorem dX9_init_247 : decode cX9_init 247 = .ok (.bipush 30, 2) := by decide +kernel
theorem dX9_init_249 : decode cX9_init 249 = .ok (.newarray .int, 2) := by decide +kernel
theorem dX9_init_251 : decode cX9_init 251 = .ok (.putfield 105, 3) := by decide +kernel
theorem dX9_init_254 : decode cX9_init 254 = .ok (.aload_n 0, 1) := by decide +kernel
theorem dX9_init_255 : decode cX9_init 255 = .ok (.sipush 3000, 3) := by decide +kernel
theorem dX9_init_258 : decode cX9_init 258 = .ok (.newarray .char, 2) := by decide +kernel
theorem dX9_init_260 : decode cX9_init 260 = .ok (.putfield 108, 3) := by decide +kernel
theorem dX9_init_263 : decode cX9_init 263 = .ok (.aload_n 0, 1) := by decide +kernel
theorem dX9_init_264 : decode cX9_init 264 = .ok (.bipush 30, 2) := by decide +kernel
theorem dX9_init_266 : decode cX9_init 266 = .ok (.newarray .boolean, 2) := by decide +kernel
theorem dX9_init_268 : decode cX9_init 268 = .ok (.putfield 111, 3) := by decide +kernel
theorem dX9_init_271 : decode cX9_init 271 = .ok (.aload_n 0, 1) := by decide +kernel
theorem dX9_init_272 : decode cX9_init 272 = .ok (.bipush 30, 2) := by decide +kernel
theorem dX9_init_274 : decode cX9_init 274 = .ok (.newarray .int, 2) := by decide +kernel
theorem dX9_init_276 : decode cX9_init 276 = .ok (.putfield 114, 3) := by decide +kernel
theorem dX9_init_279 : decode cX9_init 279 = .ok (.aload_n 0, 1) := by decide +kernel
theorem dX9_init_280 : decode cX9_init 280 = .ok (.bipush 30, 2) := by decide +kernel
theorem dX9_init_282 : decode cX9_init 282 = .ok (.newarray .int, 2) := by decide +kernel
theorem dX9_init_284 : decode cX9_init 284 = .ok (.putfield 117, 3) := by decide +kernel
theorem dX9_init_287 : decode cX9_init 287 = .ok (.aload_n 0, 1) := by decide +kernel
theorem dX9_init_288 : decode cX9_init 288 = .ok (.sipush 3000, 3) := by decide +kernel
theorem dX9_init_291 : decode cX9_init 291 = .ok (.newarray .char, 2) := by decide +kernel
theorem dX9_init_293 : decode cX9_init 293 = .ok (.putfield 120, 3) := by decide +kernel
theorem dX9_init_296 : decode cX9_init 296 = .ok (.aload_n 0, 1) := by decide +kernel
theorem dX9_init_297 : decode cX9_init 297 = .ok (.bipush 10, 2) := by decide +kernel
theorem dX9_init_299 : decode cX9_init 299 = .ok (.newarray .int, 2) := by decide +kernel
theorem dX9_init_301 : decode cX9_init 301 = .ok (.putfield 123, 3) := by decide +kernel
theorem dX9_init_304 : decode cX9_init 304 = .ok (.aload_n 0, 1) := by decide +kernel
theorem dX9_init_305 : decode cX9_init 305 = .ok (.bipush 80, 2) := by decide +kernel
theorem dX9_init_307 : decode cX9_init 307 = .ok (.newarray .char, 2) := by decide +kernel
theorem dX9_init_309 : decode cX9_init 309 = .ok (.putfield 126, 3) := by decide +kernel
theorem dX9_init_312 : decode cX9_init 312 = .ok (.aload_n 0, 1) := by decide +kernel
theorem dX9_init_313 : decode cX9_init 313 = .ok (.bipush 101, 2) := by decide +kernel
theorem dX9_init_315 : decode cX9_init 315 = .ok (.newarray .int, 2) := by decide +kernel
theorem dX9_init_317 : decode cX9_init 317 = .ok (.putfield 129, 3) := by decide +kernel
theorem dX9_init_320 : decode cX9_init 320 = .ok (.bipush 32, 2) := by decide +kernel
theorem dX9_init_322 : decode cX9_init 322 = .ok (.istore_n 1, 1) := by decide +kernel
theorem dX9_init_323 : decode cX9_init 323 = .ok (.iload_n 1, 1) := by decide +kernel
theorem dX9_init_324 : decode cX9_init 324 = .ok (.bipush 126, 2) := by decide +kernel
theorem dX9_init_326 : decode cX9_init 326 = .ok (.if_icmp .gt 19, 3) := by decide +kernel
theorem dX9_init_329 : decode cX9_init 329 = .ok (.aload_n 0, 1) := by decide +kernel
theorem dX9_init_330 : decode cX9_init 330 = .ok (.getfield 7, 3) := by decide +kernel
theorem dX9_init_333 : decode cX9_init 333 = .ok (.iload_n 1, 1) := by decide +kernel
theorem dX9_init_334 : decode cX9_init 334 = .ok (.iload_n 1, 1) := by decide +kernel
theorem dX9_init_335 : decode cX9_init 335 = .ok (.invokestatic 132, 3) := by decide +kernel
theorem dX9_init_338 : decode cX9_init 338 = .ok (.iastore, 1) := by decide +kernel
theorem dX9_init_339 : decode cX9_init 339 = .ok (.iinc 1 1, 3) := by decide +kernel
theorem dX9_init_342 : decode cX9_init 342 = .ok (.goto (-19), 3) := by decide +kernel
theorem dX9_init_345 : decode cX9_init 345 = .ok (.iconst 0, 1) := by decide +kernel
theorem dX9_init_346 : decode cX9_init 346 = .ok (.istore_n 1, 1) := by decide +kernel
theorem dX9_init_347 : decode cX9_init 347 = .ok (.iload_n 1, 1) := by decide +kernel
theorem dX9_init_348 : decode cX9_init 348 = .ok (.iconst 3, 1) := by decide +kernel
theorem dX9_init_349 : decode cX9_init 349 = .ok (.if_icmp .ge 16, 3) := by decide +kernel
theorem dX9_init_352 : decode cX9_init 352 = .ok (.aload_n 0, 1) := by decide +kernel
theorem dX9_init_353 : decode cX9_init 353 = .ok (.getfield 81, 3) := by decide +kernel
theorem dX9_init_356 : decode cX9_init 356 = .ok (.iload_n 1, 1) := by decide +kernel
theorem dX9_init_357 : decode cX9_init 357 = .ok (.iconst 1, 1) := by decide +kernel
theorem dX9_init_358 : decode cX9_init 358 = .ok (.iastore, 1) := by decide +kernel
theorem dX9_init_359 : decode cX9_init 359 = .ok (.iinc 1 1, 3) := by decide +kernel
theorem dX9_init_362 : decode cX9_init 362 = .ok (.goto (-15), 3) := by decide +kernel
theorem dX9_init_365 : decode cX9_init 365 = .ok (.return_, 1) := by decide +kernel
theorem dX9_in_0 : decode cX9_in 0 = .ok (.iload_n 0, 1) := by decide +kernel
theorem dX9_in_1 : decode cX9_in 1 = .ok (.iload_n 1, 1) := by decide +kernel
theorem dX9_in_2 : decode cX9_in 2 = .ok (.if_icmp .lt 12, 3) := by decide +kernel
theorem dX9_in_5 : decode cX9_in 5 = .ok (.iload_n 0, 1) := by decide +kernel
theorem dX9_in_6 : decode cX9_in 6 = .ok (.iload_n 2, 1) := by decide +kernel
theorem dX9_in_7 : decode cX9_in 7 = .ok (.if_icmp .gt 7, 3) := by decide +kernel
theorem dX9_in_10 : decode cX9_in 10 = .ok (.iconst 1, 1) := by decide +kernel
theorem dX9_in_11 : decode cX9_in 11 = .ok (.goto 4, 3) := by decide +kernel
theorem dX9_in_14 : decode cX9_in 14 = .ok (.iconst 0, 1) := by decide +kernel
theorem dX9_in_15 : decode cX9_in 15 = .ok (.ireturn, 1) := by decide +kernel
set_option maxRecDepth 20000 in
theorem ggX9_firstClass_X9_in : GoodIn wsX9_firstClass wsX9_in := goodIn_r _ [4] (by decide +kernel) (by decide +kernel)
set_option maxRecDepth 20000 in
theorem gX9_firstClass_X9_in : GoodIn wsX9_firstClass (va_wsS RX9 136 yX9_in wsX9_in) := goodIn_app (goodIn_of _ (by decide +kernel)) ggX9_firstClass_X9_in
theorem dX9_firstClass_0 : decode cX9_firstClass 0 = .ok (.iload_n 0, 1) := by decide +kernel
theorem dX9_firstClass_1 : decode cX9_firstClass 1 = .ok (.bipush 97, 2) := by decide +kernel
theorem dX9_firstClass_3 : decode cX9_firstClass 3 = .ok (.bipush 122, 2) := by decide +kernel
theorem dX9_firstClass_5 : decode cX9_firstClass 5 = .ok (.invokestatic 136, 3) := by decide +kernel
theorem dX9_firstClass_8 : decode cX9_firstClass 8 = .ok (.ifCond .ne 14, 3) := by decide +kernel
theorem dX9_firstClass_11 : decode cX9_firstClass 11 = .ok (.iload_n 0, 1) := by decide +kernel
theorem dX9_firstClass_12 : decode cX9_firstClass 12 = .ok (.bipush 65, 2) := by decide +kernel
theorem dX9_firstClass_14 : decode cX9_firstClass 14 = .ok (.bipush 90, 2) := by decide +kernel
theorem dX9_firstClass_16 : decode cX9_firstClass 16 = .ok (.invokestatic 136, 3) := by decide +kernel
theorem dX9_firstClass_19 : decode cX9_firstClass 19 = .ok (.ifCond .eq 5, 3) := by decide +kernel
theorem dX9_firstClass_22 : decode cX9_firstClass 22 = .ok (.iconst 0, 1) := by decide +kernel
theorem dX9_firstClass_23 : decode cX9_firstClass 23 = .ok (.ireturn, 1) := by decide +kernel
theorem dX9_firstClass_24 : decode cX9_firstClass 24 = .ok (.iload_n 0, 1) := by decide +kernel
theorem dX9_firstClass_25 : decode cX9_firstClass 25 = .ok (.bipush 48, 2) := by decide +kernel
theorem dX9_firstClass_27 : decode cX9_firstClass 27 = .ok (.bipush 57, 2) := by decide +kernel
theorem dX9_firstClass_29 : decode cX9_firstClass 29 = .ok (.invokestatic 136, 3) := by decide +kernel
theorem dX9_firstClass_32 : decode cX9_firstClass 32 = .ok (.ifCond .eq 5, 3) := by decide +kernel
theorem dX9_firstClass_35 : decode cX9_firstClass 35 = .ok (.iconst 1, 1) := by decide +kernel
theorem dX9_firstClass_36 : decode cX9_firstClass 36 = .ok (.ireturn, 1) := by decide +kernel
theorem dX9_firstClass_37 : decode cX9_firstClass 37 = .ok (.iload_n 0, 1) := by decide +kernel
theorem dX9_firstClass_38 : decode cX9_firstClass 38 = .ok (.lookupswitch 169 #[(32, 146), (33, 152), (34, 163), (39, 154), (40, 160), (41, 163), (44, 150), (45, 157), (46, 148), (58, 150), (59, 150), (63, 152), (91, 160), (93, 163), (94, 166), (96, 166), (126, 166)], 146) := by decide +kernel
theorem dX9_firstClass_184 : decode cX9_firstClass 184 = .ok (.iconst 2, 1) := by decide +kernel
theorem dX9_firstClass_185 : decode cX9_firstClass 185 = .ok (.ireturn, 1) := by decide +kernel
theorem dX9_firstClass_186 : decode cX9_firstClass 186 = .ok (.iconst 3, 1) := by decide +kernel
theorem dX9_firstClass_187 : decode cX9_firstClass 187 = .ok (.ireturn, 1) := by decide +kernel
theorem dX9_firstClass_188 : decode cX9_firstClass 188 = .ok (.iconst 4, 1) := by decide +kernel
theorem dX9_firstClass_189 : decode cX9_firstClass 189 = .ok (.ireturn, 1) := by decide +kernel
theorem dX9_firstClass_190 : decode cX9_firstClass 190 = .ok (.iconst 5, 1) := by decide +kernel
theorem dX9_firstClass_191 : decode cX9_firstClass 191 = .ok (.ireturn, 1) := by decide +kernel
theorem dX9_firstClass_192 : decode cX9_firstClass 192 = .ok (.bipush 6, 2) := by decide +kernel
theorem dX9_firstClass_194 : decode cX9_firstClass 194 = .ok (.ireturn, 1) := by decide +kernel
theorem dX9_firstClass_195 : decode cX9_firstClass 195 = .ok (.bipush 7, 2) := by decide +kernel
theorem dX9_firstClass_197 : decode cX9_firstClass 197 = .ok (.ireturn, 1) := by decide +kernel
theorem dX9_firstClass_198 : decode cX9_firstClass 198 = .ok (.bipush 8, 2) := by decide +kernel
theorem dX9_firstClass_200 : decode cX9_firstClass 200 = .ok (.ireturn, 1) := by decide +kernel
theorem dX9_firstClass_201 : decode cX9_firstClass 201 = .ok (.bipush 9, 2) := by decide +kernel
theorem dX9_firstClass_203 : decode cX9_firstClass 203 = .ok (.ireturn, 1) := by decide +kernel
theorem dX9_firstClass_204 : decode cX9_firstClass 204 = .ok (.bipush 10, 2) := by decide +kernel
theorem dX9_firstClass_206 : decode cX9_firstClass 206 = .ok (.ireturn, 1) := by decide +kernel
theorem dX9_firstClass_207 : decode cX9_firstClass 207 = .ok (.bipush 11, 2) := by decide +kernel
theorem dX9_firstClass_209 : decode cX9_firstClass 209 = .ok (.ireturn, 1) := by decide +kernel
set_option maxRecDepth 20000 in
theorem ggX9_setClass_X9_in : GoodIn wsX9_setClass wsX9_in := goodIn_r _ [5] (by decide +kernel) (by decide +kernel)
set_option maxRecDepth 20000 in
theorem gX9_setClass_X9_in : GoodIn wsX9_setClass (va_wsS RX9 136 yX9_in wsX9_in) := goodIn_app (goodIn_of _ (by decide +kernel)) ggX9_setClass_X9_in
set_option maxRecDepth 20000 in
theorem ggX9_setClass_X9_analyse : GoodIn wsX9_setClass wsX9_analyse := goodIn_r _ [9, 10, 11, 12, 13, 14, 15, 4, 16, 17, 18, 19, 20, 21, 22, 23, 24, 25, 26, 27, 28, 29, 30, 31, 32, 1, 33, 34, 35, 36, 37, 38, 39, 40, 41, 42, 43, 44, 45, 46, 47, 48, 49, 50, 51, 52, 53, 54, 55, 56, 57, 58, 59, 60, 61, 62, 63, 64, 65, 66, 67, 68, 69, 70, 71, 72, 73, 74, 75, 76, 77, 78, 79, 80, 81, 82, 83, 84, 85, 86, 87, 88, 89, 90, 91, 92, 93, 94, 95, 96, 97, 98, 99, 100] (by decide +kernel) (by decide +kernel)
set_option maxRecDepth 20000 in
theorem gX9_setClass_X9_analyse : GoodIn wsX9_setClass (wsV RX9 140 RX9 yX9_analyse wsX9_analyse) := goodIn_app (goodIn_of _ (by decide +kernel)) ggX9_setClass_X9_analyse
theorem dX9_setClass_0 : decode cX9_setClass 0 = .ok (.iload_n 1, 1) := by decide +kernel
theorem dX9_setClass_1 : decode cX9_setClass 1 = .ok (.bipush 32, 2) := by decide +kernel
theorem dX9_setClass_3 : decode cX9_setClass 3 = .ok (.bipush 126, 2) := by decide +kernel
theorem dX9_setClass_5 : decode cX9_setClass 5 = .ok (.invokestatic 136, 3) := by decide +kernel
theorem dX9_setClass_8 : decode cX9_setClass 8 = .ok (.ifCond .eq 13, 3) := by decide +kernel
theorem dX9_setClass_11 : decode cX9_setClass 11 = .ok (.iload_n 2, 1) := by decide +kernel
theorem dX9_setClass_12 : decode cX9_setClass 12 = .ok (.iconst 0, 1) := by decide +kernel
theorem dX9_setClass_13 : decode cX9_setClass 13 = .ok (.bipush 11, 2) := by decide +kernel
theorem dX9_setClass_15 : decode cX9_setClass 15 = .ok (.invokestatic 136, 3) := by decide +kernel
theorem dX9_setClass_18 : decode cX9_setClass 18 = .ok (.ifCond .ne 6, 3) := by decide +kernel
theorem dX9_setClass_21 : decode cX9_setClass 21 = .ok (.bipush (-2), 2) := by decide +kernel
theorem dX9_setClass_23 : decode cX9_setClass 23 = .ok (.ireturn, 1) := by decide +kernel
theorem dX9_setClass_24 : decode cX9_setClass 24 = .ok (.aload_n 0, 1) := by decide +kernel
theorem dX9_setClass_25 : decode cX9_setClass 25 = .ok (.getfield 7, 3) := by decide +kernel
theorem dX9_setClass_28 : decode cX9_setClass 28 = .ok (.iload_n 1, 1) := by decide +kernel
theorem dX9_setClass_29 : decode cX9_setClass 29 = .ok (.iaload, 1) := by decide +kernel
theorem dX9_setClass_30 : decode cX9_setClass 30 = .ok (.istore_n 3, 1) := by decide +kernel
theorem dX9_setClass_31 : decode cX9_setClass 31 = .ok (.aload_n 0, 1) := by decide +kernel
theorem dX9_setClass_32 : decode cX9_setClass 32 = .ok (.getfield 7, 3) := by decide +kernel
theorem dX9_setClass_35 : decode cX9_setClass 35 = .ok (.iload_n 1, 1) := by decide +kernel
theorem dX9_setClass_36 : decode cX9_setClass 36 = .ok (.iload_n 2, 1) := by decide +kernel
theorem dX9_setClass_37 : decode cX9_setClass 37 = .ok (.iastore, 1) := by decide +kernel
theorem dX9_setClass_38 : decode cX9_setClass 38 = .ok (.iconst 0, 1) := by decide +kernel
theorem dX9_setClass_39 : decode cX9_setClass 39 = .ok (.istore 4, 2) := by decide +kernel
theorem dX9_setClass_41 : decode cX9_setClass 41 = .ok (.iload 4, 2) := by decide +kernel
theorem dX9_setClass_43 : decode cX9_setClass 43 = .ok (.iconst 3, 1) := by decide +kernel
theorem dX9_setClass_44 : decode cX9_setClass 44 = .ok (.if_icmp .ge 20, 3) := by decide +kernel
theorem dX9_setClass_47 : decode cX9_setClass 47 = .ok (.iload_n 3, 1) := by decide +kernel
theorem dX9_setClass_48 : decode cX9_setClass 48 = .ok (.iload_n 2, 1) := by decide +kernel
theorem dX9_setClass_49 : decode cX9_setClass 49 = .ok (.if_icmp .eq 15, 3) := by decide +kernel
theorem dX9_setClass_52 : decode cX9_setClass 52 = .ok (.aload_n 0, 1) := by decide +kernel
theorem dX9_setClass_53 : decode cX9_setClass 53 = .ok (.iload 4, 2) := by decide +kernel
theorem dX9_setClass_55 : decode cX9_setClass 55 = .ok (.invokevirtual 140, 3) := by decide +kernel
theorem dX9_setClass_58 : decode cX9_setClass 58 = .ok (.iinc 4 1, 3) := by decide +kernel
theorem dX9_setClass_61 : decode cX9_setClass 61 = .ok (.goto (-20), 3) := by decide +kernel
theorem dX9_setClass_64 : decode cX9_setClass 64 = .ok (.iload_n 3, 1) := by decide +kernel
theorem dX9_setClass_65 : decode cX9_setClass 65 = .ok (.ireturn, 1) := by decide +kernel
set_option maxRecDepth 20000 in
theorem ggX9_classOf_X9_in : GoodIn wsX9_classOf wsX9_in := goodIn_r _ [5] (by decide +kernel) (by decide +kernel)
set_option maxRecDepth 20000 in
theorem gX9_classOf_X9_in : GoodIn wsX9_classOf (va_wsS RX9 136 yX9_in wsX9_in) := goodIn_app (goodIn_of _ (by decide +kernel)) ggX9_classOf_X9_in
theorem dX9_classOf_0 : decode cX9_classOf 0 = .ok (.iload_n 1, 1) := by decide +kernel
theorem dX9_classOf_1 : decode cX9_classOf 1 = .ok (.bipush 32, 2) := by decide +kernel
theorem dX9_classOf_3 : decode cX9_classOf 3 = .ok (.bipush 126, 2) := by decide +kernel
theorem dX9_classOf_5 : decode cX9_classOf 5 = .ok (.invokestatic 136, 3) := by decide +kernel
theorem dX9_classOf_8 : decode cX9_classOf 8 = .ok (.ifCond .eq 12, 3) := by decide +kernel
theorem dX9_classOf_11 : decode cX9_classOf 11 = .ok (.aload_n 0, 1) := by decide +kernel
theorem dX9_classOf_12 : decode cX9_classOf 12 = .ok (.getfield 7, 3) := by decide +kernel
theorem dX9_classOf_15 : decode cX9_classOf 15 = .ok (.iload_n 1, 1) := by decide +kernel
theorem dX9_classOf_16 : decode cX9_classOf 16 = .ok (.iaload, 1) := by decide +kernel
theorem dX9_classOf_17 : decode cX9_classOf 17 = .ok (.goto 5, 3) := by decide +kernel
theorem dX9_classOf_20 : decode cX9_classOf 20 = .ok (.bipush (-2), 2) := by decide +kernel
theorem dX9_classOf_22 : decode cX9_classOf 22 = .ok (.ireturn, 1) := by decide +kernel
theorem dX9_type_0 : decode cX9_type 0 = .ok (.aload_n 0, 1) := by decide +kernel
theorem dX9_type_1 : decode cX9_type 1 = .ok (.getfield 144, 3) := by decide +kernel
theorem dX9_type_4 : decode cX9_type 4 = .ok (.bipush 24, 2) := by decide +kernel
theorem dX9_type_6 : decode cX9_type 6 = .ok (.if_icmp .ne 6, 3) := by decide +kernel
theorem dX9_type_9 : decode cX9_type 9 = .ok (.bipush (-3), 2) := by decide +kernel
theorem dX9_type_11 : decode cX9_type 11 = .ok (.ireturn, 1) := by decide +kernel
theorem dX9_type_12 : decode cX9_type 12 = .ok (.aload_n 0, 1) := by decide +kernel
theorem dX9_type_13 : decode cX9_type 13 = .ok (.getfield 13, 3) := by decide +kernel
theorem dX9_type_16 : decode cX9_type 16 = .ok (.aload_n 0, 1) := by decide +kernel
theorem dX9_type_17 : decode cX9_type 17 = .ok (.getfield 144, 3) := by decide +kernel
theorem dX9_type_20 : decode cX9_type 20 = .ok (.iload_n 1, 1) := by decide +kernel
theorem dX9_type_21 : decode cX9_type 21 = .ok (.castore, 1) := by decide +kernel
theorem dX9_type_22 : decode cX9_type 22 = .ok (.aload_n 0, 1) := by decide +kernel
theorem dX9_type_23 : decode cX9_type 23 = .ok (.dup, 1) := by decide +kernel
theorem dX9_type_24 : decode cX9_type 24 = .ok (.getfield 144, 3) := by decide +kernel
theorem dX9_type_27 : decode cX9_type 27 = .ok (.iconst 1, 1) := by decide +kernel
theorem dX9_type_28 : decode cX9_type 28 = .ok (.iadd, 1) := by decide +kernel
theorem dX9_type_29 : decode cX9_type 29 = .ok (.putfield 144, 3) := by decide +kernel
theorem dX9_type_32 : decode cX9_type 32 = .ok (.aload_n 0, 1) := by decide +kernel
theorem dX9_type_33 : decode cX9_type 33 = .ok (.getfield 144, 3) := by decide +kernel
theorem dX9_type_36 : decode cX9_type 36 = .ok (.ireturn, 1) := by decide +kernel
theorem dX9_clearPattern_0 : decode cX9_clearPattern 0 = .ok (.aload_n 0, 1) := by decide +kernel
theorem dX9_clearPattern_1 : decode cX9_clearPattern 1 = .ok (.getfield 144, 3) := by decide +kernel
theorem dX9_clearPattern_4 : decode cX9_clearPattern 4 = .ok (.istore_n 1, 1) := by decide +kernel
theorem dX9_clearPattern_5 : decode cX9_clearPattern 5 = .ok (.aload_n 0, 1) := by decide +kernel
theorem dX9_clearPattern_6 : decode cX9_clearPattern 6 = .ok (.iconst 0, 1) := by decide +kernel
theorem dX9_clearPattern_7 : decode cX9_clearPattern 7 = .ok (.putfield 144, 3) := by decide +kernel
theorem dX9_clearPattern_10 : decode cX9_clearPattern 10 = .ok (.iload_n 1, 1) := by decide +kernel
theorem dX9_clearPattern_11 : decode cX9_clearPattern 11 = .ok (.ireturn, 1) := by decide +kernel
theorem dX9_openSequence_0 : decode cX9_openSequence 0 = .ok (.aload_n 0, 1) := by decide +kernel
theorem dX9_openSequence_1 : decode cX9_openSequence 1 = .ok (.getfield 27, 3) := by decide +kernel
theorem dX9_openSequence_4 : decode cX9_openSequence 4 = .ok (.aload_n 0, 1) := by decide +kernel
theorem dX9_openSequence_5 : decode cX9_openSequence 5 = .ok (.getfield 148, 3) := by decide +kernel
theorem dX9_openSequence_8 : decode cX9_openSequence 8 = .ok (.iconst 1, 1) := by decide +kernel
theorem dX9_openSequence_9 : decode cX9_openSequence 9 = .ok (.bastore, 1) := by decide +kernel
theorem dX9_openSequence_10 : decode cX9_openSequence 10 = .ok (.aload_n 0, 1) := by decide +kernel
theorem dX9_openSequence_11 : decode cX9_openSequence 11 = .ok (.getfield 30, 3) := by decide +kernel
theorem dX9_openSequence_14 : decode cX9_openSequence 14 = .ok (.aload_n 0, 1) := by decide +kernel
theorem dX9_openSequence_15 : decode cX9_openSequence 15 = .ok (.getfield 148, 3) := by decide +kernel
theorem dX9_openSequence_18 : decode cX9_openSequence 18 = .ok (.iconst 0, 1) := by decide +kernel
theorem dX9_openSequence_19 : decode cX9_openSequence 19 = .ok (.iastore, 1) := by decide +kernel
theorem dX9_openSequence_20 : decode cX9_openSequence 20 = .ok (.aload_n 0, 1) := by decide +kernel
theorem dX9_openSequence_21 : decode cX9_openSequence 21 = .ok (.getfield 33, 3) := by decide +kernel
theorem dX9_openSequence_24 : decode cX9_openSequence 24 = .ok (.aload_n 0, 1) := by decide +kernel
theorem dX9_openSequence_25 : decode cX9_openSequence 25 = .ok (.getfield 148, 3) := by decide +kernel
theorem dX9_openSequence_28 : decode cX9_openSequence 28 = .ok (.iconst 0, 1) := by decide +kernel
theorem dX9_openSequence_29 : decode cX9_openSequence 29 = .ok (.iastore, 1) := by decide +kernel
theorem dX9_openSequence_30 : decode cX9_openSequence 30 = .ok (.aload_n 0, 1) := by decide +kernel
theorem dX9_openSequence_31 : decode cX9_openSequence 31 = .ok (.getfield 36, 3) := by decide +kernel
theorem dX9_openSequence_34 : decode cX9_openSequence 34 = .ok (.aload_n 0, 1) := by decide +kernel
theorem dX9_openSequence_35 : decode cX9_openSequence 35 = .ok (.getfield 148, 3) := by decide +kernel
theorem dX9_openSequence_38 : decode cX9_openSequence 38 = .ok (.iconst 0, 1) := by decide +kernel
theorem dX9_openSequence_39 : decode cX9_openSequence 39 = .ok (.iastore, 1) := by decide +kernel
theorem dX9_openSequence_40 : decode cX9_openSequence 40 = .ok (.return_, 1) := by decide +kernel
set_option maxRecDepth 20000 in
theorem ggX9_openAlternatives_X9_openSequence : GoodIn wsX9_openAlternatives wsX9_openSequence := goodIn_r _ [9, 10, 2, 11, 12, 13, 14, 15, 16, 17, 18, 19, 20, 21, 22, 23, 24, 25, 26, 27, 28, 29, 30, 31, 32, 33, 34, 35, 36, 37, 38, 39, 40, 41, 42, 43, 44, 45, 46, 47, 48, 49, 50, 51, 52, 53, 54, 55, 56, 57, 58, 59, 60, 61, 62, 63, 64, 65, 66, 67] (by decide +kernel) (by decide +kernel)
set_option maxRecDepth 20000 in
theorem gX9_openAlternatives_X9_openSequence : GoodIn wsX9_openAlternatives (wsV RX9 151 RX9 yX9_openSequence wsX9_openSequence) := goodIn_app (goodIn_of _ (by decide +kernel)) ggX9_openAlternatives_X9_openSequence
theorem dX9_openAlternatives_0 : decode cX9_openAlternatives 0 = .ok (.aload_n 0, 1) := by decide +kernel
theorem dX9_openAlternatives_1 : decode cX9_openAlternatives 1 = .ok (.getfield 17, 3) := by decide +kernel
theorem dX9_openAlternatives_4 : decode cX9_openAlternatives 4 = .ok (.aload_n 0, 1) := by decide +kernel
theorem dX9_openAlternatives_5 : decode cX9_openAlternatives 5 = .ok (.getfield 148, 3) := by decide +kernel
theorem dX9_openAlternatives_8 : decode cX9_openAlternatives 8 = .ok (.iconst 0, 1) := by decide +kernel
theorem dX9_openAlternatives_9 : decode cX9_openAlternatives 9 = .ok (.bastore, 1) := by decide +kernel
theorem dX9_openAlternatives_10 : decode cX9_openAlternatives 10 = .ok (.aload_n 0, 1) := by decide +kernel
theorem dX9_openAlternatives_11 : decode cX9_openAlternatives 11 = .ok (.getfield 21, 3) := by decide +kernel
theorem dX9_openAlternatives_14 : decode cX9_openAlternatives 14 = .ok (.aload_n 0, 1) := by decide +kernel
theorem dX9_openAlternatives_15 : decode cX9_openAlternatives 15 = .ok (.getfield 148, 3) := by decide +kernel
theorem dX9_openAlternatives_18 : decode cX9_openAlternatives 18 = .ok (.iconst 0, 1) := by decide +kernel
theorem dX9_openAlternatives_19 : decode cX9_openAlternatives 19 = .ok (.iastore, 1) := by decide +kernel
theorem dX9_openAlternatives_20 : decode cX9_openAlternatives 20 = .ok (.aload_n 0, 1) := by decide +kernel
theorem dX9_openAlternatives_21 : decode cX9_openAlternatives 21 = .ok (.getfield 24, 3) := by decide +kernel
theorem dX9_openAlternatives_24 : decode cX9_openAlternatives 24 = .ok (.aload_n 0, 1) := by decide +kernel
theorem dX9_openAlternatives_25 : decode cX9_openAlternatives 25 = .ok (.getfield 148, 3) := by decide +kernel
theorem dX9_openAlternatives_28 : decode cX9_openAlternatives 28 = .ok (.iconst 0, 1) := by decide +kernel
theorem dX9_openAlternatives_29 : decode cX9_openAlternatives 29 = .ok (.iastore, 1) := by decide +kernel
theorem dX9_openAlternatives_30 : decode cX9_openAlternatives 30 = .ok (.aload_n 0, 1) := by decide +kernel
theorem dX9_openAlternatives_31 : decode cX9_openAlternatives 31 = .ok (.invokevirtual 151, 3) := by decide +kernel
theorem dX9_openAlternatives_34 : decode cX9_openAlternatives 34 = .ok (.return_, 1) := by decide +kernel
theorem dX9_closeSequence_0 : decode cX9_closeSequence 0 = .ok (.aload_n 0, 1) := by decide +kernel
theorem dX9_closeSequence_1 : decode cX9_closeSequence 1 = .ok (.getfield 17, 3) := by decide +kernel
theorem dX9_closeSequence_4 : decode cX9_closeSequence 4 = .ok (.aload_n 0, 1) := by decide +kernel
theorem dX9_closeSequence_5 : decode cX9_closeSequence 5 = .ok (.getfield 148, 3) := by decide +kernel
theorem dX9_closeSequence_8 : decode cX9_closeSequence 8 = .ok (.aload_n 0, 1) := by decide +kernel
theorem dX9_closeSequence_9 : decode cX9_closeSequence 9 = .ok (.getfield 17, 3) := by decide +kernel
theorem dX9_closeSequence_12 : decode cX9_closeSequence 12 = .ok (.aload_n 0, 1) := by decide +kernel
theorem dX9_closeSequence_13 : decode cX9_closeSequence 13 = .ok (.getfield 148, 3) := by decide +kernel
theorem dX9_closeSequence_16 : decode cX9_closeSequence 16 = .ok (.baload, 1) := by decide +kernel
theorem dX9_closeSequence_17 : decode cX9_closeSequence 17 = .ok (.ifCond .ne 15, 3) := by decide +kernel
theorem dX9_closeSequence_20 : decode cX9_closeSequence 20 = .ok (.aload_n 0, 1) := by decide +kernel
theorem dX9_closeSequence_21 : decode cX9_closeSequence 21 = .ok (.getfield 27, 3) := by decide +kernel
theorem dX9_closeSequence_24 : decode cX9_closeSequence 24 = .ok (.aload_n 0, 1) := by decide +kernel
theorem dX9_closeSequence_25 : decode cX9_closeSequence 25 = .ok (.getfield 148, 3) := by decide +kernel
theorem dX9_closeSequence_28 : decode cX9_closeSequence 28 = .ok (.baload, 1) := by decide +kernel
theorem dX9_closeSequence_29 : decode cX9_closeSequence 29 = .ok (.ifCond .eq 7, 3) := by decide +kernel
theorem dX9_closeSequence_32 : decode cX9_closeSequence 32 = .ok (.iconst 1, 1) := by decide +kernel
theorem dX9_closeSequence_33 : decode cX9_closeSequence 33 = .ok (.goto 4, 3) := by decide +kernel
theorem dX9_closeSequence_36 : decode cX9_closeSequence 36 = .ok (.iconst 0, 1) := by decide +kernel
theorem dX9_closeSequence_37 : decode cX9_closeSequence 37 = .ok (.bastore, 1) := by decide +kernel
theorem dX9_closeSequence_38 : decode cX9_closeSequence 38 = .ok (.aload_n 0, 1) := by decide +kernel
theorem dX9_closeSequence_39 : decode cX9_closeSequence 39 = .ok (.getfield 21, 3) := by decide +kernel
theorem dX9_closeSequence_42 : decode cX9_closeSequence 42 = .ok (.aload_n 0, 1) := by decide +kernel
theorem dX9_closeSequence_43 : decode cX9_closeSequence 43 = .ok (.getfield 148, 3) := by decide +kernel
theorem dX9_closeSequence_46 : decode cX9_closeSequence 46 = .ok (.dup2, 1) := by decide +kernel
theorem dX9_closeSequence_47 : decode cX9_closeSequence 47 = .ok (.iaload, 1) := by decide +kernel
theorem dX9_closeSequence_48 : decode cX9_closeSequence 48 = .ok (.aload_n 0, 1) := by decide +kernel
theorem dX9_closeSequence_49 : decode cX9_closeSequence 49 = .ok (.getfield 30, 3) := by decide +kernel
theorem dX9_closeSequence_52 : decode cX9_closeSequence 52 = .ok (.aload_n 0, 1) := by decide +kernel
theorem dX9_closeSequence_53 : decode cX9_closeSequence 53 = .ok (.getfield 148, 3) := by decide +kernel
theorem dX9_closeSequence_56 : decode cX9_closeSequence 56 = .ok (.iaload, 1) := by decide +kernel
theorem dX9_closeSequence_57 : decode cX9_closeSequence 57 = .ok (.ior, 1) := by decide +kernel
theorem dX9_closeSequence_58 : decode cX9_closeSequence 58 = .ok (.iastore, 1) := by decide +kernel
theorem dX9_closeSequence_59 : decode cX9_closeSequence 59 = .ok (.aload_n 0, 1) := by decide +kernel
theorem dX9_closeSequence_60 : decode cX9_closeSequence 60 = .ok (.getfield 24, 3) := by decide +kernel
theorem dX9_closeSequence_63 : decode cX9_closeSequence 63 = .ok (.aload_n 0, 1) := by decide +kernel
theorem dX9_closeSequence_64 : decode cX9_closeSequence 64 = .ok (.getfield 148, 3) := by decide +kernel
theorem dX9_closeSequence_67 : decode cX9_closeSequence 67 = .ok (.dup2, 1) := by decide +kernel
theorem dX9_closeSequence_68 : decode cX9_closeSequence 68 = .ok (.iaload, 1) := by decide +kernel
theorem dX9_closeSequence_69 : decode cX9_closeSequence 69 = .ok (.aload_n 0, 1) := by decide +kernel
theorem dX9_closeSequence_70 : decode cX9_closeSequence 70 = .ok (.getfield 33, 3) := by decide +kernel
theorem dX9_closeSequence_73 : decode cX9_closeSequence 73 = .ok (.aload_n 0, 1) := by decide +kernel
theorem dX9_closeSequence_74 : decode cX9_closeSequence 74 = .ok (.getfield 148, 3) := by decide +kernel
theorem dX9_closeSequence_77 : decode cX9_closeSequence 77 = .ok (.iaload, 1) := by decide +kernel
theorem dX9_closeSequence_78 : decode cX9_closeSequence 78 = .ok (.ior, 1) := by decide +kernel
theorem dX9_closeSequence_79 : decode cX9_closeSequence 79 = .ok (.iastore, 1) := by decide +kernel
theorem dX9_closeSequence_80 : decode cX9_closeSequence 80 = .ok (.return_, 1) := by decide +kernel
theorem dX9_follows_0 : decode cX9_follows 0 = .ok (.iconst 0, 1) := by decide +kernel
theorem dX9_follows_1 : decode cX9_follows 1 = .ok (.istore_n 3, 1) := by decide +kernel
theorem dX9_follows_2 : decode cX9_follows 2 = .ok (.iload_n 3, 1) := by decide +kernel
theorem dX9_follows_3 : decode cX9_follows 3 = .ok (.bipush 24, 2) := by decide +kernel
theorem dX9_follows_5 : decode cX9_follows 5 = .ok (.if_icmp .ge 32, 3) := by decide +kernel
theorem dX9_follows_8 : decode cX9_follows 8 = .ok (.aload_n 0, 1) := by decide +kernel
theorem dX9_follows_9 : decode cX9_follows 9 = .ok (.getfield 42, 3) := by decide +kernel
theorem dX9_follows_12 : decode cX9_follows 12 = .ok (.iload_n 3, 1) := by decide +kernel
theorem dX9_follows_13 : decode cX9_follows 13 = .ok (.dup2, 1) := by decide +kernel
theorem dX9_follows_14 : decode cX9_follows 14 = .ok (.iaload, 1) := by decide +kernel
theorem dX9_follows_15 : decode cX9_follows 15 = .ok (.iload_n 1, 1) := by decide +kernel
theorem dX9_follows_16 : decode cX9_follows 16 = .ok (.iload_n 3, 1) := by decide +kernel
theorem dX9_follows_17 : decode cX9_follows 17 = .ok (.ishr, 1) := by decide +kernel
theorem dX9_follows_18 : decode cX9_follows 18 = .ok (.iconst 1, 1) := by decide +kernel
theorem dX9_follows_19 : decode cX9_follows 19 = .ok (.iand, 1) := by decide +kernel
theorem dX9_follows_20 : decode cX9_follows 20 = .ok (.iconst 1, 1) := by decide +kernel
theorem dX9_follows_21 : decode cX9_follows 21 = .ok (.if_icmp .ne 7, 3) := by decide +kernel
theorem dX9_follows_24 : decode cX9_follows 24 = .ok (.iload_n 2, 1) := by decide +kernel
theorem dX9_follows_25 : decode cX9_follows 25 = .ok (.goto 4, 3) := by decide +kernel
theorem dX9_follows_28 : decode cX9_follows 28 = .ok (.iconst 0, 1) := by decide +kernel
theorem dX9_follows_29 : decode cX9_follows 29 = .ok (.ior, 1) := by decide +kernel
theorem dX9_follows_30 : decode cX9_follows 30 = .ok (.iastore, 1) := by decide +kernel
theorem dX9_follows_31 : decode cX9_follows 31 = .ok (.iinc 3 1, 3) := by decide +kernel
theorem dX9_follows_34 : decode cX9_follows 34 = .ok (.goto (-32), 3) := by decide +kernel
theorem dX9_follows_37 : decode cX9_follows 37 = .ok (.return_, 1) := by decide +kernel
set_option maxRecDepth 20000 in
theorem ggX9_addItem_X9_follows : GoodIn wsX9_addItem wsX9_follows := goodIn_r _ [13, 14, 15, 16, 17, 18, 19, 20, 21, 22, 23, 24, 25, 26, 27, 28, 29, 30, 31, 32, 33, 34, 35, 36, 37, 38, 39, 40, 41, 42, 43, 44, 45, 46, 47, 48, 49, 50, 51, 52, 53, 54, 55, 56, 57, 58, 59, 60, 61, 62, 63, 64, 65, 66, 67, 68] (by decide +kernel) (by decide +kernel)
set_option maxRecDepth 20000 in
theorem gX9_addItem_X9_follows : GoodIn wsX9_addItem (wsV RX9 157 RX9 yX9_follows wsX9_follows) := goodIn_app (goodIn_of _ (by decide +kernel)) ggX9_addItem_X9_follows
theorem dX9_addItem_0 : decode cX9_addItem 0 = .ok (.aload_n 0, 1) := by decide +kernel
theorem dX9_addItem_1 : decode cX9_addItem 1 = .ok (.aload_n 0, 1) := by decide +kernel
theorem dX9_addItem_2 : decode cX9_addItem 2 = .ok (.getfield 33, 3) := by decide +kernel
theorem dX9_addItem_5 : decode cX9_addItem 5 = .ok (.aload_n 0, 1) := by decide +kernel
theorem dX9_addItem_6 : decode cX9_addItem 6 = .ok (.getfield 148, 3) := by decide +kernel
theorem dX9_addItem_9 : decode cX9_addItem 9 = .ok (.iaload, 1) := by decide +kernel
theorem dX9_addItem_10 : decode cX9_addItem 10 = .ok (.aload_n 0, 1) := by decide +kernel
theorem dX9_addItem_11 : decode cX9_addItem 11 = .ok (.getfield 154, 3) := by decide +kernel
theorem dX9_addItem_14 : decode cX9_addItem 14 = .ok (.invokevirtual 157, 3) := by decide +kernel
theorem dX9_addItem_17 : decode cX9_addItem 17 = .ok (.aload_n 0, 1) := by decide +kernel
theorem dX9_addItem_18 : decode cX9_addItem 18 = .ok (.getfield 30, 3) := by decide +kernel
theorem dX9_addItem_21 : decode cX9_addItem 21 = .ok (.aload_n 0, 1) := by decide +kernel
theorem dX9_addItem_22 : decode cX9_addItem 22 = .ok (.getfield 148, 3) := by decide +kernel
theorem dX9_addItem_25 : decode cX9_addItem 25 = .ok (.dup2, 1) := by decide +kernel
theorem dX9_addItem_26 : decode cX9_addItem 26 = .ok (.iaload, 1) := by decide +kernel
theorem dX9_addItem_27 : decode cX9_addItem 27 = .ok (.aload_n 0, 1) := by decide +kernel
theorem dX9_addItem_28 : decode cX9_addItem 28 = .ok (.getfield 27, 3) := by decide +kernel
theorem dX9_addItem_31 : decode cX9_addItem 31 = .ok (.aload_n 0, 1) := by decide +kernel
theorem dX9_addItem_32 : decode cX9_addItem 32 = .ok (.getfield 148, 3) := by decide +kernel
theorem dX9_addItem_35 : decode cX9_addItem 35 = .ok (.baload, 1) := by decide +kernel
theorem dX9_addItem_36 : decode cX9_addItem 36 = .ok (.ifCond .eq 10, 3) := by decide +kernel
theorem dX9_addItem_39 : decode cX9_addItem 39 = .ok (.aload_n 0, 1) := by decide +kernel
theorem dX9_addItem_40 : decode cX9_addItem 40 = .ok (.getfield 154, 3) := by decide +kernel
theorem dX9_addItem_43 : decode cX9_addItem 43 = .ok (.goto 4, 3) := by decide +kernel
theorem dX9_addItem_46 : decode cX9_addItem 46 = .ok (.iconst 0, 1) := by decide +kernel
theorem dX9_addItem_47 : decode cX9_addItem 47 = .ok (.ior, 1) := by decide +kernel
theorem dX9_addItem_48 : decode cX9_addItem 48 = .ok (.iastore, 1) := by decide +kernel
theorem dX9_addItem_49 : decode cX9_addItem 49 = .ok (.aload_n 0, 1) := by decide +kernel
theorem dX9_addItem_50 : decode cX9_addItem 50 = .ok (.getfield 33, 3) := by decide +kernel
theorem dX9_addItem_53 : decode cX9_addItem 53 = .ok (.aload_n 0, 1) := by decide +kernel
theorem dX9_addItem_54 : decode cX9_addItem 54 = .ok (.getfield 148, 3) := by decide +kernel
theorem dX9_addItem_57 : decode cX9_addItem 57 = .ok (.aload_n 0, 1) := by decide +kernel
theorem dX9_addItem_58 : decode cX9_addItem 58 = .ok (.getfield 161, 3) := by decide +kernel
theorem dX9_addItem_61 : decode cX9_addItem 61 = .ok (.aload_n 0, 1) := by decide +kernel
theorem dX9_addItem_62 : decode cX9_addItem 62 = .ok (.getfield 164, 3) := by decide +kernel
theorem dX9_addItem_65 : decode cX9_addItem 65 = .ok (.ifCond .eq 15, 3) := by decide +kernel
theorem dX9_addItem_68 : decode cX9_addItem 68 = .ok (.aload_n 0, 1) := by decide +kernel
theorem dX9_addItem_69 : decode cX9_addItem 69 = .ok (.getfield 33, 3) := by decide +kernel
theorem dX9_addItem_72 : decode cX9_addItem 72 = .ok (.aload_n 0, 1) := by decide +kernel
theorem dX9_addItem_73 : decode cX9_addItem 73 = .ok (.getfield 148, 3) := by decide +kernel
theorem dX9_addItem_76 : decode cX9_addItem 76 = .ok (.iaload, 1) := by decide +kernel
theorem dX9_addItem_77 : decode cX9_addItem 77 = .ok (.goto 4, 3) := by decide +kernel
theorem dX9_addItem_80 : decode cX9_addItem 80 = .ok (.iconst 0, 1) := by decide +kernel
theorem dX9_addItem_81 : decode cX9_addItem 81 = .ok (.ior, 1) := by decide +kernel
theorem dX9_addItem_82 : decode cX9_addItem 82 = .ok (.iastore, 1) := by decide +kernel
theorem dX9_addItem_83 : decode cX9_addItem 83 = .ok (.aload_n 0, 1) := by decide +kernel
theorem dX9_addItem_84 : decode cX9_addItem 84 = .ok (.getfield 27, 3) := by decide +kernel
theorem dX9_addItem_87 : decode cX9_addItem 87 = .ok (.aload_n 0, 1) := by decide +kernel
theorem dX9_addItem_88 : decode cX9_addItem 88 = .ok (.getfield 148, 3) := by decide +kernel
theorem dX9_addItem_91 : decode cX9_addItem 91 = .ok (.aload_n 0, 1) := by decide +kernel
theorem dX9_addItem_92 : decode cX9_addItem 92 = .ok (.getfield 27, 3) := by decide +kernel
theorem dX9_addItem_95 : decode cX9_addItem 95 = .ok (.aload_n 0, 1) := by decide +kernel
theorem dX9_addItem_96 : decode cX9_addItem 96 = .ok (.getfield 148, 3) := by decide +kernel
theorem dX9_addItem_99 : decode cX9_addItem 99 = .ok (.baload, 1) := by decide +kernel
theorem dX9_addItem_100 : decode cX9_addItem 100 = .ok (.ifCond .eq 14, 3) := by decide +kernel
theorem dX9_addItem_103 : decode cX9_addItem 103 = .ok (.aload_n 0, 1) := by decide +kernel
theorem dX9_addItem_104 : decode cX9_addItem 104 = .ok (.getfield 164, 3) := by decide +kernel
theorem dX9_addItem_107 : decode cX9_addItem 107 = .ok (.ifCond .eq 7, 3) := by decide +kernel
theorem dX9_addItem_110 : decode cX9_addItem 110 = .ok (.iconst 1, 1) := by decide +kernel
theorem dX9_addItem_111 : decode cX9_addItem 111 = .ok (.goto 4, 3) := by decide +kernel
theorem dX9_addItem_114 : decode cX9_addItem 114 = .ok (.iconst 0, 1) := by decide +kernel
theorem dX9_addItem_115 : decode cX9_addItem 115 = .ok (.bastore, 1) := by decide +kernel
theorem dX9_addItem_116 : decode cX9_addItem 116 = .ok (.aload_n 0, 1) := by decide +kernel
theorem dX9_addItem_117 : decode cX9_addItem 117 = .ok (.getfield 36, 3) := by decide +kernel
theorem dX9_addItem_120 : decode cX9_addItem 120 = .ok (.aload_n 0, 1) := by decide +kernel
theorem dX9_addItem_121 : decode cX9_addItem 121 = .ok (.getfield 148, 3) := by decide +kernel
theorem dX9_addItem_124 : decode cX9_addItem 124 = .ok (.dup2, 1) := by decide +kernel
theorem dX9_addItem_125 : decode cX9_addItem 125 = .ok (.iaload, 1) := by decide +kernel
theorem dX9_addItem_126 : decode cX9_addItem 126 = .ok (.iconst 1, 1) := by decide +kernel
theorem dX9_addItem_127 : decode cX9_addItem 127 = .ok (.iadd, 1) := by decide +kernel
theorem dX9_addItem_128 : decode cX9_addItem 128 = .ok (.iastore, 1) := by decide +kernel
theorem dX9_addItem_129 : decode cX9_addItem 129 = .ok (.return_, 1) := by decide +kernel
theorem dX9_isRepeat_0 : decode cX9_isRepeat 0 = .ok (.iload_n 0, 1) := by decide +kernel
theorem dX9_isRepeat_1 : decode cX9_isRepeat 1 = .ok (.bipush 42, 2) := by decide +kernel
theorem dX9_isRepeat_3 : decode cX9_isRepeat 3 = .ok (.if_icmp .eq 15, 3) := by decide +kernel
theorem dX9_isRepeat_6 : decode cX9_isRepeat 6 = .ok (.iload_n 0, 1) := by decide +kernel
theorem dX9_isRepeat_7 : decode cX9_isRepeat 7 = .ok (.bipush 43, 2) := by decide +kernel
theorem dX9_isRepeat_9 : decode cX9_isRepeat 9 = .ok (.if_icmp .eq 9, 3) := by decide +kernel
theorem dX9_isRepeat_12 : decode cX9_isRepeat 12 = .ok (.iload_n 0, 1) := by decide +kernel
theorem dX9_isRepeat_13 : decode cX9_isRepeat 13 = .ok (.bipush 63, 2) := by decide +kernel
theorem dX9_isRepeat_15 : decode cX9_isRepeat 15 = .ok (.if_icmp .ne 7, 3) := by decide +kernel
theorem dX9_isRepeat_18 : decode cX9_isRepeat 18 = .ok (.iconst 1, 1) := by decide +kernel
theorem dX9_isRepeat_19 : decode cX9_isRepeat 19 = .ok (.goto 4, 3) := by decide +kernel
theorem dX9_isRepeat_22 : decode cX9_isRepeat 22 = .ok (.iconst 0, 1) := by decide +kernel
theorem dX9_isRepeat_23 : decode cX9_isRepeat 23 = .ok (.ireturn, 1) := by decide +kernel
set_option maxRecDepth 20000 in
theorem ggX9_endItem_X9_isRepeat : GoodIn wsX9_endItem wsX9_isRepeat := goodIn_r _ [9] (by decide +kernel) (by decide +kernel)
set_option maxRecDepth 20000 in
theorem gX9_endItem_X9_isRepeat : GoodIn wsX9_endItem (va_wsS RX9 168 yX9_isRepeat wsX9_isRepeat) := goodIn_app (goodIn_of _ (by decide +kernel)) ggX9_endItem_X9_isRepeat
set_option maxRecDepth 20000 in
theorem ggX9_endItem_X9_follows : GoodIn wsX9_endItem wsX9_follows := goodIn_r _ [13, 14, 24, 25, 26, 27, 28, 29, 30, 31, 32, 33, 34, 35, 36, 37, 38, 39, 40, 41, 42, 43, 44, 45, 46, 47, 48, 49, 50, 51, 52, 53, 54, 55, 56, 57, 58, 59, 60, 61, 62, 63, 64, 65, 66, 67, 68, 69, 70, 71, 72, 73, 74, 75, 76, 77] (by decide +kernel) (by decide +kernel)
set_option maxRecDepth 20000 in
theorem gX9_endItem_X9_follows : GoodIn wsX9_endItem (wsV RX9 157 RX9 yX9_follows wsX9_follows) := goodIn_app (goodIn_of _ (by decide +kernel)) ggX9_endItem_X9_follows
set_option maxRecDepth 20000 in
theorem ggX9_endItem_X9_addItem : GoodIn wsX9_endItem wsX9_addItem := goodIn_r _ [18, 19, 20, 4, 21, 22, 3, 5, 23, 10, 11, 12, 8, 13, 14, 24, 25, 26, 27, 28, 29, 30, 31, 32, 33, 34, 35, 36, 37, 38, 39, 40, 41, 42, 43, 44, 45, 46, 47, 48, 49, 50, 51, 52, 53, 54, 55, 56, 57, 58, 59, 60, 61, 62, 63, 64, 65, 66, 67, 68, 69, 70, 71, 72, 73, 74, 75, 76, 77] (by decide +kernel) (by decide +kernel)
set_option maxRecDepth 20000 in
theorem gX9_endItem_X9_addItem : GoodIn wsX9_endItem (wsV RX9 172 RX9 yX9_addItem wsX9_addItem) := goodIn_app (goodIn_of _ (by decide +kernel)) ggX9_endItem_X9_addItem
theorem dX9_endItem_0 : decode cX9_endItem 0 = .ok (.iload_n 1, 1) := by decide +kernel
theorem dX9_endItem_1 : decode cX9_endItem 1 = .ok (.istore_n 2, 1) := by decide +kernel
theorem dX9_endItem_2 : decode cX9_endItem 2 = .ok (.iload_n 1, 1) := by decide +kernel
theorem dX9_endItem_3 : decode cX9_endItem 3 = .ok (.aload_n 0, 1) := by decide +kernel
theorem dX9_endItem_4 : decode cX9_endItem 4 = .ok (.getfield 144, 3) := by decide +kernel
theorem dX9_endItem_7 : decode cX9_endItem 7 = .ok (.if_icmp .ge 69, 3) := by decide +kernel
theorem dX9_endItem_10 : decode cX9_endItem 10 = .ok (.aload_n 0, 1) := by decide +kernel
theorem dX9_endItem_11 : decode cX9_endItem 11 = .ok (.getfield 13, 3) := by decide +kernel
theorem dX9_endItem_14 : decode cX9_endItem 14 = .ok (.iload_n 1, 1) := by decide +kernel
theorem dX9_endItem_15 : decode cX9_endItem 15 = .ok (.caload, 1) := by decide +kernel
theorem dX9_endItem_16 : decode cX9_endItem 16 = .ok (.invokestatic 168, 3) := by decide +kernel
theorem dX9_endItem_19 : decode cX9_endItem 19 = .ok (.ifCond .eq 57, 3) := by decide +kernel
theorem dX9_endItem_22 : decode cX9_endItem 22 = .ok (.aload_n 0, 1) := by decide +kernel
theorem dX9_endItem_23 : decode cX9_endItem 23 = .ok (.getfield 13, 3) := by decide +kernel
theorem dX9_endItem_26 : decode cX9_endItem 26 = .ok (.iload_n 1, 1) := by decide +kernel
theorem dX9_endItem_27 : decode cX9_endItem 27 = .ok (.caload, 1) := by decide +kernel
theorem dX9_endItem_28 : decode cX9_endItem 28 = .ok (.bipush 63, 2) := by decide +kernel
theorem dX9_endItem_30 : decode cX9_endItem 30 = .ok (.if_icmp .eq 15, 3) := by decide +kernel
theorem dX9_endItem_33 : decode cX9_endItem 33 = .ok (.aload_n 0, 1) := by decide +kernel
theorem dX9_endItem_34 : decode cX9_endItem 34 = .ok (.aload_n 0, 1) := by decide +kernel
theorem dX9_endItem_35 : decode cX9_endItem 35 = .ok (.getfield 161, 3) := by decide +kernel
theorem dX9_endItem_38 : decode cX9_endItem 38 = .ok (.aload_n 0, 1) := by decide +kernel
theorem dX9_endItem_39 : decode cX9_endItem 39 = .ok (.getfield 154, 3) := by decide +kernel
theorem dX9_endItem_42 : decode cX9_endItem 42 = .ok (.invokevirtual 157, 3) := by decide +kernel
theorem dX9_endItem_45 : decode cX9_endItem 45 = .ok (.aload_n 0, 1) := by decide +kernel
theorem dX9_endItem_46 : decode cX9_endItem 46 = .ok (.aload_n 0, 1) := by decide +kernel
theorem dX9_endItem_47 : decode cX9_endItem 47 = .ok (.getfield 164, 3) := by decide +kernel
theorem dX9_endItem_50 : decode cX9_endItem 50 = .ok (.ifCond .ne 14, 3) := by decide +kernel
theorem dX9_endItem_53 : decode cX9_endItem 53 = .ok (.aload_n 0, 1) := by decide +kernel
theorem dX9_endItem_54 : decode cX9_endItem 54 = .ok (.getfield 13, 3) := by decide +kernel
theorem dX9_endItem_57 : decode cX9_endItem 57 = .ok (.iload_n 1, 1) := by decide +kernel
theorem dX9_endItem_58 : decode cX9_endItem 58 = .ok (.caload, 1) := by decide +kernel
theorem dX9_endItem_59 : decode cX9_endItem 59 = .ok (.bipush 43, 2) := by decide +kernel
theorem dX9_endItem_61 : decode cX9_endItem 61 = .ok (.if_icmp .eq 7, 3) := by decide +kernel
theorem dX9_endItem_64 : decode cX9_endItem 64 = .ok (.iconst 1, 1) := by decide +kernel
theorem dX9_endItem_65 : decode cX9_endItem 65 = .ok (.goto 4, 3) := by decide +kernel
theorem dX9_endItem_68 : decode cX9_endItem 68 = .ok (.iconst 0, 1) := by decide +kernel
theorem dX9_endItem_69 : decode cX9_endItem 69 = .ok (.putfield 164, 3) := by decide +kernel
theorem dX9_endItem_72 : decode cX9_endItem 72 = .ok (.iload_n 1, 1) := by decide +kernel
theorem dX9_endItem_73 : decode cX9_endItem 73 = .ok (.iconst 1, 1) := by decide +kernel
theorem dX9_endItem_74 : decode cX9_endItem 74 = .ok (.iadd, 1) := by decide +kernel
theorem dX9_endItem_75 : decode cX9_endItem 75 = .ok (.istore_n 2, 1) := by decide +kernel
theorem dX9_endItem_76 : decode cX9_endItem 76 = .ok (.aload_n 0, 1) := by decide +kernel
theorem dX9_endItem_77 : decode cX9_endItem 77 = .ok (.invokevirtual 172, 3) := by decide +kernel
theorem dX9_endItem_80 : decode cX9_endItem 80 = .ok (.iload_n 2, 1) := by decide +kernel
theorem dX9_endItem_81 : decode cX9_endItem 81 = .ok (.ireturn, 1) := by decide +kernel
set_option maxRecDepth 20000 in
theorem ggX9_readPattern_X9_openAlternatives : GoodIn wsX9_readPattern wsX9_openAlternatives := goodIn_r _ [21, 14, 1, 15, 16, 22, 23, 24, 20, 25, 26, 27, 28, 9, 51, 52, 53, 54, 55, 56, 57, 58, 59, 60, 61, 62, 63, 64, 65, 66, 67, 68, 69, 70, 71, 72, 73, 74, 75, 76, 77, 78, 79, 80, 81, 82, 83, 84, 85, 86, 87, 88, 89, 90, 91, 92, 93, 94, 95, 96, 97, 98, 99, 100, 101, 102, 103, 104] (by decide +kernel) (by decide +kernel)
set_option maxRecDepth 20000 in
theorem gX9_readPattern_X9_openAlternatives : GoodIn wsX9_readPattern (wsV RX9 187 RX9 yX9_openAlternatives wsX9_openAlternatives) := goodIn_app (goodIn_of _ (by decide +kernel)) ggX9_readPattern_X9_openAlternatives
set_option maxRecDepth 20000 in
theorem ggX9_readPattern_X9_in : GoodIn wsX9_readPattern wsX9_in := goodIn_r _ [31] (by decide +kernel) (by decide +kernel)
set_option maxRecDepth 20000 in
theorem gX9_readPattern_X9_in : GoodIn wsX9_readPattern (va_wsS RX9 136 yX9_in wsX9_in) := goodIn_app (goodIn_of _ (by decide +kernel)) ggX9_readPattern_X9_in
set_option maxRecDepth 20000 in
theorem ggX9_readPattern_X9_endItem : GoodIn wsX9_readPattern wsX9_endItem := goodIn_r _ [35, 7, 8, 13, 12, 11, 36, 37, 20, 38, 39, 40, 41, 42, 6, 43, 44, 45, 46, 28, 1, 27, 26, 9, 51, 52, 53, 54, 55, 56, 57, 58, 59, 60, 61, 62, 63, 64, 65, 66, 67, 68, 69, 70, 71, 72, 73, 74, 75, 76, 77, 78, 79, 80, 81, 82, 83, 84, 85, 86, 87, 88, 89, 90, 91, 92, 93, 94, 95, 96, 97, 98, 99, 100, 101, 102, 103, 104] (by decide +kernel) (by decide +kernel)
set_option maxRecDepth 20000 in
theorem gX9_readPattern_X9_endItem : GoodIn wsX9_readPattern (wsV RX9 190 RX9 yX9_endItem wsX9_endItem) := goodIn_app (goodIn_of _ (by decide +kernel)) ggX9_readPattern_X9_endItem
set_option maxRecDepth 20000 in
theorem ggX9_readPattern_X9_closeSequence : GoodIn wsX9_readPattern wsX9_closeSequence := goodIn_r _ [50, 14, 1, 26, 15, 27, 16, 28, 51, 52, 53, 54, 55, 56, 57, 58, 59, 60, 61, 62, 63, 64, 65, 66, 67, 68, 69, 70, 71, 72, 73, 74, 75, 76, 77, 78, 79, 80, 81, 82, 83, 84, 85, 86, 87, 88, 89, 90, 91, 92, 93, 94, 95, 96, 97, 98, 99, 100, 101, 102, 103, 104] (by decide +kernel) (by decide +kernel)
set_option maxRecDepth 20000 in
theorem gX9_readPattern_X9_closeSequence : GoodIn wsX9_readPattern (wsV RX9 193 RX9 yX9_closeSequence wsX9_closeSequence) := goodIn_app (goodIn_of _ (by decide +kernel)) ggX9_readPattern_X9_closeSequence
set_option maxRecDepth 20000 in
theorem ggX9_readPattern_X9_openSequence : GoodIn wsX9_readPattern wsX9_openSequence := goodIn_r _ [25, 26, 1, 27, 28, 9, 51, 52, 53, 54, 55, 56, 57, 58, 59, 60, 61, 62, 63, 64, 65, 66, 67, 68, 69, 70, 71, 72, 73, 74, 75, 76, 77, 78, 79, 80, 81, 82, 83, 84, 85, 86, 87, 88, 89, 90, 91, 92, 93, 94, 95, 96, 97, 98, 99, 100, 101, 102, 103, 104] (by decide +kernel) (by decide +kernel)
set_option maxRecDepth 20000 in
theorem gX9_readPattern_X9_openSequence : GoodIn wsX9_readPattern (wsV RX9 151 RX9 yX9_openSequence wsX9_openSequence) := goodIn_app (goodIn_of _ (by decide +kernel)) ggX9_readPattern_X9_openSequence
theorem dX9_readPattern_0 : decode cX9_readPattern 0 = .ok (.aload_n 0, 1) := by decide +kernel
theorem dX9_readPattern_1 : decode cX9_readPattern 1 = .ok (.iconst 0, 1) := by decide +kernel
theorem dX9_readPattern_2 : decode cX9_readPattern 2 = .ok (.putfield 148, 3) := by decide +kernel
theorem dX9_readPattern_5 : decode cX9_readPattern 5 = .ok (.aload_n 0, 1) := by decide +kernel
theorem dX9_readPattern_6 : decode cX9_readPattern 6 = .ok (.iconst 0, 1) := by decide +kernel
theorem dX9_readPattern_7 : decode cX9_readPattern 7 = .ok (.putfield 175, 3) := by decide +kernel
theorem dX9_readPattern_10 : decode cX9_readPattern 10 = .ok (.aload_n 0, 1) := by decide +kernel
theorem dX9_readPattern_11 : decode cX9_readPattern 11 = .ok (.iconst 0, 1) := by decide +kernel
theorem dX9_readPattern_12 : decode cX9_readPattern 12 = .ok (.putfield 178, 3) := by decide +kernel
theorem dX9_readPattern_15 : decode cX9_readPattern 15 = .ok (.aload_n 0, 1) := by decide +kernel
theorem dX9_readPattern_16 : decode cX9_readPattern 16 = .ok (.iconst 0, 1) := by decide +kernel
theorem dX9_readPattern_17 : decode cX9_readPattern 17 = .ok (.putfield 181, 3) := by decide +kernel
theorem dX9_readPattern_20 : decode cX9_readPattern 20 = .ok (.aload_n 0, 1) := by decide +kernel
theorem dX9_readPattern_21 : decode cX9_readPattern 21 = .ok (.iconst 0, 1) := by decide +kernel
theorem dX9_readPattern_22 : decode cX9_readPattern 22 = .ok (.putfield 184, 3) := by decide +kernel
theorem dX9_readPattern_25 : decode cX9_readPattern 25 = .ok (.iconst 0, 1) := by decide +kernel
theorem dX9_readPattern_26 : decode cX9_readPattern 26 = .ok (.istore_n 1, 1) := by decide +kernel
theorem dX9_readPattern_27 : decode cX9_readPattern 27 = .ok (.iload_n 1, 1) := by decide +kernel
theorem dX9_readPattern_28 : decode cX9_readPattern 28 = .ok (.bipush 24, 2) := by decide +kernel
theorem dX9_readPattern_30 : decode cX9_readPattern 30 = .ok (.if_icmp .ge 16, 3) := by decide +kernel
theorem dX9_readPattern_33 : decode cX9_readPattern 33 = .ok (.aload_n 0, 1) := by decide +kernel
theorem dX9_readPattern_34 : decode cX9_readPattern 34 = .ok (.getfield 42, 3) := by decide +kernel
theorem dX9_readPattern_37 : decode cX9_readPattern 37 = .ok (.iload_n 1, 1) := by decide +kernel
theorem dX9_readPattern_38 : decode cX9_readPattern 38 = .ok (.iconst 0, 1) := by decide +kernel
theorem dX9_readPattern_39 : decode cX9_readPattern 39 = .ok (.iastore, 1) := by decide +kernel
theorem dX9_readPattern_40 : decode cX9_readPattern 40 = .ok (.iinc 1 1, 3) := by decide +kernel
theorem dX9_readPattern_43 : decode cX9_readPattern 43 = .ok (.goto (-16), 3) := by decide +kernel
theorem dX9_readPattern_46 : decode cX9_readPattern 46 = .ok (.aload_n 0, 1) := by decide +kernel
