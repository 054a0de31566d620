theorem dX9_erase_34 : decode cX9_erase 34 = .ok (.istore_n 3, 1) := by decide +kernel
theorem dX9_erase_35 : decode cX9_erase 35 = .ok (.iload_n 3, 1) := by decide +kernel
theorem dX9_erase_36 : decode cX9_erase 36 = .ok (.iload_n 2, 1) := by decide +kernel
theorem dX9_erase_37 : decode cX9_erase 37 = .ok (.if_icmp .ge 23, 3) := by decide +kernel
theorem dX9_erase_40 : decode cX9_erase 40 = .ok (.aload_n 0, 1) := by decide +kernel
theorem dX9_erase_41 : decode cX9_erase 41 = .ok (.getfield 96, 3) := by decide +kernel
theorem dX9_erase_44 : decode cX9_erase 44 = .ok (.iload_n 3, 1) := by decide +kernel
theorem dX9_erase_45 : decode cX9_erase 45 = .ok (.aload_n 0, 1) := by decide +kernel
theorem dX9_erase_46 : decode cX9_erase 46 = .ok (.getfield 78, 3) := by decide +kernel
theorem dX9_erase_49 : decode cX9_erase 49 = .ok (.iload_n 1, 1) := by decide +kernel
theorem dX9_erase_50 : decode cX9_erase 50 = .ok (.iload_n 3, 1) := by decide +kernel
theorem dX9_erase_51 : decode cX9_erase 51 = .ok (.iadd, 1) := by decide +kernel
theorem dX9_erase_52 : decode cX9_erase 52 = .ok (.caload, 1) := by decide +kernel
theorem dX9_erase_53 : decode cX9_erase 53 = .ok (.castore, 1) := by decide +kernel
theorem dX9_erase_54 : decode cX9_erase 54 = .ok (.iinc 3 1, 3) := by decide +kernel
theorem dX9_erase_57 : decode cX9_erase 57 = .ok (.goto (-22), 3) := by decide +kernel
theorem dX9_erase_60 : decode cX9_erase 60 = .ok (.aload_n 0, 1) := by decide +kernel
theorem dX9_erase_61 : decode cX9_erase 61 = .ok (.iconst 0, 1) := by decide +kernel
theorem dX9_erase_62 : decode cX9_erase 62 = .ok (.iload_n 1, 1) := by decide +kernel
theorem dX9_erase_63 : decode cX9_erase 63 = .ok (.iload_n 2, 1) := by decide +kernel
theorem dX9_erase_64 : decode cX9_erase 64 = .ok (.invokevirtual 263, 3) := by decide +kernel
theorem dX9_erase_67 : decode cX9_erase 67 = .ok (.aload_n 0, 1) := by decide +kernel
theorem dX9_erase_68 : decode cX9_erase 68 = .ok (.iconst 0, 1) := by decide +kernel
theorem dX9_erase_69 : decode cX9_erase 69 = .ok (.putfield 267, 3) := by decide +kernel
theorem dX9_erase_72 : decode cX9_erase 72 = .ok (.aload_n 0, 1) := by decide +kernel
theorem dX9_erase_73 : decode cX9_erase 73 = .ok (.iload_n 1, 1) := by decide +kernel
theorem dX9_erase_74 : decode cX9_erase 74 = .ok (.iload_n 2, 1) := by decide +kernel
theorem dX9_erase_75 : decode cX9_erase 75 = .ok (.invokevirtual 273, 3) := by decide +kernel
theorem dX9_erase_78 : decode cX9_erase 78 = .ok (.aload_n 0, 1) := by decide +kernel
theorem dX9_erase_79 : decode cX9_erase 79 = .ok (.getfield 207, 3) := by decide +kernel
theorem dX9_erase_82 : decode cX9_erase 82 = .ok (.ireturn, 1) := by decide +kernel
set_option maxRecDepth 20000 in
theorem ggX9_carryOut_X9_putIn : GoodIn wsX9_carryOut wsX9_putIn := goodIn_r _ [5, 6, 7, 8, 9, 10, 11, 4, 12, 13, 14, 15, 16, 17, 18, 19, 20, 21, 22, 23, 24, 25, 26, 27, 28, 29, 30, 31, 32, 33, 34, 35, 36, 37, 38, 39, 40, 41, 42, 43, 44, 45, 46, 47, 48, 49, 50, 51, 52, 53, 54, 55, 56, 57, 58, 59, 60, 61, 62, 63, 64, 65, 66, 67, 68, 69, 70, 71, 72, 73, 74, 75, 80, 81, 82, 83, 84, 85, 86, 87, 88, 89, 90, 91, 92, 93, 94, 95, 96, 97, 98, 99, 100, 101, 102, 103, 104, 105, 106, 107, 108, 109, 110, 111, 112, 113, 114, 115, 116, 117, 118, 119, 120, 121, 122, 123, 124, 125, 126, 127, 128, 129, 130, 131, 132, 133] (by decide +kernel) (by decide +kernel)
set_option maxRecDepth 20000 in
theorem gX9_carryOut_X9_putIn : GoodIn wsX9_carryOut (wsV RX9 270 RX9 yX9_putIn wsX9_putIn) := goodIn_app (goodIn_of _ (by decide +kernel)) ggX9_carryOut_X9_putIn
set_option maxRecDepth 20000 in
theorem ggX9_carryOut_X9_takeOut : GoodIn wsX9_carryOut wsX9_takeOut := goodIn_r _ [79, 6, 7, 9, 10, 11, 4, 12, 13, 14, 15, 16, 17, 18, 19, 20, 21, 22, 23, 24, 25, 26, 27, 28, 29, 30, 31, 32, 33, 34, 35, 36, 37, 38, 39, 40, 41, 42, 43, 44, 45, 46, 47, 48, 49, 50, 51, 52, 53, 54, 55, 56, 57, 58, 59, 60, 61, 62, 63, 64, 65, 66, 67, 68, 69, 70, 71, 72, 73, 74, 75, 80, 81, 82, 83, 84, 85, 86, 87, 88, 89, 90, 91, 92, 93, 94, 95, 96, 97, 98, 99, 100, 101, 102, 103, 104, 105, 106, 107, 108, 109, 110, 111, 112, 113, 114, 115, 116, 117, 118, 119, 120, 121, 122, 123, 124, 125, 126, 127, 128, 129, 130, 131, 132, 133] (by decide +kernel) (by decide +kernel)
set_option maxRecDepth 20000 in
theorem gX9_carryOut_X9_takeOut : GoodIn wsX9_carryOut (wsV RX9 273 RX9 yX9_takeOut wsX9_takeOut) := goodIn_app (goodIn_of _ (by decide +kernel)) ggX9_carryOut_X9_takeOut
theorem dX9_carryOut_0 : decode cX9_carryOut 0 = .ok (.iload_n 1, 1) := by decide +kernel
theorem dX9_carryOut_1 : decode cX9_carryOut 1 = .ok (.ifCond .eq 12, 3) := by decide +kernel
theorem dX9_carryOut_4 : decode cX9_carryOut 4 = .ok (.aload_n 0, 1) := by decide +kernel
theorem dX9_carryOut_5 : decode cX9_carryOut 5 = .ok (.iload_n 2, 1) := by decide +kernel
theorem dX9_carryOut_6 : decode cX9_carryOut 6 = .ok (.iload_n 3, 1) := by decide +kernel
theorem dX9_carryOut_7 : decode cX9_carryOut 7 = .ok (.invokevirtual 270, 3) := by decide +kernel
theorem dX9_carryOut_10 : decode cX9_carryOut 10 = .ok (.goto 9, 3) := by decide +kernel
theorem dX9_carryOut_13 : decode cX9_carryOut 13 = .ok (.aload_n 0, 1) := by decide +kernel
theorem dX9_carryOut_14 : decode cX9_carryOut 14 = .ok (.iload_n 2, 1) := by decide +kernel
theorem dX9_carryOut_15 : decode cX9_carryOut 15 = .ok (.iload_n 3, 1) := by decide +kernel
theorem dX9_carryOut_16 : decode cX9_carryOut 16 = .ok (.invokevirtual 273, 3) := by decide +kernel
theorem dX9_carryOut_19 : decode cX9_carryOut 19 = .ok (.return_, 1) := by decide +kernel
set_option maxRecDepth 20000 in
theorem ggX9_undo_X9_carryOut : GoodIn wsX9_undo wsX9_carryOut := goodIn_r _ [16, 17, 18, 19, 15, 20, 21, 22, 3, 23, 24, 25, 26, 27, 28, 29, 30, 31, 32, 33, 34, 35, 36, 37, 38, 39, 40, 41, 42, 43, 44, 45, 46, 47, 48, 49, 50, 51, 52, 53, 54, 55, 56, 57, 58, 59, 60, 61, 62, 63, 64, 65, 66, 67, 68, 69, 70, 71, 72, 73, 74, 75, 76, 77, 78, 79, 80, 81, 82, 83, 84, 85, 86, 87, 88, 89, 90, 91, 92, 93, 94, 95, 96, 97, 98, 99, 100, 101, 102, 103, 104, 105, 106, 107, 108, 109, 110, 111, 112, 113, 114, 115, 116, 117, 118, 119, 120, 121, 122, 123, 124, 125, 126, 127, 128, 129, 130, 131, 132, 133, 134, 135, 136, 137, 138, 139, 140, 141, 142, 143, 144, 145, 146, 147] (by decide +kernel) (by decide +kernel)
set_option maxRecDepth 20000 in
theorem gX9_undo_X9_carryOut : GoodIn wsX9_undo (wsV RX9 276 RX9 yX9_carryOut wsX9_carryOut) := goodIn_app (goodIn_of _ (by decide +kernel)) ggX9_undo_X9_carryOut
theorem dX9_undo_0 : decode cX9_undo 0 = .ok (.aload_n 0, 1) := by decide +kernel
theorem dX9_undo_1 : decode cX9_undo 1 = .ok (.getfield 260, 3) := by decide +kernel
theorem dX9_undo_4 : decode cX9_undo 4 = .ok (.ifCond .ne 6, 3) := by decide +kernel
theorem dX9_undo_7 : decode cX9_undo 7 = .ok (.bipush (-5), 2) := by decide +kernel
theorem dX9_undo_9 : decode cX9_undo 9 = .ok (.ireturn, 1) := by decide +kernel
theorem dX9_undo_10 : decode cX9_undo 10 = .ok (.aload_n 0, 1) := by decide +kernel
theorem dX9_undo_11 : decode cX9_undo 11 = .ok (.dup, 1) := by decide +kernel
theorem dX9_undo_12 : decode cX9_undo 12 = .ok (.getfield 260, 3) := by decide +kernel
theorem dX9_undo_15 : decode cX9_undo 15 = .ok (.iconst 1, 1) := by decide +kernel
theorem dX9_undo_16 : decode cX9_undo 16 = .ok (.isub, 1) := by decide +kernel
theorem dX9_undo_17 : decode cX9_undo 17 = .ok (.putfield 260, 3) := by decide +kernel
theorem dX9_undo_20 : decode cX9_undo 20 = .ok (.aload_n 0, 1) := by decide +kernel
theorem dX9_undo_21 : decode cX9_undo 21 = .ok (.getfield 260, 3) := by decide +kernel
theorem dX9_undo_24 : decode cX9_undo 24 = .ok (.istore_n 1, 1) := by decide +kernel
theorem dX9_undo_25 : decode cX9_undo 25 = .ok (.aload_n 0, 1) := by decide +kernel
theorem dX9_undo_26 : decode cX9_undo 26 = .ok (.getfield 105, 3) := by decide +kernel
theorem dX9_undo_29 : decode cX9_undo 29 = .ok (.iload_n 1, 1) := by decide +kernel
theorem dX9_undo_30 : decode cX9_undo 30 = .ok (.iaload, 1) := by decide +kernel
theorem dX9_undo_31 : decode cX9_undo 31 = .ok (.istore_n 2, 1) := by decide +kernel
theorem dX9_undo_32 : decode cX9_undo 32 = .ok (.iconst 0, 1) := by decide +kernel
theorem dX9_undo_33 : decode cX9_undo 33 = .ok (.istore_n 3, 1) := by decide +kernel
theorem dX9_undo_34 : decode cX9_undo 34 = .ok (.iload_n 3, 1) := by decide +kernel
theorem dX9_undo_35 : decode cX9_undo 35 = .ok (.iload_n 2, 1) := by decide +kernel
theorem dX9_undo_36 : decode cX9_undo 36 = .ok (.if_icmp .ge 46, 3) := by decide +kernel
theorem dX9_undo_39 : decode cX9_undo 39 = .ok (.aload_n 0, 1) := by decide +kernel
theorem dX9_undo_40 : decode cX9_undo 40 = .ok (.getfield 96, 3) := by decide +kernel
theorem dX9_undo_43 : decode cX9_undo 43 = .ok (.iload_n 3, 1) := by decide +kernel
theorem dX9_undo_44 : decode cX9_undo 44 = .ok (.aload_n 0, 1) := by decide +kernel
theorem dX9_undo_45 : decode cX9_undo 45 = .ok (.getfield 108, 3) := by decide +kernel
theorem dX9_undo_48 : decode cX9_undo 48 = .ok (.bipush 100, 2) := by decide +kernel
theorem dX9_undo_50 : decode cX9_undo 50 = .ok (.iload_n 1, 1) := by decide +kernel
theorem dX9_undo_51 : decode cX9_undo 51 = .ok (.imul, 1) := by decide +kernel
theorem dX9_undo_52 : decode cX9_undo 52 = .ok (.iload_n 3, 1) := by decide +kernel
theorem dX9_undo_53 : decode cX9_undo 53 = .ok (.iadd, 1) := by decide +kernel
theorem dX9_undo_54 : decode cX9_undo 54 = .ok (.caload, 1) := by decide +kernel
theorem dX9_undo_55 : decode cX9_undo 55 = .ok (.castore, 1) := by decide +kernel
theorem dX9_undo_56 : decode cX9_undo 56 = .ok (.aload_n 0, 1) := by decide +kernel
theorem dX9_undo_57 : decode cX9_undo 57 = .ok (.getfield 120, 3) := by decide +kernel
theorem dX9_undo_60 : decode cX9_undo 60 = .ok (.bipush 100, 2) := by decide +kernel
theorem dX9_undo_62 : decode cX9_undo 62 = .ok (.aload_n 0, 1) := by decide +kernel
theorem dX9_undo_63 : decode cX9_undo 63 = .ok (.getfield 267, 3) := by decide +kernel
theorem dX9_undo_66 : decode cX9_undo 66 = .ok (.imul, 1) := by decide +kernel
theorem dX9_undo_67 : decode cX9_undo 67 = .ok (.iload_n 3, 1) := by decide +kernel
theorem dX9_undo_68 : decode cX9_undo 68 = .ok (.iadd, 1) := by decide +kernel
theorem dX9_undo_69 : decode cX9_undo 69 = .ok (.aload_n 0, 1) := by decide +kernel
theorem dX9_undo_70 : decode cX9_undo 70 = .ok (.getfield 96, 3) := by decide +kernel
theorem dX9_undo_73 : decode cX9_undo 73 = .ok (.iload_n 3, 1) := by decide +kernel
theorem dX9_undo_74 : decode cX9_undo 74 = .ok (.caload, 1) := by decide +kernel
theorem dX9_undo_75 : decode cX9_undo 75 = .ok (.castore, 1) := by decide +kernel
theorem dX9_undo_76 : decode cX9_undo 76 = .ok (.iinc 3 1, 3) := by decide +kernel
theorem dX9_undo_79 : decode cX9_undo 79 = .ok (.goto (-45), 3) := by decide +kernel
theorem dX9_undo_82 : decode cX9_undo 82 = .ok (.aload_n 0, 1) := by decide +kernel
theorem dX9_undo_83 : decode cX9_undo 83 = .ok (.getfield 111, 3) := by decide +kernel
theorem dX9_undo_86 : decode cX9_undo 86 = .ok (.aload_n 0, 1) := by decide +kernel
theorem dX9_undo_87 : decode cX9_undo 87 = .ok (.getfield 267, 3) := by decide +kernel
theorem dX9_undo_90 : decode cX9_undo 90 = .ok (.aload_n 0, 1) := by decide +kernel
theorem dX9_undo_91 : decode cX9_undo 91 = .ok (.getfield 99, 3) := by decide +kernel
theorem dX9_undo_94 : decode cX9_undo 94 = .ok (.iload_n 1, 1) := by decide +kernel
theorem dX9_undo_95 : decode cX9_undo 95 = .ok (.baload, 1) := by decide +kernel
theorem dX9_undo_96 : decode cX9_undo 96 = .ok (.bastore, 1) := by decide +kernel
theorem dX9_undo_97 : decode cX9_undo 97 = .ok (.aload_n 0, 1) := by decide +kernel
theorem dX9_undo_98 : decode cX9_undo 98 = .ok (.getfield 114, 3) := by decide +kernel
theorem dX9_undo_101 : decode cX9_undo 101 = .ok (.aload_n 0, 1) := by decide +kernel
theorem dX9_undo_102 : decode cX9_undo 102 = .ok (.getfield 267, 3) := by decide +kernel
theorem dX9_undo_105 : decode cX9_undo 105 = .ok (.aload_n 0, 1) := by decide +kernel
theorem dX9_undo_106 : decode cX9_undo 106 = .ok (.getfield 102, 3) := by decide +kernel
theorem dX9_undo_109 : decode cX9_undo 109 = .ok (.iload_n 1, 1) := by decide +kernel
theorem dX9_undo_110 : decode cX9_undo 110 = .ok (.iaload, 1) := by decide +kernel
theorem dX9_undo_111 : decode cX9_undo 111 = .ok (.iastore, 1) := by decide +kernel
theorem dX9_undo_112 : decode cX9_undo 112 = .ok (.aload_n 0, 1) := by decide +kernel
theorem dX9_undo_113 : decode cX9_undo 113 = .ok (.getfield 117, 3) := by decide +kernel
theorem dX9_undo_116 : decode cX9_undo 116 = .ok (.aload_n 0, 1) := by decide +kernel
theorem dX9_undo_117 : decode cX9_undo 117 = .ok (.getfield 267, 3) := by decide +kernel
theorem dX9_undo_120 : decode cX9_undo 120 = .ok (.iload_n 2, 1) := by decide +kernel
theorem dX9_undo_121 : decode cX9_undo 121 = .ok (.iastore, 1) := by decide +kernel
theorem dX9_undo_122 : decode cX9_undo 122 = .ok (.aload_n 0, 1) := by decide +kernel
theorem dX9_undo_123 : decode cX9_undo 123 = .ok (.dup, 1) := by decide +kernel
theorem dX9_undo_124 : decode cX9_undo 124 = .ok (.getfield 267, 3) := by decide +kernel
theorem dX9_undo_127 : decode cX9_undo 127 = .ok (.iconst 1, 1) := by decide +kernel
theorem dX9_undo_128 : decode cX9_undo 128 = .ok (.iadd, 1) := by decide +kernel
theorem dX9_undo_129 : decode cX9_undo 129 = .ok (.putfield 267, 3) := by decide +kernel
theorem dX9_undo_132 : decode cX9_undo 132 = .ok (.aload_n 0, 1) := by decide +kernel
theorem dX9_undo_133 : decode cX9_undo 133 = .ok (.aload_n 0, 1) := by decide +kernel
theorem dX9_undo_134 : decode cX9_undo 134 = .ok (.getfield 99, 3) := by decide +kernel
theorem dX9_undo_137 : decode cX9_undo 137 = .ok (.iload_n 1, 1) := by decide +kernel
theorem dX9_undo_138 : decode cX9_undo 138 = .ok (.baload, 1) := by decide +kernel
theorem dX9_undo_139 : decode cX9_undo 139 = .ok (.ifCond .ne 7, 3) := by decide +kernel
theorem dX9_undo_142 : decode cX9_undo 142 = .ok (.iconst 1, 1) := by decide +kernel
theorem dX9_undo_143 : decode cX9_undo 143 = .ok (.goto 4, 3) := by decide +kernel
theorem dX9_undo_146 : decode cX9_undo 146 = .ok (.iconst 0, 1) := by decide +kernel
theorem dX9_undo_147 : decode cX9_undo 147 = .ok (.aload_n 0, 1) := by decide +kernel
theorem dX9_undo_148 : decode cX9_undo 148 = .ok (.getfield 102, 3) := by decide +kernel
theorem dX9_undo_151 : decode cX9_undo 151 = .ok (.iload_n 1, 1) := by decide +kernel
theorem dX9_undo_152 : decode cX9_undo 152 = .ok (.iaload, 1) := by decide +kernel
theorem dX9_undo_153 : decode cX9_undo 153 = .ok (.iload_n 2, 1) := by decide +kernel
theorem dX9_undo_154 : decode cX9_undo 154 = .ok (.invokevirtual 276, 3) := by decide +kernel
theorem dX9_undo_157 : decode cX9_undo 157 = .ok (.aload_n 0, 1) := by decide +kernel
theorem dX9_undo_158 : decode cX9_undo 158 = .ok (.getfield 260, 3) := by decide +kernel
theorem dX9_undo_161 : decode cX9_undo 161 = .ok (.ireturn, 1) := by decide +kernel
set_option maxRecDepth 20000 in
theorem ggX9_redo_X9_remember : GoodIn wsX9_redo wsX9_remember := goodIn_r _ [11, 12, 13, 14, 15, 16, 3, 98, 99, 100, 101, 102, 103, 104, 105, 106, 107, 108, 109, 110, 111, 112, 113, 114, 115, 116, 117, 118, 119, 120, 121, 122, 123, 124, 125, 126, 127, 128, 129, 130, 131, 132, 133, 134, 135, 136, 137, 138, 139, 140, 141, 142, 143, 144, 145, 146, 147, 148, 149, 150, 151] (by decide +kernel) (by decide +kernel)
set_option maxRecDepth 20000 in
theorem gX9_redo_X9_remember : GoodIn wsX9_redo (wsV RX9 263 RX9 yX9_remember wsX9_remember) := goodIn_app (goodIn_of _ (by decide +kernel)) ggX9_redo_X9_remember
set_option maxRecDepth 20000 in
theorem ggX9_redo_X9_carryOut : GoodIn wsX9_redo wsX9_carryOut := goodIn_r _ [20, 21, 22, 23, 10, 24, 25, 26, 3, 27, 28, 29, 30, 31, 32, 33, 34, 35, 36, 37, 38, 39, 40, 41, 42, 43, 44, 45, 46, 47, 48, 49, 50, 51, 52, 53, 54, 55, 56, 57, 58, 59, 60, 61, 62, 63, 64, 65, 66, 67, 68, 69, 70, 71, 72, 73, 74, 75, 76, 77, 78, 79, 80, 81, 82, 83, 84, 85, 86, 87, 88, 89, 90, 91, 92, 93, 94, 95, 96, 97, 98, 99, 100, 101, 102, 103, 104, 105, 106, 107, 108, 109, 110, 111, 112, 113, 114, 115, 116, 117, 118, 119, 120, 121, 122, 123, 124, 125, 126, 127, 128, 129, 130, 131, 132, 133, 134, 135, 136, 137, 138, 139, 140, 141, 142, 143, 144, 145, 146, 147, 148, 149, 150, 151] (by decide +kernel) (by decide +kernel)
set_option maxRecDepth 20000 in
theorem gX9_redo_X9_carryOut : GoodIn wsX9_redo (wsV RX9 276 RX9 yX9_carryOut wsX9_carryOut) := goodIn_app (goodIn_of _ (by decide +kernel)) ggX9_redo_X9_carryOut
theorem dX9_redo_0 : decode cX9_redo 0 = .ok (.aload_n 0, 1) := by decide +kernel
theorem dX9_redo_1 : decode cX9_redo 1 = .ok (.getfield 267, 3) := by decide +kernel
theorem dX9_redo_4 : decode cX9_redo 4 = .ok (.ifCond .ne 6, 3) := by decide +kernel
theorem dX9_redo_7 : decode cX9_redo 7 = .ok (.bipush (-5), 2) := by decide +kernel
theorem dX9_redo_9 : decode cX9_redo 9 = .ok (.ireturn, 1) := by decide +kernel
theorem dX9_redo_10 : decode cX9_redo 10 = .ok (.aload_n 0, 1) := by decide +kernel
theorem dX9_redo_11 : decode cX9_redo 11 = .ok (.dup, 1) := by decide +kernel
theorem dX9_redo_12 : decode cX9_redo 12 = .ok (.getfield 267, 3) := by decide +kernel
theorem dX9_redo_15 : decode cX9_redo 15 = .ok (.iconst 1, 1) := by decide +kernel
theorem dX9_redo_16 : decode cX9_redo 16 = .ok (.isub, 1) := by decide +kernel
theorem dX9_redo_17 : decode cX9_redo 17 = .ok (.putfield 267, 3) := by decide +kernel
theorem dX9_redo_20 : decode cX9_redo 20 = .ok (.aload_n 0, 1) := by decide +kernel
theorem dX9_redo_21 : decode cX9_redo 21 = .ok (.getfield 267, 3) := by decide +kernel
theorem dX9_redo_24 : decode cX9_redo 24 = .ok (.istore_n 1, 1) := by decide +kernel
theorem dX9_redo_25 : decode cX9_redo 25 = .ok (.aload_n 0, 1) := by decide +kernel
theorem dX9_redo_26 : decode cX9_redo 26 = .ok (.getfield 117, 3) := by decide +kernel
theorem dX9_redo_29 : decode cX9_redo 29 = .ok (.iload_n 1, 1) := by decide +kernel
theorem dX9_redo_30 : decode cX9_redo 30 = .ok (.iaload, 1) := by decide +kernel
theorem dX9_redo_31 : decode cX9_redo 31 = .ok (.istore_n 2, 1) := by decide +kernel
theorem dX9_redo_32 : decode cX9_redo 32 = .ok (.iconst 0, 1) := by decide +kernel
theorem dX9_redo_33 : decode cX9_redo 33 = .ok (.istore_n 3, 1) := by decide +kernel
theorem dX9_redo_34 : decode cX9_redo 34 = .ok (.iload_n 3, 1) := by decide +kernel
theorem dX9_redo_35 : decode cX9_redo 35 = .ok (.iload_n 2, 1) := by decide +kernel
theorem dX9_redo_36 : decode cX9_redo 36 = .ok (.if_icmp .ge 26, 3) := by decide +kernel
theorem dX9_redo_39 : decode cX9_redo 39 = .ok (.aload_n 0, 1) := by decide +kernel
theorem dX9_redo_40 : decode cX9_redo 40 = .ok (.getfield 96, 3) := by decide +kernel
theorem dX9_redo_43 : decode cX9_redo 43 = .ok (.iload_n 3, 1) := by decide +kernel
theorem dX9_redo_44 : decode cX9_redo 44 = .ok (.aload_n 0, 1) := by decide +kernel
theorem dX9_redo_45 : decode cX9_redo 45 = .ok (.getfield 120, 3) := by decide +kernel
theorem dX9_redo_48 : decode cX9_redo 48 = .ok (.bipush 100, 2) := by decide +kernel
theorem dX9_redo_50 : decode cX9_redo 50 = .ok (.iload_n 1, 1) := by decide +kernel
theorem dX9_redo_51 : decode cX9_redo 51 = .ok (.imul, 1) := by decide +kernel
theorem dX9_redo_52 : decode cX9_redo 52 = .ok (.iload_n 3, 1) := by decide +kernel
theorem dX9_redo_53 : decode cX9_redo 53 = .ok (.iadd, 1) := by decide +kernel
theorem dX9_redo_54 : decode cX9_redo 54 = .ok (.caload, 1) := by decide +kernel
theorem dX9_redo_55 : decode cX9_redo 55 = .ok (.castore, 1) := by decide +kernel
theorem dX9_redo_56 : decode cX9_redo 56 = .ok (.iinc 3 1, 3) := by decide +kernel
theorem dX9_redo_59 : decode cX9_redo 59 = .ok (.goto (-25), 3) := by decide +kernel
theorem dX9_redo_62 : decode cX9_redo 62 = .ok (.aload_n 0, 1) := by decide +kernel
theorem dX9_redo_63 : decode cX9_redo 63 = .ok (.aload_n 0, 1) := by decide +kernel
theorem dX9_redo_64 : decode cX9_redo 64 = .ok (.getfield 111, 3) := by decide +kernel
theorem dX9_redo_67 : decode cX9_redo 67 = .ok (.iload_n 1, 1) := by decide +kernel
theorem dX9_redo_68 : decode cX9_redo 68 = .ok (.baload, 1) := by decide +kernel
theorem dX9_redo_69 : decode cX9_redo 69 = .ok (.aload_n 0, 1) := by decide +kernel
theorem dX9_redo_70 : decode cX9_redo 70 = .ok (.getfield 114, 3) := by decide +kernel
theorem dX9_redo_73 : decode cX9_redo 73 = .ok (.iload_n 1, 1) := by decide +kernel
theorem dX9_redo_74 : decode cX9_redo 74 = .ok (.iaload, 1) := by decide +kernel
theorem dX9_redo_75 : decode cX9_redo 75 = .ok (.iload_n 2, 1) := by decide +kernel
theorem dX9_redo_76 : decode cX9_redo 76 = .ok (.invokevirtual 263, 3) := by decide +kernel
theorem dX9_redo_79 : decode cX9_redo 79 = .ok (.aload_n 0, 1) := by decide +kernel
theorem dX9_redo_80 : decode cX9_redo 80 = .ok (.aload_n 0, 1) := by decide +kernel
theorem dX9_redo_81 : decode cX9_redo 81 = .ok (.getfield 111, 3) := by decide +kernel
theorem dX9_redo_84 : decode cX9_redo 84 = .ok (.iload_n 1, 1) := by decide +kernel
theorem dX9_redo_85 : decode cX9_redo 85 = .ok (.baload, 1) := by decide +kernel
theorem dX9_redo_86 : decode cX9_redo 86 = .ok (.aload_n 0, 1) := by decide +kernel
theorem dX9_redo_87 : decode cX9_redo 87 = .ok (.getfield 114, 3) := by decide +kernel
theorem dX9_redo_90 : decode cX9_redo 90 = .ok (.iload_n 1, 1) := by decide +kernel
theorem dX9_redo_91 : decode cX9_redo 91 = .ok (.iaload, 1) := by decide +kernel
theorem dX9_redo_92 : decode cX9_redo 92 = .ok (.iload_n 2, 1) := by decide +kernel
theorem dX9_redo_93 : decode cX9_redo 93 = .ok (.invokevirtual 276, 3) := by decide +kernel
theorem dX9_redo_96 : decode cX9_redo 96 = .ok (.aload_n 0, 1) := by decide +kernel
theorem dX9_redo_97 : decode cX9_redo 97 = .ok (.getfield 267, 3) := by decide +kernel
theorem dX9_redo_100 : decode cX9_redo 100 = .ok (.ireturn, 1) := by decide +kernel
set_option maxRecDepth 20000 in
theorem ggX9_charAt_X9_in : GoodIn wsX9_charAt wsX9_in := goodIn_r _ [6] (by decide +kernel) (by decide +kernel)
set_option maxRecDepth 20000 in
theorem gX9_charAt_X9_in : GoodIn wsX9_charAt (va_wsS RX9 136 yX9_in wsX9_in) := goodIn_app (goodIn_of _ (by decide +kernel)) ggX9_charAt_X9_in
theorem dX9_charAt_0 : decode cX9_charAt 0 = .ok (.iload_n 1, 1) := by decide +kernel
theorem dX9_charAt_1 : decode cX9_charAt 1 = .ok (.iconst 0, 1) := by decide +kernel
theorem dX9_charAt_2 : decode cX9_charAt 2 = .ok (.aload_n 0, 1) := by decide +kernel
theorem dX9_charAt_3 : decode cX9_charAt 3 = .ok (.getfield 207, 3) := by decide +kernel
theorem dX9_charAt_6 : decode cX9_charAt 6 = .ok (.iconst 1, 1) := by decide +kernel
theorem dX9_charAt_7 : decode cX9_charAt 7 = .ok (.isub, 1) := by decide +kernel
theorem dX9_charAt_8 : decode cX9_charAt 8 = .ok (.invokestatic 136, 3) := by decide +kernel
theorem dX9_charAt_11 : decode cX9_charAt 11 = .ok (.ifCond .eq 12, 3) := by decide +kernel
theorem dX9_charAt_14 : decode cX9_charAt 14 = .ok (.aload_n 0, 1) := by decide +kernel
theorem dX9_charAt_15 : decode cX9_charAt 15 = .ok (.getfield 78, 3) := by decide +kernel
theorem dX9_charAt_18 : decode cX9_charAt 18 = .ok (.iload_n 1, 1) := by decide +kernel
theorem dX9_charAt_19 : decode cX9_charAt 19 = .ok (.caload, 1) := by decide +kernel
theorem dX9_charAt_20 : decode cX9_charAt 20 = .ok (.goto 4, 3) := by decide +kernel
theorem dX9_charAt_23 : decode cX9_charAt 23 = .ok (.iconst (-1), 1) := by decide +kernel
theorem dX9_charAt_24 : decode cX9_charAt 24 = .ok (.ireturn, 1) := by decide +kernel
theorem dX9_exceptionBy_0 : decode cX9_exceptionBy 0 = .ok (.iconst 0, 1) := by decide +kernel
theorem dX9_exceptionBy_1 : decode cX9_exceptionBy 1 = .ok (.istore_n 1, 1) := by decide +kernel
theorem dX9_exceptionBy_2 : decode cX9_exceptionBy 2 = .ok (.iload_n 1, 1) := by decide +kernel
theorem dX9_exceptionBy_3 : decode cX9_exceptionBy 3 = .ok (.aload_n 0, 1) := by decide +kernel
theorem dX9_exceptionBy_4 : decode cX9_exceptionBy 4 = .ok (.getfield 279, 3) := by decide +kernel
theorem dX9_exceptionBy_7 : decode cX9_exceptionBy 7 = .ok (.if_icmp .ge 80, 3) := by decide +kernel
theorem dX9_exceptionBy_10 : decode cX9_exceptionBy 10 = .ok (.aload_n 0, 1) := by decide +kernel
theorem dX9_exceptionBy_11 : decode cX9_exceptionBy 11 = .ok (.getfield 123, 3) := by decide +kernel
theorem dX9_exceptionBy_14 : decode cX9_exceptionBy 14 = .ok (.iload_n 1, 1) := by decide +kernel
theorem dX9_exceptionBy_15 : decode cX9_exceptionBy 15 = .ok (.iaload, 1) := by decide +kernel
theorem dX9_exceptionBy_16 : decode cX9_exceptionBy 16 = .ok (.aload_n 0, 1) := by decide +kernel
theorem dX9_exceptionBy_17 : decode cX9_exceptionBy 17 = .ok (.getfield 144, 3) := by decide +kernel
theorem dX9_exceptionBy_20 : decode cX9_exceptionBy 20 = .ok (.if_icmp .ne 7, 3) := by decide +kernel
theorem dX9_exceptionBy_23 : decode cX9_exceptionBy 23 = .ok (.iconst 1, 1) := by decide +kernel
theorem dX9_exceptionBy_24 : decode cX9_exceptionBy 24 = .ok (.goto 4, 3) := by decide +kernel
theorem dX9_exceptionBy_27 : decode cX9_exceptionBy 27 = .ok (.iconst 0, 1) := by decide +kernel
theorem dX9_exceptionBy_28 : decode cX9_exceptionBy 28 = .ok (.istore_n 2, 1) := by decide +kernel
theorem dX9_exceptionBy_29 : decode cX9_exceptionBy 29 = .ok (.iconst 0, 1) := by decide +kernel
theorem dX9_exceptionBy_30 : decode cX9_exceptionBy 30 = .ok (.istore_n 3, 1) := by decide +kernel
theorem dX9_exceptionBy_31 : decode cX9_exceptionBy 31 = .ok (.iload_n 3, 1) := by decide +kernel
theorem dX9_exceptionBy_32 : decode cX9_exceptionBy 32 = .ok (.aload_n 0, 1) := by decide +kernel
theorem dX9_exceptionBy_33 : decode cX9_exceptionBy 33 = .ok (.getfield 144, 3) := by decide +kernel
theorem dX9_exceptionBy_36 : decode cX9_exceptionBy 36 = .ok (.if_icmp .ge 39, 3) := by decide +kernel
theorem dX9_exceptionBy_39 : decode cX9_exceptionBy 39 = .ok (.iload_n 2, 1) := by decide +kernel
theorem dX9_exceptionBy_40 : decode cX9_exceptionBy 40 = .ok (.ifCond .eq 35, 3) := by decide +kernel
theorem dX9_exceptionBy_43 : decode cX9_exceptionBy 43 = .ok (.aload_n 0, 1) := by decide +kernel
theorem dX9_exceptionBy_44 : decode cX9_exceptionBy 44 = .ok (.getfield 126, 3) := by decide +kernel
theorem dX9_exceptionBy_47 : decode cX9_exceptionBy 47 = .ok (.bipush 8, 2) := by decide +kernel
theorem dX9_exceptionBy_49 : decode cX9_exceptionBy 49 = .ok (.iload_n 1, 1) := by decide +kernel
theorem dX9_exceptionBy_50 : decode cX9_exceptionBy 50 = .ok (.imul, 1) := by decide +kernel
theorem dX9_exceptionBy_51 : decode cX9_exceptionBy 51 = .ok (.iload_n 3, 1) := by decide +kernel
theorem dX9_exceptionBy_52 : decode cX9_exceptionBy 52 = .ok (.iadd, 1) := by decide +kernel
theorem dX9_exceptionBy_53 : decode cX9_exceptionBy 53 = .ok (.caload, 1) := by decide +kernel
theorem dX9_exceptionBy_54 : decode cX9_exceptionBy 54 = .ok (.aload_n 0, 1) := by decide +kernel
theorem dX9_exceptionBy_55 : decode cX9_exceptionBy 55 = .ok (.getfield 13, 3) := by decide +kernel
theorem dX9_exceptionBy_58 : decode cX9_exceptionBy 58 = .ok (.iload_n 3, 1) := by decide +kernel
theorem dX9_exceptionBy_59 : decode cX9_exceptionBy 59 = .ok (.caload, 1) := by decide +kernel
theorem dX9_exceptionBy_60 : decode cX9_exceptionBy 60 = .ok (.if_icmp .ne 7, 3) := by decide +kernel
theorem dX9_exceptionBy_63 : decode cX9_exceptionBy 63 = .ok (.iconst 1, 1) := by decide +kernel
theorem dX9_exceptionBy_64 : decode cX9_exceptionBy 64 = .ok (.goto 4, 3) := by decide +kernel
theorem dX9_exceptionBy_67 : decode cX9_exceptionBy 67 = .ok (.iconst 0, 1) := by decide +kernel
theorem dX9_exceptionBy_68 : decode cX9_exceptionBy 68 = .ok (.istore_n 2, 1) := by decide +kernel
theorem dX9_exceptionBy_69 : decode cX9_exceptionBy 69 = .ok (.iinc 3 1, 3) := by decide +kernel
theorem dX9_exceptionBy_72 : decode cX9_exceptionBy 72 = .ok (.goto (-41), 3) := by decide +kernel
theorem dX9_exceptionBy_75 : decode cX9_exceptionBy 75 = .ok (.iload_n 2, 1) := by decide +kernel
theorem dX9_exceptionBy_76 : decode cX9_exceptionBy 76 = .ok (.ifCond .eq 5, 3) := by decide +kernel
theorem dX9_exceptionBy_79 : decode cX9_exceptionBy 79 = .ok (.iload_n 1, 1) := by decide +kernel
theorem dX9_exceptionBy_80 : decode cX9_exceptionBy 80 = .ok (.ireturn, 1) := by decide +kernel
theorem dX9_exceptionBy_81 : decode cX9_exceptionBy 81 = .ok (.iinc 1 1, 3) := by decide +kernel
theorem dX9_exceptionBy_84 : decode cX9_exceptionBy 84 = .ok (.goto (-82), 3) := by decide +kernel
theorem dX9_exceptionBy_87 : decode cX9_exceptionBy 87 = .ok (.iconst (-1), 1) := by decide +kernel
theorem dX9_exceptionBy_88 : decode cX9_exceptionBy 88 = .ok (.ireturn, 1) := by decide +kernel
set_option maxRecDepth 20000 in
theorem ggX9_addException_X9_in : GoodIn wsX9_addException wsX9_in := goodIn_r _ [9] (by decide +kernel) (by decide +kernel)
set_option maxRecDepth 20000 in
theorem gX9_addException_X9_in : GoodIn wsX9_addException (va_wsS RX9 136 yX9_in wsX9_in) := goodIn_app (goodIn_of _ (by decide +kernel)) ggX9_addException_X9_in
set_option maxRecDepth 20000 in
theorem ggX9_addException_X9_exceptionBy : GoodIn wsX9_addException wsX9_exceptionBy := goodIn_r _ [13, 3, 5, 1, 4, 2, 14, 15, 16, 17, 18, 19, 20, 21, 22, 23, 24, 25, 26, 27, 28, 29, 30, 31, 32, 33, 34, 35, 36, 37, 38, 39, 40, 41, 42, 43, 44, 45, 46, 47, 48, 49, 50, 51, 52, 53, 54, 55, 56, 57, 58, 59, 60, 61, 62, 63, 64, 65, 66, 67] (by decide +kernel) (by decide +kernel)
set_option maxRecDepth 20000 in
theorem gX9_addException_X9_exceptionBy : GoodIn wsX9_addException (wsV RX9 282 RX9 yX9_exceptionBy wsX9_exceptionBy) := goodIn_app (goodIn_of _ (by decide +kernel)) ggX9_addException_X9_exceptionBy
theorem dX9_addException_0 : decode cX9_addException 0 = .ok (.aload_n 0, 1) := by decide +kernel
theorem dX9_addException_1 : decode cX9_addException 1 = .ok (.getfield 144, 3) := by decide +kernel
theorem dX9_addException_4 : decode cX9_addException 4 = .ok (.iconst 1, 1) := by decide +kernel
theorem dX9_addException_5 : decode cX9_addException 5 = .ok (.bipush 8, 2) := by decide +kernel
theorem dX9_addException_7 : decode cX9_addException 7 = .ok (.invokestatic 136, 3) := by decide +kernel
theorem dX9_addException_10 : decode cX9_addException 10 = .ok (.istore_n 1, 1) := by decide +kernel
theorem dX9_addException_11 : decode cX9_addException 11 = .ok (.iconst 0, 1) := by decide +kernel
theorem dX9_addException_12 : decode cX9_addException 12 = .ok (.istore_n 2, 1) := by decide +kernel
theorem dX9_addException_13 : decode cX9_addException 13 = .ok (.iload_n 2, 1) := by decide +kernel
theorem dX9_addException_14 : decode cX9_addException 14 = .ok (.aload_n 0, 1) := by decide +kernel
theorem dX9_addException_15 : decode cX9_addException 15 = .ok (.getfield 144, 3) := by decide +kernel
theorem dX9_addException_18 : decode cX9_addException 18 = .ok (.if_icmp .ge 35, 3) := by decide +kernel
theorem dX9_addException_21 : decode cX9_addException 21 = .ok (.iload_n 1, 1) := by decide +kernel
theorem dX9_addException_22 : decode cX9_addException 22 = .ok (.ifCond .eq 23, 3) := by decide +kernel
theorem dX9_addException_25 : decode cX9_addException 25 = .ok (.aload_n 0, 1) := by decide +kernel
theorem dX9_addException_26 : decode cX9_addException 26 = .ok (.getfield 13, 3) := by decide +kernel
theorem dX9_addException_29 : decode cX9_addException 29 = .ok (.iload_n 2, 1) := by decide +kernel
theorem dX9_addException_30 : decode cX9_addException 30 = .ok (.caload, 1) := by decide +kernel
theorem dX9_addException_31 : decode cX9_addException 31 = .ok (.bipush 32, 2) := by decide +kernel
theorem dX9_addException_33 : decode cX9_addException 33 = .ok (.bipush 126, 2) := by decide +kernel
theorem dX9_addException_35 : decode cX9_addException 35 = .ok (.invokestatic 136, 3) := by decide +kernel
theorem dX9_addException_38 : decode cX9_addException 38 = .ok (.ifCond .eq 7, 3) := by decide +kernel
theorem dX9_addException_41 : decode cX9_addException 41 = .ok (.iconst 1, 1) := by decide +kernel
theorem dX9_addException_42 : decode cX9_addException 42 = .ok (.goto 4, 3) := by decide +kernel
theorem dX9_addException_45 : decode cX9_addException 45 = .ok (.iconst 0, 1) := by decide +kernel
theorem dX9_addException_46 : decode cX9_addException 46 = .ok (.istore_n 1, 1) := by decide +kernel
theorem dX9_addException_47 : decode cX9_addException 47 = .ok (.iinc 2 1, 3) := by decide +kernel
theorem dX9_addException_50 : decode cX9_addException 50 = .ok (.goto (-37), 3) := by decide +kernel
theorem dX9_addException_53 : decode cX9_addException 53 = .ok (.iload_n 1, 1) := by decide +kernel
theorem dX9_addException_54 : decode cX9_addException 54 = .ok (.ifCond .ne 6, 3) := by decide +kernel
theorem dX9_addException_57 : decode cX9_addException 57 = .ok (.bipush (-2), 2) := by decide +kernel
theorem dX9_addException_59 : decode cX9_addException 59 = .ok (.ireturn, 1) := by decide +kernel
theorem dX9_addException_60 : decode cX9_addException 60 = .ok (.aload_n 0, 1) := by decide +kernel
theorem dX9_addException_61 : decode cX9_addException 61 = .ok (.invokevirtual 282, 3) := by decide +kernel
theorem dX9_addException_64 : decode cX9_addException 64 = .ok (.ifCond .lt 6, 3) := by decide +kernel
theorem dX9_addException_67 : decode cX9_addException 67 = .ok (.bipush (-4), 2) := by decide +kernel
theorem dX9_addException_69 : decode cX9_addException 69 = .ok (.ireturn, 1) := by decide +kernel
theorem dX9_addException_70 : decode cX9_addException 70 = .ok (.aload_n 0, 1) := by decide +kernel
theorem dX9_addException_71 : decode cX9_addException 71 = .ok (.getfield 279, 3) := by decide +kernel
theorem dX9_addException_74 : decode cX9_addException 74 = .ok (.bipush 10, 2) := by decide +kernel
theorem dX9_addException_76 : decode cX9_addException 76 = .ok (.if_icmp .ne 6, 3) := by decide +kernel
theorem dX9_addException_79 : decode cX9_addException 79 = .ok (.bipush (-3), 2) := by decide +kernel
theorem dX9_addException_81 : decode cX9_addException 81 = .ok (.ireturn, 1) := by decide +kernel
theorem dX9_addException_82 : decode cX9_addException 82 = .ok (.iconst 0, 1) := by decide +kernel
theorem dX9_addException_83 : decode cX9_addException 83 = .ok (.istore_n 2, 1) := by decide +kernel
theorem dX9_addException_84 : decode cX9_addException 84 = .ok (.iload_n 2, 1) := by decide +kernel
theorem dX9_addException_85 : decode cX9_addException 85 = .ok (.aload_n 0, 1) := by decide +kernel
theorem dX9_addException_86 : decode cX9_addException 86 = .ok (.getfield 144, 3) := by decide +kernel
theorem dX9_addException_89 : decode cX9_addException 89 = .ok (.if_icmp .ge 29, 3) := by decide +kernel
theorem dX9_addException_92 : decode cX9_addException 92 = .ok (.aload_n 0, 1) := by decide +kernel
theorem dX9_addException_93 : decode cX9_addException 93 = .ok (.getfield 126, 3) := by decide +kernel
theorem dX9_addException_96 : decode cX9_addException 96 = .ok (.bipush 8, 2) := by decide +kernel
theorem dX9_addException_98 : decode cX9_addException 98 = .ok (.aload_n 0, 1) := by decide +kernel
theorem dX9_addException_99 : decode cX9_addException 99 = .ok (.getfield 279, 3) := by decide +kernel
theorem dX9_addException_102 : decode cX9_addException 102 = .ok (.imul, 1) := by decide +kernel
theorem dX9_addException_103 : decode cX9_addException 103 = .ok (.iload_n 2, 1) := by decide +kernel
theorem dX9_addException_104 : decode cX9_addException 104 = .ok (.iadd, 1) := by decide +kernel
theorem dX9_addException_105 : decode cX9_addException 105 = .ok (.aload_n 0, 1) := by decide +kernel
theorem dX9_addException_106 : decode cX9_addException 106 = .ok (.getfield 13, 3) := by decide +kernel
theorem dX9_addException_109 : decode cX9_addException 109 = .ok (.iload_n 2, 1) := by decide +kernel
theorem dX9_addException_110 : decode cX9_addException 110 = .ok (.caload, 1) := by decide +kernel
theorem dX9_addException_111 : decode cX9_addException 111 = .ok (.castore, 1) := by decide +kernel
theorem dX9_addException_112 : decode cX9_addException 112 = .ok (.iinc 2 1, 3) := by decide +kernel
theorem dX9_addException_115 : decode cX9_addException 115 = .ok (.goto (-31), 3) := by decide +kernel
theorem dX9_addException_118 : decode cX9_addException 118 = .ok (.aload_n 0, 1) := by decide +kernel
theorem dX9_addException_119 : decode cX9_addException 119 = .ok (.getfield 123, 3) := by decide +kernel
theorem dX9_addException_122 : decode cX9_addException 122 = .ok (.aload_n 0, 1) := by decide +kernel
theorem dX9_addException_123 : decode cX9_addException 123 = .ok (.getfield 279, 3) := by decide +kernel
theorem dX9_addException_126 : decode cX9_addException 126 = .ok (.aload_n 0, 1) := by decide +kernel
theorem dX9_addException_127 : decode cX9_addException 127 = .ok (.getfield 144, 3) := by decide +kernel
theorem dX9_addException_130 : decode cX9_addException 130 = .ok (.iastore, 1) := by decide +kernel
theorem dX9_addException_131 : decode cX9_addException 131 = .ok (.aload_n 0, 1) := by decide +kernel
theorem dX9_addException_132 : decode cX9_addException 132 = .ok (.dup, 1) := by decide +kernel
theorem dX9_addException_133 : decode cX9_addException 133 = .ok (.getfield 279, 3) := by decide +kernel
theorem dX9_addException_136 : decode cX9_addException 136 = .ok (.iconst 1, 1) := by decide +kernel
theorem dX9_addException_137 : decode cX9_addException 137 = .ok (.iadd, 1) := by decide +kernel
theorem dX9_addException_138 : decode cX9_addException 138 = .ok (.putfield 279, 3) := by decide +kernel
theorem dX9_addException_141 : decode cX9_addException 141 = .ok (.aload_n 0, 1) := by decide +kernel
theorem dX9_addException_142 : decode cX9_addException 142 = .ok (.getfield 279, 3) := by decide +kernel
theorem dX9_addException_145 : decode cX9_addException 145 = .ok (.ireturn, 1) := by decide +kernel
set_option maxRecDepth 20000 in
theorem ggX9_removeException_X9_exceptionBy : GoodIn wsX9_removeException wsX9_exceptionBy := goodIn_r _ [8, 1, 2, 9, 3, 10, 11, 12, 13, 14, 15, 16, 17, 18, 19, 20, 21, 22, 23, 24, 25, 26, 27, 28, 29, 30, 31, 32, 33, 34, 35, 36, 37, 38, 39, 40, 41, 42, 43, 44, 45, 46, 47, 48, 49, 50, 51, 52, 53, 54, 55, 56, 57, 58, 59, 60, 61, 62, 63, 64] (by decide +kernel) (by decide +kernel)
set_option maxRecDepth 20000 in
theorem gX9_removeException_X9_exceptionBy : GoodIn wsX9_removeException (wsV RX9 282 RX9 yX9_exceptionBy wsX9_exceptionBy) := goodIn_app (goodIn_of _ (by decide +kernel)) ggX9_removeException_X9_exceptionBy
theorem dX9_removeException_0 : decode cX9_removeException 0 = .ok (.aload_n 0, 1) := by decide +kernel
theorem dX9_removeException_1 : decode cX9_removeException 1 = .ok (.invokevirtual 282, 3) := by decide +kernel
theorem dX9_removeException_4 : decode cX9_removeException 4 = .ok (.istore_n 1, 1) := by decide +kernel
theorem dX9_removeException_5 : decode cX9_removeException 5 = .ok (.iload_n 1, 1) := by decide +kernel
theorem dX9_removeException_6 : decode cX9_removeException 6 = .ok (.ifCond .ge 6, 3) := by decide +kernel
theorem dX9_removeException_9 : decode cX9_removeException 9 = .ok (.bipush (-5), 2) := by decide +kernel
theorem dX9_removeException_11 : decode cX9_removeException 11 = .ok (.ireturn, 1) := by decide +kernel
theorem dX9_removeException_12 : decode cX9_removeException 12 = .ok (.aload_n 0, 1) := by decide +kernel
theorem dX9_removeException_13 : decode cX9_removeException 13 = .ok (.dup, 1) := by decide +kernel
theorem dX9_removeException_14 : decode cX9_removeException 14 = .ok (.getfield 279, 3) := by decide +kernel
theorem dX9_removeException_17 : decode cX9_removeException 17 = .ok (.iconst 1, 1) := by decide +kernel
theorem dX9_removeException_18 : decode cX9_removeException 18 = .ok (.isub, 1) := by decide +kernel
theorem dX9_removeException_19 : decode cX9_removeException 19 = .ok (.putfield 279, 3) := by decide +kernel
theorem dX9_removeException_22 : decode cX9_removeException 22 = .ok (.iload_n 1, 1) := by decide +kernel
theorem dX9_removeException_23 : decode cX9_removeException 23 = .ok (.istore_n 2, 1) := by decide +kernel
theorem dX9_removeException_24 : decode cX9_removeException 24 = .ok (.iload_n 2, 1) := by decide +kernel
theorem dX9_removeException_25 : decode cX9_removeException 25 = .ok (.aload_n 0, 1) := by decide +kernel
theorem dX9_removeException_26 : decode cX9_removeException 26 = .ok (.getfield 279, 3) := by decide +kernel
theorem dX9_removeException_29 : decode cX9_removeException 29 = .ok (.if_icmp .ge 62, 3) := by decide +kernel
theorem dX9_removeException_32 : decode cX9_removeException 32 = .ok (.aload_n 0, 1) := by decide +kernel
theorem dX9_removeException_33 : decode cX9_removeException 33 = .ok (.getfield 123, 3) := by decide +kernel
theorem dX9_removeException_36 : decode cX9_removeException 36 = .ok (.iload_n 2, 1) := by decide +kernel
theorem dX9_removeException_37 : decode cX9_removeException 37 = .ok (.aload_n 0, 1) := by decide +kernel
theorem dX9_removeException_38 : decode cX9_removeException 38 = .ok (.getfield 123, 3) := by decide +kernel
theorem dX9_removeException_41 : decode cX9_removeException 41 = .ok (.iload_n 2, 1) := by decide +kernel
theorem dX9_removeException_42 : decode cX9_removeException 42 = .ok (.iconst 1, 1) := by decide +kernel
theorem dX9_removeException_43 : decode cX9_removeException 43 = .ok (.iadd, 1) := by decide +kernel
theorem dX9_removeException_44 : decode cX9_removeException 44 = .ok (.iaload, 1) := by decide +kernel
theorem dX9_removeException_45 : decode cX9_removeException 45 = .ok (.iastore, 1) := by decide +kernel
theorem dX9_removeException_46 : decode cX9_removeException 46 = .ok (.iconst 0, 1) := by decide +kernel
theorem dX9_removeException_47 : decode cX9_removeException 47 = .ok (.istore_n 3, 1) := by decide +kernel
theorem dX9_removeException_48 : decode cX9_removeException 48 = .ok (.iload_n 3, 1) := by decide +kernel
theorem dX9_removeException_49 : decode cX9_removeException 49 = .ok (.bipush 8, 2) := by decide +kernel
theorem dX9_removeException_51 : decode cX9_removeException 51 = .ok (.if_icmp .ge 34, 3) := by decide +kernel
theorem dX9_removeException_54 : decode cX9_removeException 54 = .ok (.aload_n 0, 1) := by decide +kernel
theorem dX9_removeException_55 : decode cX9_removeException 55 = .ok (.getfield 126, 3) := by decide +kernel
theorem dX9_removeException_58 : decode cX9_removeException 58 = .ok (.bipush 8, 2) := by decide +kernel
theorem dX9_removeException_60 : decode cX9_removeException 60 = .ok (.iload_n 2, 1) := by decide +kernel
theorem dX9_removeException_61 : decode cX9_removeException 61 = .ok (.imul, 1) := by decide +kernel
theorem dX9_removeException_62 : decode cX9_removeException 62 = .ok (.iload_n 3, 1) := by decide +kernel
theorem dX9_removeException_63 : decode cX9_removeException 63 = .ok (.iadd, 1) := by decide +kernel
theorem dX9_removeException_64 : decode cX9_removeException 64 = .ok (.aload_n 0, 1) := by decide +kernel
theorem dX9_removeException_65 : decode cX9_removeException 65 = .ok (.getfield 126, 3) := by decide +kernel
theorem dX9_removeException_68 : decode cX9_removeException 68 = .ok (.bipush 8, 2) := by decide +kernel
theorem dX9_removeException_70 : decode cX9_removeException 70 = .ok (.iload_n 2, 1) := by decide +kernel
theorem dX9_removeException_71 : decode cX9_removeException 71 = .ok (.imul, 1) := by decide +kernel
theorem dX9_removeException_72 : decode cX9_removeException 72 = .ok (.bipush 8, 2) := by decide +kernel
theorem dX9_removeException_74 : decode cX9_removeException 74 = .ok (.iadd, 1) := by decide +kernel
theorem dX9_removeException_75 : decode cX9_removeException 75 = .ok (.iload_n 3, 1) := by decide +kernel
theorem dX9_removeException_76 : decode cX9_removeException 76 = .ok (.iadd, 1) := by decide +kernel
theorem dX9_removeException_77 : decode cX9_removeException 77 = .ok (.caload, 1) := by decide +kernel
theorem dX9_removeException_78 : decode cX9_removeException 78 = .ok (.castore, 1) := by decide +kernel
theorem dX9_removeException_79 : decode cX9_removeException 79 = .ok (.iinc 3 1, 3) := by decide +kernel
theorem dX9_removeException_82 : decode cX9_removeException 82 = .ok (.goto (-34), 3) := by decide +kernel
theorem dX9_removeException_85 : decode cX9_removeException 85 = .ok (.iinc 2 1, 3) := by decide +kernel
theorem dX9_removeException_88 : decode cX9_removeException 88 = .ok (.goto (-64), 3) := by decide +kernel
theorem dX9_removeException_91 : decode cX9_removeException 91 = .ok (.aload_n 0, 1) := by decide +kernel
theorem dX9_removeException_92 : decode cX9_removeException 92 = .ok (.getfield 279, 3) := by decide +kernel
theorem dX9_removeException_95 : decode cX9_removeException 95 = .ok (.ireturn, 1) := by decide +kernel
theorem dX9_isExceptionBefore_0 : decode cX9_isExceptionBefore 0 = .ok (.iload_n 1, 1) := by decide +kernel
theorem dX9_isExceptionBefore_1 : decode cX9_isExceptionBefore 1 = .ok (.istore_n 2, 1) := by decide +kernel
theorem dX9_isExceptionBefore_2 : decode cX9_isExceptionBefore 2 = .ok (.iload_n 2, 1) := by decide +kernel
theorem dX9_isExceptionBefore_3 : decode cX9_isExceptionBefore 3 = .ok (.ifCond .le 25, 3) := by decide +kernel
theorem dX9_isExceptionBefore_6 : decode cX9_isExceptionBefore 6 = .ok (.aload_n 0, 1) := by decide +kernel
theorem dX9_isExceptionBefore_7 : decode cX9_isExceptionBefore 7 = .ok (.getfield 7, 3) := by decide +kernel
theorem dX9_isExceptionBefore_10 : decode cX9_isExceptionBefore 10 = .ok (.aload_n 0, 1) := by decide +kernel
theorem dX9_isExceptionBefore_11 : decode cX9_isExceptionBefore 11 = .ok (.getfield 78, 3) := by decide +kernel
theorem dX9_isExceptionBefore_14 : decode cX9_isExceptionBefore 14 = .ok (.iload_n 2, 1) := by decide +kernel
theorem dX9_isExceptionBefore_15 : decode cX9_isExceptionBefore 15 = .ok (.iconst 1, 1) := by decide +kernel
theorem dX9_isExceptionBefore_16 : decode cX9_isExceptionBefore 16 = .ok (.isub, 1) := by decide +kernel
theorem dX9_isExceptionBefore_17 : decode cX9_isExceptionBefore 17 = .ok (.caload, 1) := by decide +kernel
theorem dX9_isExceptionBefore_18 : decode cX9_isExceptionBefore 18 = .ok (.iaload, 1) := by decide +kernel
theorem dX9_isExceptionBefore_19 : decode cX9_isExceptionBefore 19 = .ok (.ifCond .ne 9, 3) := by decide +kernel
theorem dX9_isExceptionBefore_22 : decode cX9_isExceptionBefore 22 = .ok (.iinc 2 (-1), 3) := by decide +kernel
theorem dX9_isExceptionBefore_25 : decode cX9_isExceptionBefore 25 = .ok (.goto (-23), 3) := by decide +kernel
theorem dX9_isExceptionBefore_28 : decode cX9_isExceptionBefore 28 = .ok (.iconst 0, 1) := by decide +kernel
theorem dX9_isExceptionBefore_29 : decode cX9_isExceptionBefore 29 = .ok (.istore_n 3, 1) := by decide +kernel
theorem dX9_isExceptionBefore_30 : decode cX9_isExceptionBefore 30 = .ok (.iload_n 3, 1) := by decide +kernel
theorem dX9_isExceptionBefore_31 : decode cX9_isExceptionBefore 31 = .ok (.aload_n 0, 1) := by decide +kernel
theorem dX9_isExceptionBefore_32 : decode cX9_isExceptionBefore 32 = .ok (.getfield 279, 3) := by decide +kernel
theorem dX9_isExceptionBefore_35 : decode cX9_isExceptionBefore 35 = .ok (.if_icmp .ge 86, 3) := by decide +kernel
theorem dX9_isExceptionBefore_38 : decode cX9_isExceptionBefore 38 = .ok (.aload_n 0, 1) := by decide +kernel
theorem dX9_isExceptionBefore_39 : decode cX9_isExceptionBefore 39 = .ok (.getfield 123, 3) := by decide +kernel
theorem dX9_isExceptionBefore_42 : decode cX9_isExceptionBefore 42 = .ok (.iload_n 3, 1) := by decide +kernel
theorem dX9_isExceptionBefore_43 : decode cX9_isExceptionBefore 43 = .ok (.iaload, 1) := by decide +kernel
theorem dX9_isExceptionBefore_44 : decode cX9_isExceptionBefore 44 = .ok (.iload_n 1, 1) := by decide +kernel
theorem dX9_isExceptionBefore_45 : decode cX9_isExceptionBefore 45 = .ok (.iload_n 2, 1) := by decide +kernel
theorem dX9_isExceptionBefore_46 : decode cX9_isExceptionBefore 46 = .ok (.isub, 1) := by decide +kernel
theorem dX9_isExceptionBefore_47 : decode cX9_isExceptionBefore 47 = .ok (.if_icmp .ne 7, 3) := by decide +kernel
theorem dX9_isExceptionBefore_50 : decode cX9_isExceptionBefore 50 = .ok (.iconst 1, 1) := by decide +kernel
theorem dX9_isExceptionBefore_51 : decode cX9_isExceptionBefore 51 = .ok (.goto 4, 3) := by decide +kernel
theorem dX9_isExceptionBefore_54 : decode cX9_isExceptionBefore 54 = .ok (.iconst 0, 1) := by decide +kernel
theorem dX9_isExceptionBefore_55 : decode cX9_isExceptionBefore 55 = .ok (.istore 4, 2) := by decide +kernel
theorem dX9_isExceptionBefore_57 : decode cX9_isExceptionBefore 57 = .ok (.iload_n 2, 1) := by decide +kernel
theorem dX9_isExceptionBefore_58 : decode cX9_isExceptionBefore 58 = .ok (.istore 5, 2) := by decide +kernel
theorem dX9_isExceptionBefore_60 : decode cX9_isExceptionBefore 60 = .ok (.iload 5, 2) := by decide +kernel
theorem dX9_isExceptionBefore_62 : decode cX9_isExceptionBefore 62 = .ok (.iload_n 1, 1) := by decide +kernel
theorem dX9_isExceptionBefore_63 : decode cX9_isExceptionBefore 63 = .ok (.if_icmp .ge 45, 3) := by decide +kernel
theorem dX9_isExceptionBefore_66 : decode cX9_isExceptionBefore 66 = .ok (.iload 4, 2) := by decide +kernel
theorem dX9_isExceptionBefore_68 : decode cX9_isExceptionBefore 68 = .ok (.ifCond .eq 40, 3) := by decide +kernel
theorem dX9_isExceptionBefore_71 : decode cX9_isExceptionBefore 71 = .ok (.aload_n 0, 1) := by decide +kernel
theorem dX9_isExceptionBefore_72 : decode cX9_isExceptionBefore 72 = .ok (.getfield 126, 3) := by decide +kernel
theorem dX9_isExceptionBefore_75 : decode cX9_isExceptionBefore 75 = .ok (.bipush 8, 2) := by decide +kernel
theorem dX9_isExceptionBefore_77 : decode cX9_isExceptionBefore 77 = .ok (.iload_n 3, 1) := by decide +kernel
theorem dX9_isExceptionBefore_78 : decode cX9_isExceptionBefore 78 = .ok (.imul, 1) := by decide +kernel
theorem dX9_isExceptionBefore_79 : decode cX9_isExceptionBefore 79 = .ok (.iload 5, 2) := by decide +kernel
theorem dX9_isExceptionBefore_81 : decode cX9_isExceptionBefore 81 = .ok (.iadd, 1) := by decide +kernel
theorem dX9_isExceptionBefore_82 : decode cX9_isExceptionBefore 82 = .ok (.iload_n 2, 1) := by decide +kernel
theorem dX9_isExceptionBefore_83 : decode cX9_isExceptionBefore 83 = .ok (.isub, 1) := by decide +kernel
theorem dX9_isExceptionBefore_84 : decode cX9_isExceptionBefore 84 = .ok (.caload, 1) := by decide +kernel
theorem dX9_isExceptionBefore_85 : decode cX9_isExceptionBefore 85 = .ok (.aload_n 0, 1) := by decide +kernel
theorem dX9_isExceptionBefore_86 : decode cX9_isExceptionBefore 86 = .ok (.getfield 78, 3) := by decide +kernel
theorem dX9_isExceptionBefore_89 : decode cX9_isExceptionBefore 89 = .ok (.iload 5, 2) := by decide +kernel
theorem dX9_isExceptionBefore_91 : decode cX9_isExceptionBefore 91 = .ok (.caload, 1) := by decide +kernel
theorem dX9_isExceptionBefore_92 : decode cX9_isExceptionBefore 92 = .ok (.if_icmp .ne 7, 3) := by decide +kernel
theorem dX9_isExceptionBefore_95 : decode cX9_isExceptionBefore 95 = .ok (.iconst 1, 1) := by decide +kernel
theorem dX9_isExceptionBefore_96 : decode cX9_isExceptionBefore 96 = .ok (.goto 4, 3) := by decide +kernel
theorem dX9_isExceptionBefore_99 : decode cX9_isExceptionBefore 99 = .ok (.iconst 0, 1) := by decide +kernel
theorem dX9_isExceptionBefore_100 : decode cX9_isExceptionBefore 100 = .ok (.istore 4, 2) := by decide +kernel
theorem dX9_isExceptionBefore_102 : decode cX9_isExceptionBefore 102 = .ok (.iinc 5 1, 3) := by decide +kernel
theorem dX9_isExceptionBefore_105 : decode cX9_isExceptionBefore 105 = .ok (.goto (-45), 3) := by decide +kernel
theorem dX9_isExceptionBefore_108 : decode cX9_isExceptionBefore 108 = .ok (.iload 4, 2) := by decide +kernel
theorem dX9_isExceptionBefore_110 : decode cX9_isExceptionBefore 110 = .ok (.ifCond .eq 5, 3) := by decide +kernel
theorem dX9_isExceptionBefore_113 : decode cX9_isExceptionBefore 113 = .ok (.iconst 1, 1) := by decide +kernel
theorem dX9_isExceptionBefore_114 : decode cX9_isExceptionBefore 114 = .ok (.ireturn, 1) := by decide +kernel
theorem dX9_isExceptionBefore_115 : decode cX9_isExceptionBefore 115 = .ok (.iinc 3 1, 3) := by decide +kernel
theorem dX9_isExceptionBefore_118 : decode cX9_isExceptionBefore 118 = .ok (.goto (-88), 3) := by decide +kernel
theorem dX9_isExceptionBefore_121 : decode cX9_isExceptionBefore 121 = .ok (.iconst 0, 1) := by decide +kernel
theorem dX9_isExceptionBefore_122 : decode cX9_isExceptionBefore 122 = .ok (.ireturn, 1) := by decide +kernel
set_option maxRecDepth 20000 in
theorem ggX9_isSuppressed_X9_isExceptionBefore : GoodIn wsX9_isSuppressed wsX9_isExceptionBefore := goodIn_r _ [8, 3, 2, 9, 10, 11, 12, 13, 14, 15, 16, 17, 18, 19, 20, 21, 22, 23, 24, 25, 26, 27, 28, 29, 30, 31, 32, 33, 34, 35, 36, 37, 38, 39, 40, 41, 42, 43, 44, 45, 46, 47, 48, 49, 50, 51, 52, 53, 54, 55, 56, 57, 58, 59, 60, 61, 62, 63, 64, 65] (by decide +kernel) (by decide +kernel)
set_option maxRecDepth 20000 in
theorem gX9_isSuppressed_X9_isExceptionBefore : GoodIn wsX9_isSuppressed (wsV RX9 285 RX9 yX9_isExceptionBefore wsX9_isExceptionBefore) := goodIn_app (goodIn_of _ (by decide +kernel)) ggX9_isSuppressed_X9_isExceptionBefore
theorem dX9_isSuppressed_0 : decode cX9_isSuppressed 0 = .ok (.iload_n 1, 1) := by decide +kernel
theorem dX9_isSuppressed_1 : decode cX9_isSuppressed 1 = .ok (.iconst 2, 1) := by decide +kernel
theorem dX9_isSuppressed_2 : decode cX9_isSuppressed 2 = .ok (.if_icmp .ne 15, 3) := by decide +kernel
theorem dX9_isSuppressed_5 : decode cX9_isSuppressed 5 = .ok (.iload_n 2, 1) := by decide +kernel
theorem dX9_isSuppressed_6 : decode cX9_isSuppressed 6 = .ok (.ifCond .eq 11, 3) := by decide +kernel
theorem dX9_isSuppressed_9 : decode cX9_isSuppressed 9 = .ok (.iload_n 2, 1) := by decide +kernel
theorem dX9_isSuppressed_10 : decode cX9_isSuppressed 10 = .ok (.aload_n 0, 1) := by decide +kernel
theorem dX9_isSuppressed_11 : decode cX9_isSuppressed 11 = .ok (.getfield 207, 3) := by decide +kernel
theorem dX9_isSuppressed_14 : decode cX9_isSuppressed 14 = .ok (.if_icmp .ne 5, 3) := by decide +kernel
theorem dX9_isSuppressed_17 : decode cX9_isSuppressed 17 = .ok (.iconst 0, 1) := by decide +kernel
theorem dX9_isSuppressed_18 : decode cX9_isSuppressed 18 = .ok (.ireturn, 1) := by decide +kernel
theorem dX9_isSuppressed_19 : decode cX9_isSuppressed 19 = .ok (.iload_n 2, 1) := by decide +kernel
theorem dX9_isSuppressed_20 : decode cX9_isSuppressed 20 = .ok (.istore_n 3, 1) := by decide +kernel
theorem dX9_isSuppressed_21 : decode cX9_isSuppressed 21 = .ok (.iconst 0, 1) := by decide +kernel
theorem dX9_isSuppressed_22 : decode cX9_isSuppressed 22 = .ok (.istore 4, 2) := by decide +kernel
theorem dX9_isSuppressed_24 : decode cX9_isSuppressed 24 = .ok (.iconst 1, 1) := by decide +kernel
theorem dX9_isSuppressed_25 : decode cX9_isSuppressed 25 = .ok (.istore 5, 2) := by decide +kernel
theorem dX9_isSuppressed_27 : decode cX9_isSuppressed 27 = .ok (.iload 5, 2) := by decide +kernel
theorem dX9_isSuppressed_29 : decode cX9_isSuppressed 29 = .ok (.ifCond .eq 72, 3) := by decide +kernel
theorem dX9_isSuppressed_32 : decode cX9_isSuppressed 32 = .ok (.iload 4, 2) := by decide +kernel
theorem dX9_isSuppressed_34 : decode cX9_isSuppressed 34 = .ok (.ifCond .ne 67, 3) := by decide +kernel
theorem dX9_isSuppressed_37 : decode cX9_isSuppressed 37 = .ok (.iload_n 3, 1) := by decide +kernel
theorem dX9_isSuppressed_38 : decode cX9_isSuppressed 38 = .ok (.ifCond .le 63, 3) := by decide +kernel
theorem dX9_isSuppressed_41 : decode cX9_isSuppressed 41 = .ok (.aload_n 0, 1) := by decide +kernel
theorem dX9_isSuppressed_42 : decode cX9_isSuppressed 42 = .ok (.getfield 78, 3) := by decide +kernel
theorem dX9_isSuppressed_45 : decode cX9_isSuppressed 45 = .ok (.iload_n 3, 1) := by decide +kernel
theorem dX9_isSuppressed_46 : decode cX9_isSuppressed 46 = .ok (.iconst 1, 1) := by decide +kernel
theorem dX9_isSuppressed_47 : decode cX9_isSuppressed 47 = .ok (.isub, 1) := by decide +kernel
theorem dX9_isSuppressed_48 : decode cX9_isSuppressed 48 = .ok (.caload, 1) := by decide +kernel
theorem dX9_isSuppressed_49 : decode cX9_isSuppressed 49 = .ok (.bipush 46, 2) := by decide +kernel
theorem dX9_isSuppressed_51 : decode cX9_isSuppressed 51 = .ok (.if_icmp .ne 17, 3) := by decide +kernel
theorem dX9_isSuppressed_54 : decode cX9_isSuppressed 54 = .ok (.aload_n 0, 1) := by decide +kernel
theorem dX9_isSuppressed_55 : decode cX9_isSuppressed 55 = .ok (.iload_n 3, 1) := by decide +kernel
theorem dX9_isSuppressed_56 : decode cX9_isSuppressed 56 = .ok (.iconst 1, 1) := by decide +kernel
theorem dX9_isSuppressed_57 : decode cX9_isSuppressed 57 = .ok (.isub, 1) := by decide +kernel
theorem dX9_isSuppressed_58 : decode cX9_isSuppressed 58 = .ok (.invokevirtual 285, 3) := by decide +kernel
theorem dX9_isSuppressed_61 : decode cX9_isSuppressed 61 = .ok (.ifCond .eq 7, 3) := by decide +kernel
theorem dX9_isSuppressed_64 : decode cX9_isSuppressed 64 = .ok (.iconst 1, 1) := by decide +kernel
theorem dX9_isSuppressed_65 : decode cX9_isSuppressed 65 = .ok (.goto 4, 3) := by decide +kernel
theorem dX9_isSuppressed_68 : decode cX9_isSuppressed 68 = .ok (.iconst 0, 1) := by decide +kernel
theorem dX9_isSuppressed_69 : decode cX9_isSuppressed 69 = .ok (.istore 4, 2) := by decide +kernel
theorem dX9_isSuppressed_71 : decode cX9_isSuppressed 71 = .ok (.aload_n 0, 1) := by decide +kernel
theorem dX9_isSuppressed_72 : decode cX9_isSuppressed 72 = .ok (.getfield 7, 3) := by decide +kernel
theorem dX9_isSuppressed_75 : decode cX9_isSuppressed 75 = .ok (.aload_n 0, 1) := by decide +kernel
theorem dX9_isSuppressed_76 : decode cX9_isSuppressed 76 = .ok (.getfield 78, 3) := by decide +kernel
theorem dX9_isSuppressed_79 : decode cX9_isSuppressed 79 = .ok (.iload_n 3, 1) := by decide +kernel
theorem dX9_isSuppressed_80 : decode cX9_isSuppressed 80 = .ok (.iconst 1, 1) := by decide +kernel
theorem dX9_isSuppressed_81 : decode cX9_isSuppressed 81 = .ok (.isub, 1) := by decide +kernel
theorem dX9_isSuppressed_82 : decode cX9_isSuppressed 82 = .ok (.caload, 1) := by decide +kernel
theorem dX9_isSuppressed_83 : decode cX9_isSuppressed 83 = .ok (.iaload, 1) := by decide +kernel
theorem dX9_isSuppressed_84 : decode cX9_isSuppressed 84 = .ok (.iconst 2, 1) := by decide +kernel
theorem dX9_isSuppressed_85 : decode cX9_isSuppressed 85 = .ok (.if_icmp .ne 7, 3) := by decide +kernel
theorem dX9_isSuppressed_88 : decode cX9_isSuppressed 88 = .ok (.iconst 1, 1) := by decide +kernel
theorem dX9_isSuppressed_89 : decode cX9_isSuppressed 89 = .ok (.goto 4, 3) := by decide +kernel
theorem dX9_isSuppressed_92 : decode cX9_isSuppressed 92 = .ok (.iconst 0, 1) := by decide +kernel
theorem dX9_isSuppressed_93 : decode cX9_isSuppressed 93 = .ok (.istore 5, 2) := by decide +kernel
theorem dX9_isSuppressed_95 : decode cX9_isSuppressed 95 = .ok (.iinc 3 (-1), 3) := by decide +kernel
theorem dX9_isSuppressed_98 : decode cX9_isSuppressed 98 = .ok (.goto (-71), 3) := by decide +kernel
theorem dX9_isSuppressed_101 : decode cX9_isSuppressed 101 = .ok (.iload 4, 2) := by decide +kernel
theorem dX9_isSuppressed_103 : decode cX9_isSuppressed 103 = .ok (.ireturn, 1) := by decide +kernel
theorem dX9_value_0 : decode cX9_value 0 = .ok (.iload_n 1, 1) := by decide +kernel
theorem dX9_value_1 : decode cX9_value 1 = .ok (.ifCond .ne 10, 3) := by decide +kernel
theorem dX9_value_4 : decode cX9_value 4 = .ok (.aload_n 0, 1) := by decide +kernel
theorem dX9_value_5 : decode cX9_value 5 = .ok (.getfield 207, 3) := by decide +kernel
theorem dX9_value_8 : decode cX9_value 8 = .ok (.goto 53, 3) := by decide +kernel
theorem dX9_value_11 : decode cX9_value 11 = .ok (.iload_n 1, 1) := by decide +kernel
theorem dX9_value_12 : decode cX9_value 12 = .ok (.iconst 1, 1) := by decide +kernel
theorem dX9_value_13 : decode cX9_value 13 = .ok (.if_icmp .ne 10, 3) := by decide +kernel
theorem dX9_value_16 : decode cX9_value 16 = .ok (.aload_n 0, 1) := by decide +kernel
theorem dX9_value_17 : decode cX9_value 17 = .ok (.getfield 144, 3) := by decide +kernel
theorem dX9_value_20 : decode cX9_value 20 = .ok (.goto 41, 3) := by decide +kernel
theorem dX9_value_23 : decode cX9_value 23 = .ok (.iload_n 1, 1) := by decide +kernel
theorem dX9_value_24 : decode cX9_value 24 = .ok (.iconst 2, 1) := by decide +kernel
theorem dX9_value_25 : decode cX9_value 25 = .ok (.if_icmp .ne 10, 3) := by decide +kernel
theorem dX9_value_28 : decode cX9_value 28 = .ok (.aload_n 0, 1) := by decide +kernel
theorem dX9_value_29 : decode cX9_value 29 = .ok (.getfield 279, 3) := by decide +kernel
theorem dX9_value_32 : decode cX9_value 32 = .ok (.goto 29, 3) := by decide +kernel
theorem dX9_value_35 : decode cX9_value 35 = .ok (.iload_n 1, 1) := by decide +kernel
theorem dX9_value_36 : decode cX9_value 36 = .ok (.iconst 3, 1) := by decide +kernel
theorem dX9_value_37 : decode cX9_value 37 = .ok (.if_icmp .ne 10, 3) := by decide +kernel
theorem dX9_value_40 : decode cX9_value 40 = .ok (.aload_n 0, 1) := by decide +kernel
theorem dX9_value_41 : decode cX9_value 41 = .ok (.getfield 260, 3) := by decide +kernel
theorem dX9_value_44 : decode cX9_value 44 = .ok (.goto 17, 3) := by decide +kernel
theorem dX9_value_47 : decode cX9_value 47 = .ok (.iload_n 1, 1) := by decide +kernel
theorem dX9_value_48 : decode cX9_value 48 = .ok (.iconst 4, 1) := by decide +kernel
theorem dX9_value_49 : decode cX9_value 49 = .ok (.if_icmp .ne 10, 3) := by decide +kernel
theorem dX9_value_52 : decode cX9_value 52 = .ok (.aload_n 0, 1) := by decide +kernel
theorem dX9_value_53 : decode cX9_value 53 = .ok (.getfield 267, 3) := by decide +kernel
theorem dX9_value_56 : decode cX9_value 56 = .ok (.goto 5, 3) := by decide +kernel
theorem dX9_value_59 : decode cX9_value 59 = .ok (.bipush (-2), 2) := by decide +kernel
theorem dX9_value_61 : decode cX9_value 61 = .ok (.ireturn, 1) := by decide +kernel
set_option maxRecDepth 20000 in
theorem ggX9_barred_X9_noKind : GoodIn wsX9_barred wsX9_noKind := goodIn_r _ [4, 5, 6, 3, 7] (by decide +kernel) (by decide +kernel)
set_option maxRecDepth 20000 in
theorem gX9_barred_X9_noKind : GoodIn wsX9_barred (va_wsS RX9 231 yX9_noKind wsX9_noKind) := goodIn_app (goodIn_of _ (by decide +kernel)) ggX9_barred_X9_noKind
set_option maxRecDepth 20000 in
theorem ggX9_barred_X9_noPosition : GoodIn wsX9_barred wsX9_noPosition := goodIn_r _ [11, 12, 5, 6, 3, 7, 13, 14, 15, 16, 17, 18, 19, 20, 21, 22, 23, 24, 25, 26, 27, 28, 29, 30, 31, 32, 33, 34, 35, 36, 37, 38, 39, 40, 41, 42, 43, 44, 45, 46, 47, 48, 49, 50, 51, 52, 53, 54, 55, 56, 57, 58, 59, 60, 61, 62, 63, 64, 65, 66] (by decide +kernel) (by decide +kernel)
set_option maxRecDepth 20000 in
theorem gX9_barred_X9_noPosition : GoodIn wsX9_barred (wsV RX9 221 RX9 yX9_noPosition wsX9_noPosition) := goodIn_app (goodIn_of _ (by decide +kernel)) ggX9_barred_X9_noPosition
theorem dX9_barred_0 : decode cX9_barred 0 = .ok (.iload_n 1, 1) := by decide +kernel
theorem dX9_barred_1 : decode cX9_barred 1 = .ok (.invokestatic 231, 3) := by decide +kernel
theorem dX9_barred_4 : decode cX9_barred 4 = .ok (.ifCond .eq 8, 3) := by decide +kernel
theorem dX9_barred_7 : decode cX9_barred 7 = .ok (.bipush (-2), 2) := by decide +kernel
theorem dX9_barred_9 : decode cX9_barred 9 = .ok (.goto 16, 3) := by decide +kernel
theorem dX9_barred_12 : decode cX9_barred 12 = .ok (.aload_n 0, 1) := by decide +kernel
theorem dX9_barred_13 : decode cX9_barred 13 = .ok (.iload_n 2, 1) := by decide +kernel
theorem dX9_barred_14 : decode cX9_barred 14 = .ok (.invokevirtual 221, 3) := by decide +kernel
theorem dX9_barred_17 : decode cX9_barred 17 = .ok (.ifCond .eq 7, 3) := by decide +kernel
theorem dX9_barred_20 : decode cX9_barred 20 = .ok (.iconst (-1), 1) := by decide +kernel
theorem dX9_barred_21 : decode cX9_barred 21 = .ok (.goto 4, 3) := by decide +kernel
theorem dX9_barred_24 : decode cX9_barred 24 = .ok (.iconst 0, 1) := by decide +kernel
theorem dX9_barred_25 : decode cX9_barred 25 = .ok (.ireturn, 1) := by decide +kernel
set_option maxRecDepth 20000 in
theorem ggX9_boundaryAt_X9_barred : GoodIn wsX9_boundaryAt wsX9_barred := goodIn_r _ [6, 7, 8, 5, 9, 10, 11, 12, 13, 14, 15, 16, 17, 36, 37, 38, 39, 40, 41, 42, 43, 44, 45, 46, 47, 48, 49, 50, 51, 52, 53, 54, 55, 56, 57, 58, 59, 60, 61, 62, 63, 64, 65, 66, 67, 68, 69, 70, 71, 72, 73, 74, 75, 76, 77, 78, 79, 80, 81, 82, 83, 84, 85, 86, 87, 88, 89] (by decide +kernel) (by decide +kernel)
set_option maxRecDepth 20000 in
theorem gX9_boundaryAt_X9_barred : GoodIn wsX9_boundaryAt (wsV RX9 288 RX9 yX9_barred wsX9_barred) := goodIn_app (goodIn_of _ (by decide +kernel)) ggX9_boundaryAt_X9_barred
set_option maxRecDepth 20000 in
theorem ggX9_boundaryAt_X9_raw : GoodIn wsX9_boundaryAt wsX9_raw := goodIn_r _ [21, 22, 36, 37, 38, 39, 40, 41, 42, 43, 44, 45, 46, 47, 48, 49, 50, 51, 52, 53, 54, 55, 56, 57, 58, 59, 60, 61, 62, 63, 64, 65, 66, 67, 68, 69, 70, 71, 72, 73, 74, 75, 76, 77, 78, 79, 80, 81, 82, 83, 84, 85, 86, 87, 88, 89] (by decide +kernel) (by decide +kernel)
set_option maxRecDepth 20000 in
theorem gX9_boundaryAt_X9_raw : GoodIn wsX9_boundaryAt (wsV RX9 243 RX9 yX9_raw wsX9_raw) := goodIn_app (goodIn_of _ (by decide +kernel)) ggX9_boundaryAt_X9_raw
set_option maxRecDepth 20000 in
theorem ggX9_boundaryAt_X9_isSuppressed : GoodIn wsX9_boundaryAt wsX9_isSuppressed := goodIn_r _ [26, 17, 27, 28, 29, 30, 31, 5, 32, 33, 34, 35, 36, 37, 38, 39, 40, 41, 42, 43, 44, 45, 46, 47, 48, 49, 50, 51, 52, 53, 54, 55, 56, 57, 58, 59, 60, 61, 62, 63, 64, 65, 66, 67, 68, 69, 70, 71, 72, 73, 74, 75, 76, 77, 78, 79, 80, 81, 82, 83, 84, 85, 86, 87, 88, 89] (by decide +kernel) (by decide +kernel)
set_option maxRecDepth 20000 in
theorem gX9_boundaryAt_X9_isSuppressed : GoodIn wsX9_boundaryAt (wsV RX9 291 RX9 yX9_isSuppressed wsX9_isSuppressed) := goodIn_app (goodIn_of _ (by decide +kernel)) ggX9_boundaryAt_X9_isSuppressed
theorem dX9_boundaryAt_0 : decode cX9_boundaryAt 0 = .ok (.aload_n 0, 1) := by decide +kernel
theorem dX9_boundaryAt_1 : decode cX9_boundaryAt 1 = .ok (.iload_n 1, 1) := by decide +kernel
theorem dX9_boundaryAt_2 : decode cX9_boundaryAt 2 = .ok (.iload_n 2, 1) := by decide +kernel
theorem dX9_boundaryAt_3 : decode cX9_boundaryAt 3 = .ok (.invokevirtual 288, 3) := by decide +kernel
theorem dX9_boundaryAt_6 : decode cX9_boundaryAt 6 = .ok (.istore_n 3, 1) := by decide +kernel
theorem dX9_boundaryAt_7 : decode cX9_boundaryAt 7 = .ok (.iload_n 3, 1) := by decide +kernel
theorem dX9_boundaryAt_8 : decode cX9_boundaryAt 8 = .ok (.ifCond .ge 5, 3) := by decide +kernel
theorem dX9_boundaryAt_11 : decode cX9_boundaryAt 11 = .ok (.iload_n 3, 1) := by decide +kernel
theorem dX9_boundaryAt_12 : decode cX9_boundaryAt 12 = .ok (.ireturn, 1) := by decide +kernel
theorem dX9_boundaryAt_13 : decode cX9_boundaryAt 13 = .ok (.iconst 0, 1) := by decide +kernel
theorem dX9_boundaryAt_14 : decode cX9_boundaryAt 14 = .ok (.istore 4, 2) := by decide +kernel
theorem dX9_boundaryAt_16 : decode cX9_boundaryAt 16 = .ok (.iload 4, 2) := by decide +kernel
theorem dX9_boundaryAt_18 : decode cX9_boundaryAt 18 = .ok (.aload_n 0, 1) := by decide +kernel
theorem dX9_boundaryAt_19 : decode cX9_boundaryAt 19 = .ok (.getfield 81, 3) := by decide +kernel
theorem dX9_boundaryAt_22 : decode cX9_boundaryAt 22 = .ok (.iload_n 1, 1) := by decide +kernel
theorem dX9_boundaryAt_23 : decode cX9_boundaryAt 23 = .ok (.iaload, 1) := by decide +kernel
theorem dX9_boundaryAt_24 : decode cX9_boundaryAt 24 = .ok (.if_icmp .ge 35, 3) := by decide +kernel
theorem dX9_boundaryAt_27 : decode cX9_boundaryAt 27 = .ok (.aload_n 0, 1) := by decide +kernel
theorem dX9_boundaryAt_28 : decode cX9_boundaryAt 28 = .ok (.iload_n 1, 1) := by decide +kernel
theorem dX9_boundaryAt_29 : decode cX9_boundaryAt 29 = .ok (.iload 4, 2) := by decide +kernel
theorem dX9_boundaryAt_31 : decode cX9_boundaryAt 31 = .ok (.invokevirtual 243, 3) := by decide +kernel
theorem dX9_boundaryAt_34 : decode cX9_boundaryAt 34 = .ok (.iload_n 2, 1) := by decide +kernel
theorem dX9_boundaryAt_35 : decode cX9_boundaryAt 35 = .ok (.if_icmp .ne 18, 3) := by decide +kernel
theorem dX9_boundaryAt_38 : decode cX9_boundaryAt 38 = .ok (.aload_n 0, 1) := by decide +kernel
theorem dX9_boundaryAt_39 : decode cX9_boundaryAt 39 = .ok (.iload_n 1, 1) := by decide +kernel
theorem dX9_boundaryAt_40 : decode cX9_boundaryAt 40 = .ok (.iload_n 2, 1) := by decide +kernel
theorem dX9_boundaryAt_41 : decode cX9_boundaryAt 41 = .ok (.invokevirtual 291, 3) := by decide +kernel
theorem dX9_boundaryAt_44 : decode cX9_boundaryAt 44 = .ok (.ifCond .eq 7, 3) := by decide +kernel
theorem dX9_boundaryAt_47 : decode cX9_boundaryAt 47 = .ok (.iconst 2, 1) := by decide +kernel
theorem dX9_boundaryAt_48 : decode cX9_boundaryAt 48 = .ok (.goto 4, 3) := by decide +kernel
theorem dX9_boundaryAt_51 : decode cX9_boundaryAt 51 = .ok (.iconst 1, 1) := by decide +kernel
theorem dX9_boundaryAt_52 : decode cX9_boundaryAt 52 = .ok (.ireturn, 1) := by decide +kernel
theorem dX9_boundaryAt_53 : decode cX9_boundaryAt 53 = .ok (.iinc 4 1, 3) := by decide +kernel
theorem dX9_boundaryAt_56 : decode cX9_boundaryAt 56 = .ok (.goto (-40), 3) := by decide +kernel
theorem dX9_boundaryAt_59 : decode cX9_boundaryAt 59 = .ok (.iconst 0, 1) := by decide +kernel
theorem dX9_boundaryAt_60 : decode cX9_boundaryAt 60 = .ok (.ireturn, 1) := by decide +kernel
set_option maxRecDepth 20000 in
theorem ggX9_next_X9_barred : GoodIn wsX9_next wsX9_barred := goodIn_r _ [6, 7, 8, 5, 9, 10, 11, 12, 13, 14, 15, 16, 17, 36, 37, 38, 39, 40, 41, 42, 43, 44, 45, 46, 47, 48, 49, 50, 51, 52, 53, 54, 55, 56, 57, 58, 59, 60, 61, 62, 63, 64, 65, 66, 67, 68, 69, 70, 71, 72, 73, 74, 75, 76, 77, 78, 79, 80, 81, 82, 83, 84, 85, 86, 87, 88, 89] (by decide +kernel) (by decide +kernel)
set_option maxRecDepth 20000 in
theorem gX9_next_X9_barred : GoodIn wsX9_next (wsV RX9 288 RX9 yX9_barred wsX9_barred) := goodIn_app (goodIn_of _ (by decide +kernel)) ggX9_next_X9_barred
set_option maxRecDepth 20000 in
theorem ggX9_next_X9_raw : GoodIn wsX9_next wsX9_raw := goodIn_r _ [21, 22, 36, 37, 38, 39, 40, 41, 42, 43, 44, 45, 46, 47, 48, 49, 50, 51, 52, 53, 54, 55, 56, 57, 58, 59, 60, 61, 62, 63, 64, 65, 66, 67, 68, 69, 70, 71, 72, 73, 74, 75, 76, 77, 78, 79, 80, 81, 82, 83, 84, 85, 86, 87, 88, 89] (by decide +kernel) (by decide +kernel)
set_option maxRecDepth 20000 in
theorem gX9_next_X9_raw : GoodIn wsX9_next (wsV RX9 243 RX9 yX9_raw wsX9_raw) := goodIn_app (goodIn_of _ (by decide +kernel)) ggX9_next_X9_raw
set_option maxRecDepth 20000 in
theorem ggX9_next_X9_isSuppressed : GoodIn wsX9_next wsX9_isSuppressed := goodIn_r _ [26, 17, 27, 28, 29, 30, 31, 5, 32, 33, 34, 35, 36, 37, 38, 39, 40, 41, 42, 43, 44, 45, 46, 47, 48, 49, 50, 51, 52, 53, 54, 55, 56, 57, 58, 59, 60, 61, 62, 63, 64, 65, 66, 67, 68, 69, 70, 71, 72, 73, 74, 75, 76, 77, 78, 79, 80, 81, 82, 83, 84, 85, 86, 87, 88, 89] (by decide +kernel) (by decide +kernel)
set_option maxRecDepth 20000 in
theorem gX9_next_X9_isSuppressed : GoodIn wsX9_next (wsV RX9 291 RX9 yX9_isSuppressed wsX9_isSuppressed) := goodIn_app (goodIn_of _ (by decide +kernel)) ggX9_next_X9_isSuppressed
theorem dX9_next_0 : decode cX9_next 0 = .ok (.aload_n 0, 1) := by decide +kernel
theorem dX9_next_1 : decode cX9_next 1 = .ok (.iload_n 1, 1) := by decide +kernel
theorem dX9_next_2 : decode cX9_next 2 = .ok (.iload_n 2, 1) := by decide +kernel
theorem dX9_next_3 : decode cX9_next 3 = .ok (.invokevirtual 288, 3) := by decide +kernel
theorem dX9_next_6 : decode cX9_next 6 = .ok (.istore_n 3, 1) := by decide +kernel
theorem dX9_next_7 : decode cX9_next 7 = .ok (.iload_n 3, 1) := by decide +kernel
theorem dX9_next_8 : decode cX9_next 8 = .ok (.ifCond .ge 5, 3) := by decide +kernel
theorem dX9_next_11 : decode cX9_next 11 = .ok (.iload_n 3, 1) := by decide +kernel
theorem dX9_next_12 : decode cX9_next 12 = .ok (.ireturn, 1) := by decide +kernel
theorem dX9_next_13 : decode cX9_next 13 = .ok (.iconst 0, 1) := by decide +kernel
theorem dX9_next_14 : decode cX9_next 14 = .ok (.istore 4, 2) := by decide +kernel
theorem dX9_next_16 : decode cX9_next 16 = .ok (.iload 4, 2) := by decide +kernel
theorem dX9_next_18 : decode cX9_next 18 = .ok (.aload_n 0, 1) := by decide +kernel
theorem dX9_next_19 : decode cX9_next 19 = .ok (.getfield 81, 3) := by decide +kernel
theorem dX9_next_22 : decode cX9_next 22 = .ok (.iload_n 1, 1) := by decide +kernel
theorem dX9_next_23 : decode cX9_next 23 = .ok (.iaload, 1) := by decide +kernel
theorem dX9_next_24 : decode cX9_next 24 = .ok (.if_icmp .ge 43, 3) := by decide +kernel
theorem dX9_next_27 : decode cX9_next 27 = .ok (.aload_n 0, 1) := by decide +kernel
theorem dX9_next_28 : decode cX9_next 28 = .ok (.iload_n 1, 1) := by decide +kernel
theorem dX9_next_29 : decode cX9_next 29 = .ok (.iload 4, 2) := by decide +kernel
theorem dX9_next_31 : decode cX9_next 31 = .ok (.invokevirtual 243, 3) := by decide +kernel
theorem dX9_next_34 : decode cX9_next 34 = .ok (.iload_n 2, 1) := by decide +kernel
theorem dX9_next_35 : decode cX9_next 35 = .ok (.if_icmp .le 26, 3) := by decide +kernel
theorem dX9_next_38 : decode cX9_next 38 = .ok (.aload_n 0, 1) := by decide +kernel
theorem dX9_next_39 : decode cX9_next 39 = .ok (.iload_n 1, 1) := by decide +kernel
theorem dX9_next_40 : decode cX9_next 40 = .ok (.aload_n 0, 1) := by decide +kernel
theorem dX9_next_41 : decode cX9_next 41 = .ok (.iload_n 1, 1) := by decide +kernel
theorem dX9_next_42 : decode cX9_next 42 = .ok (.iload 4, 2) := by decide +kernel
theorem dX9_next_44 : decode cX9_next 44 = .ok (.invokevirtual 243, 3) := by decide +kernel
theorem dX9_next_47 : decode cX9_next 47 = .ok (.invokevirtual 291, 3) := by decide +kernel
theorem dX9_next_50 : decode cX9_next 50 = .ok (.ifCond .ne 11, 3) := by decide +kernel
theorem dX9_next_53 : decode cX9_next 53 = .ok (.aload_n 0, 1) := by decide +kernel
theorem dX9_next_54 : decode cX9_next 54 = .ok (.iload_n 1, 1) := by decide +kernel
theorem dX9_next_55 : decode cX9_next 55 = .ok (.iload 4, 2) := by decide +kernel
theorem dX9_next_57 : decode cX9_next 57 = .ok (.invokevirtual 243, 3) := by decide +kernel
theorem dX9_next_60 : decode cX9_next 60 = .ok (.ireturn, 1) := by decide +kernel
theorem dX9_next_61 : decode cX9_next 61 = .ok (.iinc 4 1, 3) := by decide +kernel
theorem dX9_next_64 : decode cX9_next 64 = .ok (.goto (-48), 3) := by decide +kernel
theorem dX9_next_67 : decode cX9_next 67 = .ok (.bipush (-5), 2) := by decide +kernel
theorem dX9_next_69 : decode cX9_next 69 = .ok (.ireturn, 1) := by decide +kernel
set_option maxRecDepth 20000 in
theorem ggX9_previous_X9_barred : GoodIn wsX9_previous wsX9_barred := goodIn_r _ [6, 7, 8, 5, 9, 10, 11, 12, 13, 14, 15, 16, 17, 36, 37, 38, 39, 40, 41, 42, 43, 44, 45, 46, 47, 48, 49, 50, 51, 52, 53, 54, 55, 56, 57, 58, 59, 60, 61, 62, 63, 64, 65, 66, 67, 68, 69, 70, 71, 72, 73, 74, 75, 76, 77, 78, 79, 80, 81, 82, 83, 84, 85, 86, 87, 88, 89] (by decide +kernel) (by decide +kernel)
set_option maxRecDepth 20000 in
theorem gX9_previous_X9_barred : GoodIn wsX9_previous (wsV RX9 288 RX9 yX9_barred wsX9_barred) := goodIn_app (goodIn_of _ (by decide +kernel)) ggX9_previous_X9_barred
set_option maxRecDepth 20000 in
theorem ggX9_previous_X9_raw : GoodIn wsX9_previous wsX9_raw := goodIn_r _ [21, 22, 36, 37, 38, 39, 40, 41, 42, 43, 44, 45, 46, 47, 48, 49, 50, 51, 52, 53, 54, 55, 56, 57, 58, 59, 60, 61, 62, 63, 64, 65, 66, 67, 68, 69, 70, 71, 72, 73, 74, 75, 76, 77, 78, 79, 80, 81, 82, 83, 84, 85, 86, 87, 88, 89] (by decide +kernel) (by decide +kernel)
set_option maxRecDepth 20000 in
theorem gX9_previous_X9_raw : GoodIn wsX9_previous (wsV RX9 243 RX9 yX9_raw wsX9_raw) := goodIn_app (goodIn_of _ (by decide +kernel)) ggX9_previous_X9_raw
set_option maxRecDepth 20000 in
theorem ggX9_previous_X9_isSuppressed : GoodIn wsX9_previous wsX9_isSuppressed := goodIn_r _ [26, 17, 27, 28, 29, 30, 31, 5, 32, 33, 34, 35, 36, 37, 38, 39, 40, 41, 42, 43, 44, 45, 46, 47, 48, 49, 50, 51, 52, 53, 54, 55, 56, 57, 58, 59, 60, 61, 62, 63, 64, 65, 66, 67, 68, 69, 70, 71, 72, 73, 74, 75, 76, 77, 78, 79, 80, 81, 82, 83, 84, 85, 86, 87, 88, 89] (by decide +kernel) (by decide +kernel)
set_option maxRecDepth 20000 in
theorem gX9_previous_X9_isSuppressed : GoodIn wsX9_previous (wsV RX9 291 RX9 yX9_isSuppressed wsX9_isSuppressed) := goodIn_app (goodIn_of _ (by decide +kernel)) ggX9_previous_X9_isSuppressed
theorem dX9_previous_0 : decode cX9_previous 0 = .ok (.aload_n 0, 1) := by decide +kernel
theorem dX9_previous_1 : decode cX9_previous 1 = .ok (.iload_n 1, 1) := by decide +kernel
theorem dX9_previous_2 : decode cX9_previous 2 = .ok (.iload_n 2, 1) := by decide +kernel
theorem dX9_previous_3 : decode cX9_previous 3 = .ok (.invokevirtual 288, 3) := by decide +kernel
theorem dX9_previous_6 : decode cX9_previous 6 = .ok (.istore_n 3, 1) := by decide +kernel
