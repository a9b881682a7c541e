theorem dX8_weight_0 : decode cX8_weight 0 = .ok (.lconst 1, 1) := by decide +kernel
theorem dX8_weight_1 : decode cX8_weight 1 = .ok (.lstore_n 3, 1) := by decide +kernel
theorem dX8_weight_2 : decode cX8_weight 2 = .ok (.lconst 1, 1) := by decide +kernel
theorem dX8_weight_3 : decode cX8_weight 3 = .ok (.lstore 5, 2) := by decide +kernel
theorem dX8_weight_5 : decode cX8_weight 5 = .ok (.iconst 1, 1) := by decide +kernel
theorem dX8_weight_6 : decode cX8_weight 6 = .ok (.istore 7, 2) := by decide +kernel
theorem dX8_weight_8 : decode cX8_weight 8 = .ok (.iload 7, 2) := by decide +kernel
theorem dX8_weight_10 : decode cX8_weight 10 = .ok (.iload_n 2, 1) := by decide +kernel
theorem dX8_weight_11 : decode cX8_weight 11 = .ok (.if_icmp .gt 68, 3) := by decide +kernel
theorem dX8_weight_14 : decode cX8_weight 14 = .ok (.aload_n 0, 1) := by decide +kernel
theorem dX8_weight_15 : decode cX8_weight 15 = .ok (.getfield 65, 3) := by decide +kernel
theorem dX8_weight_18 : decode cX8_weight 18 = .ok (.iload 7, 2) := by decide +kernel
theorem dX8_weight_20 : decode cX8_weight 20 = .ok (.baload, 1) := by decide +kernel
theorem dX8_weight_21 : decode cX8_weight 21 = .ok (.ifCond .eq 52, 3) := by decide +kernel
theorem dX8_weight_24 : decode cX8_weight 24 = .ok (.iload 7, 2) := by decide +kernel
theorem dX8_weight_26 : decode cX8_weight 26 = .ok (.iload_n 1, 1) := by decide +kernel
theorem dX8_weight_27 : decode cX8_weight 27 = .ok (.if_icmp .eq 46, 3) := by decide +kernel
theorem dX8_weight_30 : decode cX8_weight 30 = .ok (.lload_n 3, 1) := by decide +kernel
theorem dX8_weight_31 : decode cX8_weight 31 = .ok (.iload 7, 2) := by decide +kernel
theorem dX8_weight_33 : decode cX8_weight 33 = .ok (.i2l, 1) := by decide +kernel
theorem dX8_weight_34 : decode cX8_weight 34 = .ok (.lmul, 1) := by decide +kernel
theorem dX8_weight_35 : decode cX8_weight 35 = .ok (.aload_n 0, 1) := by decide +kernel
theorem dX8_weight_36 : decode cX8_weight 36 = .ok (.getfield 103, 3) := by decide +kernel
theorem dX8_weight_39 : decode cX8_weight 39 = .ok (.i2l, 1) := by decide +kernel
theorem dX8_weight_40 : decode cX8_weight 40 = .ok (.lrem, 1) := by decide +kernel
theorem dX8_weight_41 : decode cX8_weight 41 = .ok (.lstore_n 3, 1) := by decide +kernel
theorem dX8_weight_42 : decode cX8_weight 42 = .ok (.lload 5, 2) := by decide +kernel
theorem dX8_weight_44 : decode cX8_weight 44 = .ok (.iload 7, 2) := by decide +kernel
theorem dX8_weight_46 : decode cX8_weight 46 = .ok (.iload_n 1, 1) := by decide +kernel
theorem dX8_weight_47 : decode cX8_weight 47 = .ok (.isub, 1) := by decide +kernel
theorem dX8_weight_48 : decode cX8_weight 48 = .ok (.aload_n 0, 1) := by decide +kernel
theorem dX8_weight_49 : decode cX8_weight 49 = .ok (.getfield 103, 3) := by decide +kernel
theorem dX8_weight_52 : decode cX8_weight 52 = .ok (.irem, 1) := by decide +kernel
theorem dX8_weight_53 : decode cX8_weight 53 = .ok (.aload_n 0, 1) := by decide +kernel
theorem dX8_weight_54 : decode cX8_weight 54 = .ok (.getfield 103, 3) := by decide +kernel
theorem dX8_weight_57 : decode cX8_weight 57 = .ok (.iadd, 1) := by decide +kernel
theorem dX8_weight_58 : decode cX8_weight 58 = .ok (.aload_n 0, 1) := by decide +kernel
theorem dX8_weight_59 : decode cX8_weight 59 = .ok (.getfield 103, 3) := by decide +kernel
theorem dX8_weight_62 : decode cX8_weight 62 = .ok (.irem, 1) := by decide +kernel
theorem dX8_weight_63 : decode cX8_weight 63 = .ok (.i2l, 1) := by decide +kernel
theorem dX8_weight_64 : decode cX8_weight 64 = .ok (.lmul, 1) := by decide +kernel
theorem dX8_weight_65 : decode cX8_weight 65 = .ok (.aload_n 0, 1) := by decide +kernel
theorem dX8_weight_66 : decode cX8_weight 66 = .ok (.getfield 103, 3) := by decide +kernel
theorem dX8_weight_69 : decode cX8_weight 69 = .ok (.i2l, 1) := by decide +kernel
theorem dX8_weight_70 : decode cX8_weight 70 = .ok (.lrem, 1) := by decide +kernel
theorem dX8_weight_71 : decode cX8_weight 71 = .ok (.lstore 5, 2) := by decide +kernel
theorem dX8_weight_73 : decode cX8_weight 73 = .ok (.iinc 7 1, 3) := by decide +kernel
theorem dX8_weight_76 : decode cX8_weight 76 = .ok (.goto (-68), 3) := by decide +kernel
theorem dX8_weight_79 : decode cX8_weight 79 = .ok (.lconst 1, 1) := by decide +kernel
theorem dX8_weight_80 : decode cX8_weight 80 = .ok (.lstore 7, 2) := by decide +kernel
theorem dX8_weight_82 : decode cX8_weight 82 = .ok (.lload 5, 2) := by decide +kernel
theorem dX8_weight_84 : decode cX8_weight 84 = .ok (.lstore 9, 2) := by decide +kernel
theorem dX8_weight_86 : decode cX8_weight 86 = .ok (.aload_n 0, 1) := by decide +kernel
theorem dX8_weight_87 : decode cX8_weight 87 = .ok (.getfield 103, 3) := by decide +kernel
theorem dX8_weight_90 : decode cX8_weight 90 = .ok (.iconst 2, 1) := by decide +kernel
theorem dX8_weight_91 : decode cX8_weight 91 = .ok (.isub, 1) := by decide +kernel
theorem dX8_weight_92 : decode cX8_weight 92 = .ok (.istore 11, 2) := by decide +kernel
theorem dX8_weight_94 : decode cX8_weight 94 = .ok (.iload 11, 2) := by decide +kernel
theorem dX8_weight_96 : decode cX8_weight 96 = .ok (.ifCond .le 46, 3) := by decide +kernel
theorem dX8_weight_99 : decode cX8_weight 99 = .ok (.iload 11, 2) := by decide +kernel
theorem dX8_weight_101 : decode cX8_weight 101 = .ok (.iconst 2, 1) := by decide +kernel
theorem dX8_weight_102 : decode cX8_weight 102 = .ok (.irem, 1) := by decide +kernel
theorem dX8_weight_103 : decode cX8_weight 103 = .ok (.iconst 1, 1) := by decide +kernel
theorem dX8_weight_104 : decode cX8_weight 104 = .ok (.if_icmp .ne 16, 3) := by decide +kernel
theorem dX8_weight_107 : decode cX8_weight 107 = .ok (.lload 7, 2) := by decide +kernel
theorem dX8_weight_109 : decode cX8_weight 109 = .ok (.lload 9, 2) := by decide +kernel
theorem dX8_weight_111 : decode cX8_weight 111 = .ok (.lmul, 1) := by decide +kernel
theorem dX8_weight_112 : decode cX8_weight 112 = .ok (.aload_n 0, 1) := by decide +kernel
theorem dX8_weight_113 : decode cX8_weight 113 = .ok (.getfield 103, 3) := by decide +kernel
theorem dX8_weight_116 : decode cX8_weight 116 = .ok (.i2l, 1) := by decide +kernel
theorem dX8_weight_117 : decode cX8_weight 117 = .ok (.lrem, 1) := by decide +kernel
theorem dX8_weight_118 : decode cX8_weight 118 = .ok (.lstore 7, 2) := by decide +kernel
theorem dX8_weight_120 : decode cX8_weight 120 = .ok (.lload 9, 2) := by decide +kernel
theorem dX8_weight_122 : decode cX8_weight 122 = .ok (.lload 9, 2) := by decide +kernel
theorem dX8_weight_124 : decode cX8_weight 124 = .ok (.lmul, 1) := by decide +kernel
theorem dX8_weight_125 : decode cX8_weight 125 = .ok (.aload_n 0, 1) := by decide +kernel
theorem dX8_weight_126 : decode cX8_weight 126 = .ok (.getfield 103, 3) := by decide +kernel
theorem dX8_weight_129 : decode cX8_weight 129 = .ok (.i2l, 1) := by decide +kernel
theorem dX8_weight_130 : decode cX8_weight 130 = .ok (.lrem, 1) := by decide +kernel
theorem dX8_weight_131 : decode cX8_weight 131 = .ok (.lstore 9, 2) := by decide +kernel
theorem dX8_weight_133 : decode cX8_weight 133 = .ok (.iload 11, 2) := by decide +kernel
theorem dX8_weight_135 : decode cX8_weight 135 = .ok (.iconst 2, 1) := by decide +kernel
theorem dX8_weight_136 : decode cX8_weight 136 = .ok (.idiv, 1) := by decide +kernel
theorem dX8_weight_137 : decode cX8_weight 137 = .ok (.istore 11, 2) := by decide +kernel
theorem dX8_weight_139 : decode cX8_weight 139 = .ok (.goto (-45), 3) := by decide +kernel
theorem dX8_weight_142 : decode cX8_weight 142 = .ok (.lload_n 3, 1) := by decide +kernel
theorem dX8_weight_143 : decode cX8_weight 143 = .ok (.lload 7, 2) := by decide +kernel
theorem dX8_weight_145 : decode cX8_weight 145 = .ok (.lmul, 1) := by decide +kernel
theorem dX8_weight_146 : decode cX8_weight 146 = .ok (.aload_n 0, 1) := by decide +kernel
theorem dX8_weight_147 : decode cX8_weight 147 = .ok (.getfield 103, 3) := by decide +kernel
theorem dX8_weight_150 : decode cX8_weight 150 = .ok (.i2l, 1) := by decide +kernel
theorem dX8_weight_151 : decode cX8_weight 151 = .ok (.lrem, 1) := by decide +kernel
theorem dX8_weight_152 : decode cX8_weight 152 = .ok (.l2i, 1) := by decide +kernel
theorem dX8_weight_153 : decode cX8_weight 153 = .ok (.ireturn, 1) := by decide +kernel
set_option maxRecDepth 20000 in
theorem ggX8_tally_X8_weight : GoodIn wsX8_tally wsX8_weight := goodIn_r _ [19, 8, 20, 48, 49, 50, 51, 52, 53, 54, 55, 56, 57, 58, 59, 60, 61, 62, 63, 64, 65, 66, 67, 68, 69, 70, 71, 72, 73, 74, 75, 76, 77, 78, 79, 80, 81, 82, 83, 84, 85, 86, 87, 88, 89, 90, 91] (by decide +kernel) (by decide +kernel)
set_option maxRecDepth 20000 in
theorem gX8_tally_X8_weight : GoodIn wsX8_tally (wsV RX8 218 RX8 yX8_weight wsX8_weight) := goodIn_app (goodIn_of _ (by decide +kernel)) ggX8_tally_X8_weight
set_option maxRecDepth 20000 in
theorem ggX8_tally_X8_power : GoodIn wsX8_tally wsX8_power := goodIn_r _ [24, 25, 26, 27, 18, 28, 12, 48, 49, 50, 51, 52, 53, 54, 55, 56, 57, 58, 59, 60, 61, 62, 63, 64, 65, 66, 67, 68, 69, 70, 71, 72, 73, 74, 75, 76, 77, 78, 79, 80, 81, 82, 83, 84, 85, 86, 87, 88, 89, 90, 91] (by decide +kernel) (by decide +kernel)
set_option maxRecDepth 20000 in
theorem gX8_tally_X8_power : GoodIn wsX8_tally (wsV RX8 126 RX8 yX8_power wsX8_power) := goodIn_app (goodIn_of _ (by decide +kernel)) ggX8_tally_X8_power
set_option maxRecDepth 20000 in
theorem ggX8_tally_X8_times : GoodIn wsX8_tally wsX8_times := goodIn_r _ [28, 12, 48, 49, 50, 51, 52, 53, 54, 55, 56, 57, 58, 59, 60, 61, 62, 63, 64, 65, 66, 67, 68, 69, 70, 71, 72, 73, 74, 75, 76, 77, 78, 79, 80, 81, 82, 83, 84, 85, 86, 87, 88, 89, 90, 91] (by decide +kernel) (by decide +kernel)
set_option maxRecDepth 20000 in
theorem gX8_tally_X8_times : GoodIn wsX8_tally (wsV RX8 118 RX8 yX8_times wsX8_times) := goodIn_app (goodIn_of _ (by decide +kernel)) ggX8_tally_X8_times
set_option maxRecDepth 20000 in
theorem ggX8_tally_X8_mark : GoodIn wsX8_tally wsX8_mark := goodIn_r _ [32, 21, 22, 23, 18, 24, 25, 26, 27, 28, 12, 48, 49, 50, 51, 52, 53, 54, 55, 56, 57, 58, 59, 60, 61, 62, 63, 64, 65, 66, 67, 68, 69, 70, 71, 72, 73, 74, 75, 76, 77, 78, 79, 80, 81, 82, 83, 84, 85, 86, 87, 88, 89, 90, 91] (by decide +kernel) (by decide +kernel)
set_option maxRecDepth 20000 in
theorem gX8_tally_X8_mark : GoodIn wsX8_tally (wsV RX8 159 RX8 yX8_mark wsX8_mark) := goodIn_app (goodIn_of _ (by decide +kernel)) ggX8_tally_X8_mark
set_option maxRecDepth 20000 in
theorem ggX8_tally_X8_on : GoodIn wsX8_tally wsX8_on := goodIn_r _ [35, 36] (by decide +kernel) (by decide +kernel)
set_option maxRecDepth 20000 in
theorem gX8_tally_X8_on : GoodIn wsX8_tally (va_wsS RX8 131 yX8_on wsX8_on) := goodIn_app (goodIn_of _ (by decide +kernel)) ggX8_tally_X8_on
set_option maxRecDepth 20000 in
theorem ggX8_tally_X8_enter : GoodIn wsX8_tally wsX8_enter := goodIn_r _ [40, 41, 42, 43, 44, 45, 46, 47, 33, 34, 18, 35, 36, 48, 49, 50, 51, 52, 53, 54, 55, 56, 57, 58, 59, 60, 61, 62, 63, 64, 65, 66, 67, 68, 69, 70, 71, 72, 73, 74, 75, 76, 77, 78, 79, 80, 81, 82, 83, 84, 85, 86, 87, 88, 89, 90, 91] (by decide +kernel) (by decide +kernel)
set_option maxRecDepth 20000 in
theorem gX8_tally_X8_enter : GoodIn wsX8_tally (wsV RX8 149 RX8 yX8_enter wsX8_enter) := goodIn_app (goodIn_of _ (by decide +kernel)) ggX8_tally_X8_enter
theorem dX8_tally_0 : decode cX8_tally 0 = .ok (.aload_n 0, 1) := by decide +kernel
theorem dX8_tally_1 : decode cX8_tally 1 = .ok (.getfield 140, 3) := by decide +kernel
theorem dX8_tally_4 : decode cX8_tally 4 = .ok (.iconst 2, 1) := by decide +kernel
theorem dX8_tally_5 : decode cX8_tally 5 = .ok (.if_icmp .ne 42, 3) := by decide +kernel
theorem dX8_tally_8 : decode cX8_tally 8 = .ok (.aload_n 0, 1) := by decide +kernel
theorem dX8_tally_9 : decode cX8_tally 9 = .ok (.getfield 212, 3) := by decide +kernel
theorem dX8_tally_12 : decode cX8_tally 12 = .ok (.ifCond .gt 35, 3) := by decide +kernel
theorem dX8_tally_15 : decode cX8_tally 15 = .ok (.aload_n 0, 1) := by decide +kernel
theorem dX8_tally_16 : decode cX8_tally 16 = .ok (.getfield 191, 3) := by decide +kernel
theorem dX8_tally_19 : decode cX8_tally 19 = .ok (.ifCond .eq 28, 3) := by decide +kernel
theorem dX8_tally_22 : decode cX8_tally 22 = .ok (.aload_n 0, 1) := by decide +kernel
theorem dX8_tally_23 : decode cX8_tally 23 = .ok (.getfield 203, 3) := by decide +kernel
theorem dX8_tally_26 : decode cX8_tally 26 = .ok (.ifCond .eq 21, 3) := by decide +kernel
theorem dX8_tally_29 : decode cX8_tally 29 = .ok (.aload_n 0, 1) := by decide +kernel
theorem dX8_tally_30 : decode cX8_tally 30 = .ok (.getfield 200, 3) := by decide +kernel
theorem dX8_tally_33 : decode cX8_tally 33 = .ok (.ifCond .gt 14, 3) := by decide +kernel
theorem dX8_tally_36 : decode cX8_tally 36 = .ok (.aload_n 0, 1) := by decide +kernel
theorem dX8_tally_37 : decode cX8_tally 37 = .ok (.getfield 185, 3) := by decide +kernel
theorem dX8_tally_40 : decode cX8_tally 40 = .ok (.aload_n 0, 1) := by decide +kernel
theorem dX8_tally_41 : decode cX8_tally 41 = .ok (.getfield 112, 3) := by decide +kernel
theorem dX8_tally_44 : decode cX8_tally 44 = .ok (.if_icmp .ge 5, 3) := by decide +kernel
theorem dX8_tally_47 : decode cX8_tally 47 = .ok (.iconst (-1), 1) := by decide +kernel
theorem dX8_tally_48 : decode cX8_tally 48 = .ok (.ireturn, 1) := by decide +kernel
theorem dX8_tally_49 : decode cX8_tally 49 = .ok (.iconst 0, 1) := by decide +kernel
theorem dX8_tally_50 : decode cX8_tally 50 = .ok (.istore_n 1, 1) := by decide +kernel
theorem dX8_tally_51 : decode cX8_tally 51 = .ok (.iconst 0, 1) := by decide +kernel
theorem dX8_tally_52 : decode cX8_tally 52 = .ok (.istore_n 2, 1) := by decide +kernel
theorem dX8_tally_53 : decode cX8_tally 53 = .ok (.iload_n 2, 1) := by decide +kernel
theorem dX8_tally_54 : decode cX8_tally 54 = .ok (.aload_n 0, 1) := by decide +kernel
theorem dX8_tally_55 : decode cX8_tally 55 = .ok (.getfield 112, 3) := by decide +kernel
theorem dX8_tally_58 : decode cX8_tally 58 = .ok (.if_icmp .ge 26, 3) := by decide +kernel
theorem dX8_tally_61 : decode cX8_tally 61 = .ok (.iinc 1 1, 3) := by decide +kernel
theorem dX8_tally_64 : decode cX8_tally 64 = .ok (.iload_n 2, 1) := by decide +kernel
theorem dX8_tally_65 : decode cX8_tally 65 = .ok (.aload_n 0, 1) := by decide +kernel
theorem dX8_tally_66 : decode cX8_tally 66 = .ok (.getfield 65, 3) := by decide +kernel
theorem dX8_tally_69 : decode cX8_tally 69 = .ok (.iload_n 1, 1) := by decide +kernel
theorem dX8_tally_70 : decode cX8_tally 70 = .ok (.baload, 1) := by decide +kernel
theorem dX8_tally_71 : decode cX8_tally 71 = .ok (.ifCond .eq 7, 3) := by decide +kernel
theorem dX8_tally_74 : decode cX8_tally 74 = .ok (.iconst 1, 1) := by decide +kernel
theorem dX8_tally_75 : decode cX8_tally 75 = .ok (.goto 4, 3) := by decide +kernel
theorem dX8_tally_78 : decode cX8_tally 78 = .ok (.iconst 0, 1) := by decide +kernel
theorem dX8_tally_79 : decode cX8_tally 79 = .ok (.iadd, 1) := by decide +kernel
theorem dX8_tally_80 : decode cX8_tally 80 = .ok (.istore_n 2, 1) := by decide +kernel
theorem dX8_tally_81 : decode cX8_tally 81 = .ok (.goto (-28), 3) := by decide +kernel
theorem dX8_tally_84 : decode cX8_tally 84 = .ok (.iconst 0, 1) := by decide +kernel
theorem dX8_tally_85 : decode cX8_tally 85 = .ok (.istore_n 3, 1) := by decide +kernel
theorem dX8_tally_86 : decode cX8_tally 86 = .ok (.iconst 0, 1) := by decide +kernel
theorem dX8_tally_87 : decode cX8_tally 87 = .ok (.istore 4, 2) := by decide +kernel
theorem dX8_tally_89 : decode cX8_tally 89 = .ok (.iload 4, 2) := by decide +kernel
theorem dX8_tally_91 : decode cX8_tally 91 = .ok (.aload_n 0, 1) := by decide +kernel
theorem dX8_tally_92 : decode cX8_tally 92 = .ok (.getfield 170, 3) := by decide +kernel
theorem dX8_tally_95 : decode cX8_tally 95 = .ok (.if_icmp .ge 159, 3) := by decide +kernel
theorem dX8_tally_98 : decode cX8_tally 98 = .ok (.iconst 1, 1) := by decide +kernel
theorem dX8_tally_99 : decode cX8_tally 99 = .ok (.istore 5, 2) := by decide +kernel
theorem dX8_tally_101 : decode cX8_tally 101 = .ok (.iconst 1, 1) := by decide +kernel
theorem dX8_tally_102 : decode cX8_tally 102 = .ok (.istore 6, 2) := by decide +kernel
theorem dX8_tally_104 : decode cX8_tally 104 = .ok (.iload 6, 2) := by decide +kernel
theorem dX8_tally_106 : decode cX8_tally 106 = .ok (.iload_n 1, 1) := by decide +kernel
theorem dX8_tally_107 : decode cX8_tally 107 = .ok (.if_icmp .gt 51, 3) := by decide +kernel
theorem dX8_tally_110 : decode cX8_tally 110 = .ok (.aload_n 0, 1) := by decide +kernel
theorem dX8_tally_111 : decode cX8_tally 111 = .ok (.getfield 65, 3) := by decide +kernel
theorem dX8_tally_114 : decode cX8_tally 114 = .ok (.iload 6, 2) := by decide +kernel
theorem dX8_tally_116 : decode cX8_tally 116 = .ok (.baload, 1) := by decide +kernel
theorem dX8_tally_117 : decode cX8_tally 117 = .ok (.ifCond .eq 35, 3) := by decide +kernel
theorem dX8_tally_120 : decode cX8_tally 120 = .ok (.aload_n 0, 1) := by decide +kernel
theorem dX8_tally_121 : decode cX8_tally 121 = .ok (.iload 5, 2) := by decide +kernel
theorem dX8_tally_123 : decode cX8_tally 123 = .ok (.aload_n 0, 1) := by decide +kernel
theorem dX8_tally_124 : decode cX8_tally 124 = .ok (.aload_n 0, 1) := by decide +kernel
theorem dX8_tally_125 : decode cX8_tally 125 = .ok (.getfield 68, 3) := by decide +kernel
theorem dX8_tally_128 : decode cX8_tally 128 = .ok (.bipush 40, 2) := by decide +kernel
theorem dX8_tally_130 : decode cX8_tally 130 = .ok (.iload 6, 2) := by decide +kernel
theorem dX8_tally_132 : decode cX8_tally 132 = .ok (.imul, 1) := by decide +kernel
theorem dX8_tally_133 : decode cX8_tally 133 = .ok (.iload 4, 2) := by decide +kernel
theorem dX8_tally_135 : decode cX8_tally 135 = .ok (.iadd, 1) := by decide +kernel
theorem dX8_tally_136 : decode cX8_tally 136 = .ok (.iaload, 1) := by decide +kernel
theorem dX8_tally_137 : decode cX8_tally 137 = .ok (.aload_n 0, 1) := by decide +kernel
theorem dX8_tally_138 : decode cX8_tally 138 = .ok (.iload 6, 2) := by decide +kernel
theorem dX8_tally_140 : decode cX8_tally 140 = .ok (.iload_n 1, 1) := by decide +kernel
theorem dX8_tally_141 : decode cX8_tally 141 = .ok (.invokevirtual 218, 3) := by decide +kernel
theorem dX8_tally_144 : decode cX8_tally 144 = .ok (.invokevirtual 126, 3) := by decide +kernel
theorem dX8_tally_147 : decode cX8_tally 147 = .ok (.invokevirtual 118, 3) := by decide +kernel
theorem dX8_tally_150 : decode cX8_tally 150 = .ok (.istore 5, 2) := by decide +kernel
theorem dX8_tally_152 : decode cX8_tally 152 = .ok (.iinc 6 1, 3) := by decide +kernel
theorem dX8_tally_155 : decode cX8_tally 155 = .ok (.goto (-51), 3) := by decide +kernel
theorem dX8_tally_158 : decode cX8_tally 158 = .ok (.aload_n 0, 1) := by decide +kernel
theorem dX8_tally_159 : decode cX8_tally 159 = .ok (.aload_n 0, 1) := by decide +kernel
theorem dX8_tally_160 : decode cX8_tally 160 = .ok (.getfield 26, 3) := by decide +kernel
theorem dX8_tally_163 : decode cX8_tally 163 = .ok (.bipush 40, 2) := by decide +kernel
theorem dX8_tally_165 : decode cX8_tally 165 = .ok (.aload_n 0, 1) := by decide +kernel
theorem dX8_tally_166 : decode cX8_tally 166 = .ok (.getfield 191, 3) := by decide +kernel
theorem dX8_tally_169 : decode cX8_tally 169 = .ok (.imul, 1) := by decide +kernel
theorem dX8_tally_170 : decode cX8_tally 170 = .ok (.iload 4, 2) := by decide +kernel
theorem dX8_tally_172 : decode cX8_tally 172 = .ok (.iadd, 1) := by decide +kernel
theorem dX8_tally_173 : decode cX8_tally 173 = .ok (.iaload, 1) := by decide +kernel
theorem dX8_tally_174 : decode cX8_tally 174 = .ok (.aload_n 0, 1) := by decide +kernel
theorem dX8_tally_175 : decode cX8_tally 175 = .ok (.iload 5, 2) := by decide +kernel
theorem dX8_tally_177 : decode cX8_tally 177 = .ok (.aload_n 0, 1) := by decide +kernel
theorem dX8_tally_178 : decode cX8_tally 178 = .ok (.getfield 99, 3) := by decide +kernel
theorem dX8_tally_181 : decode cX8_tally 181 = .ok (.iconst 2, 1) := by decide +kernel
theorem dX8_tally_182 : decode cX8_tally 182 = .ok (.isub, 1) := by decide +kernel
theorem dX8_tally_183 : decode cX8_tally 183 = .ok (.invokevirtual 126, 3) := by decide +kernel
theorem dX8_tally_186 : decode cX8_tally 186 = .ok (.invokevirtual 118, 3) := by decide +kernel
theorem dX8_tally_189 : decode cX8_tally 189 = .ok (.istore 6, 2) := by decide +kernel
theorem dX8_tally_191 : decode cX8_tally 191 = .ok (.iconst 0, 1) := by decide +kernel
theorem dX8_tally_192 : decode cX8_tally 192 = .ok (.istore 7, 2) := by decide +kernel
theorem dX8_tally_194 : decode cX8_tally 194 = .ok (.iload 7, 2) := by decide +kernel
theorem dX8_tally_196 : decode cX8_tally 196 = .ok (.aload_n 0, 1) := by decide +kernel
theorem dX8_tally_197 : decode cX8_tally 197 = .ok (.getfield 106, 3) := by decide +kernel
theorem dX8_tally_200 : decode cX8_tally 200 = .ok (.if_icmp .ge 20, 3) := by decide +kernel
theorem dX8_tally_203 : decode cX8_tally 203 = .ok (.aload_n 0, 1) := by decide +kernel
theorem dX8_tally_204 : decode cX8_tally 204 = .ok (.iload 7, 2) := by decide +kernel
theorem dX8_tally_206 : decode cX8_tally 206 = .ok (.invokevirtual 159, 3) := by decide +kernel
theorem dX8_tally_209 : decode cX8_tally 209 = .ok (.iload 6, 2) := by decide +kernel
theorem dX8_tally_211 : decode cX8_tally 211 = .ok (.if_icmp .eq 9, 3) := by decide +kernel
theorem dX8_tally_214 : decode cX8_tally 214 = .ok (.iinc 7 1, 3) := by decide +kernel
theorem dX8_tally_217 : decode cX8_tally 217 = .ok (.goto (-23), 3) := by decide +kernel
theorem dX8_tally_220 : decode cX8_tally 220 = .ok (.aload_n 0, 1) := by decide +kernel
theorem dX8_tally_221 : decode cX8_tally 221 = .ok (.getfield 71, 3) := by decide +kernel
theorem dX8_tally_224 : decode cX8_tally 224 = .ok (.iload 7, 2) := by decide +kernel
theorem dX8_tally_226 : decode cX8_tally 226 = .ok (.dup2, 1) := by decide +kernel
theorem dX8_tally_227 : decode cX8_tally 227 = .ok (.iaload, 1) := by decide +kernel
theorem dX8_tally_228 : decode cX8_tally 228 = .ok (.iconst 1, 1) := by decide +kernel
theorem dX8_tally_229 : decode cX8_tally 229 = .ok (.iadd, 1) := by decide +kernel
theorem dX8_tally_230 : decode cX8_tally 230 = .ok (.iastore, 1) := by decide +kernel
theorem dX8_tally_231 : decode cX8_tally 231 = .ok (.iload_n 3, 1) := by decide +kernel
theorem dX8_tally_232 : decode cX8_tally 232 = .ok (.iload 7, 2) := by decide +kernel
theorem dX8_tally_234 : decode cX8_tally 234 = .ok (.aload_n 0, 1) := by decide +kernel
theorem dX8_tally_235 : decode cX8_tally 235 = .ok (.getfield 106, 3) := by decide +kernel
theorem dX8_tally_238 : decode cX8_tally 238 = .ok (.if_icmp .ne 7, 3) := by decide +kernel
theorem dX8_tally_241 : decode cX8_tally 241 = .ok (.iconst 1, 1) := by decide +kernel
theorem dX8_tally_242 : decode cX8_tally 242 = .ok (.goto 4, 3) := by decide +kernel
theorem dX8_tally_245 : decode cX8_tally 245 = .ok (.iconst 0, 1) := by decide +kernel
theorem dX8_tally_246 : decode cX8_tally 246 = .ok (.iadd, 1) := by decide +kernel
theorem dX8_tally_247 : decode cX8_tally 247 = .ok (.istore_n 3, 1) := by decide +kernel
theorem dX8_tally_248 : decode cX8_tally 248 = .ok (.iinc 4 1, 3) := by decide +kernel
theorem dX8_tally_251 : decode cX8_tally 251 = .ok (.goto (-162), 3) := by decide +kernel
theorem dX8_tally_254 : decode cX8_tally 254 = .ok (.aload_n 0, 1) := by decide +kernel
theorem dX8_tally_255 : decode cX8_tally 255 = .ok (.iconst 3, 1) := by decide +kernel
theorem dX8_tally_256 : decode cX8_tally 256 = .ok (.putfield 140, 3) := by decide +kernel
theorem dX8_tally_259 : decode cX8_tally 259 = .ok (.lconst 0, 1) := by decide +kernel
theorem dX8_tally_260 : decode cX8_tally 260 = .ok (.lstore 4, 2) := by decide +kernel
theorem dX8_tally_262 : decode cX8_tally 262 = .ok (.iconst 0, 1) := by decide +kernel
theorem dX8_tally_263 : decode cX8_tally 263 = .ok (.istore 6, 2) := by decide +kernel
theorem dX8_tally_265 : decode cX8_tally 265 = .ok (.iload 6, 2) := by decide +kernel
theorem dX8_tally_267 : decode cX8_tally 267 = .ok (.aload_n 0, 1) := by decide +kernel
theorem dX8_tally_268 : decode cX8_tally 268 = .ok (.getfield 106, 3) := by decide +kernel
theorem dX8_tally_271 : decode cX8_tally 271 = .ok (.if_icmp .ge 24, 3) := by decide +kernel
theorem dX8_tally_274 : decode cX8_tally 274 = .ok (.lload 4, 2) := by decide +kernel
theorem dX8_tally_276 : decode cX8_tally 276 = .ok (.aload_n 0, 1) := by decide +kernel
theorem dX8_tally_277 : decode cX8_tally 277 = .ok (.getfield 71, 3) := by decide +kernel
theorem dX8_tally_280 : decode cX8_tally 280 = .ok (.iload 6, 2) := by decide +kernel
theorem dX8_tally_282 : decode cX8_tally 282 = .ok (.iaload, 1) := by decide +kernel
theorem dX8_tally_283 : decode cX8_tally 283 = .ok (.i2l, 1) := by decide +kernel
theorem dX8_tally_284 : decode cX8_tally 284 = .ok (.invokestatic 131, 3) := by decide +kernel
theorem dX8_tally_287 : decode cX8_tally 287 = .ok (.lstore 4, 2) := by decide +kernel
theorem dX8_tally_289 : decode cX8_tally 289 = .ok (.iinc 6 1, 3) := by decide +kernel
theorem dX8_tally_292 : decode cX8_tally 292 = .ok (.goto (-27), 3) := by decide +kernel
theorem dX8_tally_295 : decode cX8_tally 295 = .ok (.aload_n 0, 1) := by decide +kernel
theorem dX8_tally_296 : decode cX8_tally 296 = .ok (.bipush 8, 2) := by decide +kernel
theorem dX8_tally_298 : decode cX8_tally 298 = .ok (.aload_n 0, 1) := by decide +kernel
theorem dX8_tally_299 : decode cX8_tally 299 = .ok (.getfield 170, 3) := by decide +kernel
theorem dX8_tally_302 : decode cX8_tally 302 = .ok (.iload_n 3, 1) := by decide +kernel
theorem dX8_tally_303 : decode cX8_tally 303 = .ok (.isub, 1) := by decide +kernel
theorem dX8_tally_304 : decode cX8_tally 304 = .ok (.i2l, 1) := by decide +kernel
theorem dX8_tally_305 : decode cX8_tally 305 = .ok (.iload_n 3, 1) := by decide +kernel
theorem dX8_tally_306 : decode cX8_tally 306 = .ok (.i2l, 1) := by decide +kernel
theorem dX8_tally_307 : decode cX8_tally 307 = .ok (.lload 4, 2) := by decide +kernel
theorem dX8_tally_309 : decode cX8_tally 309 = .ok (.invokevirtual 149, 3) := by decide +kernel
theorem dX8_tally_312 : decode cX8_tally 312 = .ok (.lstore 6, 2) := by decide +kernel
theorem dX8_tally_314 : decode cX8_tally 314 = .ok (.aload_n 0, 1) := by decide +kernel
theorem dX8_tally_315 : decode cX8_tally 315 = .ok (.getfield 170, 3) := by decide +kernel
theorem dX8_tally_318 : decode cX8_tally 318 = .ok (.iload_n 3, 1) := by decide +kernel
theorem dX8_tally_319 : decode cX8_tally 319 = .ok (.isub, 1) := by decide +kernel
theorem dX8_tally_320 : decode cX8_tally 320 = .ok (.ireturn, 1) := by decide +kernel
theorem tm_r2 {q a b : Int32} (ha : rng q a) (hb : rng q b) : rng q (tm q a b) := by
  obtain ⟨x, p0, h1, h2, h3, h4⟩ := ha
  obtain ⟨y, p1, g1, g2, g3, g4⟩ := hb
  have e : p0 = p1 := by rw [h2] at g2; exact (nI_eq (by omega) (by omega)).mp g2
  exact tm_rng h2 h1 g1 (by omega) h4 (by omega) (by omega)
theorem tm64 {q a b : Int32} (ha : rng q a) (hb : rng q b) : a.toInt64 * b.toInt64 - a.toInt64 * b.toInt64 / q.toInt64 * q.toInt64 = (tm q a b).toInt64 := by
  obtain ⟨x, p0, h1, h2, h3, h4⟩ := ha
  obtain ⟨y, p1, g1, g2, g3, g4⟩ := hb
  have e : p0 = p1 := by rw [h2] at g2; exact (nI_eq (by omega) (by omega)).mp g2
  have l1 : x * y < 1000000 * 1000000 := Nat.mul_lt_mul'' (by omega) (by omega)
  have l2 : x * y % p0 < p0 := Nat.mod_lt _ (by omega)
  rw [tm_nI h2 h1 g1 (by omega) h4 (by omega) (by omega), h1, g1, h2, nI_l (by omega), nI_l (by omega), nI_l (by omega), nI_l (by omega), lN_mul, pk_lRem (by omega) (by omega) (by omega)]
theorem rng_1 {q : Int32} {q0 : Nat} (hq : q = nI q0) (h2 : 2 ≤ q0) (h9 : q0 < 1000000) : rng q 1 := ⟨1, q0, rfl, hq, by omega, h9⟩
theorem rng_n {q : Int32} {q0 k : Nat} (hq : q = nI q0) (h : k < q0) (h9 : q0 < 1000000) : rng q (nI k) := ⟨k, q0, rfl, hq, h, h9⟩
theorem rng_nn {q x : Int32} (h : rng q x) : nn x := by
  obtain ⟨k, p0, h1, _, h3, h4⟩ := h
  rw [h1]
  exact nn_nI (by omega)
theorem dv_neg {a b q0 : Nat} (h : a < b) (hb : b < q0) (hq9 : q0 < 1000000) : (nI a - nI b) / nI q0 = 0 := by
  apply Int32.toInt_inj.mp
  rw [Int32.toInt_div, pk_sub_toInt (by omega) (by omega), nI_toInt (by omega)]
  have e : ((a : Int) - b).tdiv q0 = 0 := by
    rw [show (a : Int) - b = -((b : Int) - a) by omega, Int.neg_tdiv, Int.tdiv_eq_zero_of_lt (by omega) (by omega)]
    rfl
  rw [e]
  rfl
theorem mn_2 {q z j : Int32} {q0 a b : Nat} (hq : q = nI q0) (hq9 : q0 < 1000000) (hz : z = nI a) (hj : j = nI b) (ha : a < q0) (hb : b < q0) : ((z - j) - (z - j) / q * q + q) - ((z - j) - (z - j) / q * q + q) / q * q = mn q z j ∧ rng q (mn q z j) := by
  obtain ⟨c, h1, h2, h3⟩ := mn_cases (q := q) (a := z) (b := j) hq hq9 (by rw [hz]; exact ⟨nn_nI (by omega), by rw [nI_clamp (by omega)]; exact ha⟩) (by rw [hj]; exact ⟨nn_nI (by omega), by rw [nI_clamp (by omega)]; exact hb⟩)
  refine ⟨?_, c, q0, h2, hq, h1, hq9⟩
  by_cases h : a < b
  · have e : (z - j) / q = 0 := by rw [hz, hj, hq]; exact dv_neg h hb hq9
    rw [e, Int32.zero_mul, Int32.sub_zero, h3, h2]
  · have e1 : z - j = nI (a - b) := by rw [hz, hj]; exact pk_sub (by omega)
    have e2 : (z - j) - (z - j) / q * q = z - j := by rw [e1, hq, pk_rem (by omega) (by omega) (by omega), Nat.mod_eq_of_lt (by omega)]
    rw [e2, h3, h2]
theorem wup_r {q : Int32} {q0 j : Nat} {gv : Nat → Int32} (hq : q = nI q0) (hq1 : 5 ≤ q0 ∧ q0 < 1000000) : ∀ k : Nat, k < q0 → rng q (wup q gv j k)
  | 0, _ => rng_1 hq (by omega) hq1.2
  | k + 1, h => by
    show rng q (if k + 1 = j ∨ gv (k + 1) = 0 then wup q gv j k else tm q (wup q gv j k) (nI (k + 1)))
    split
    · exact wup_r hq hq1 k (by omega)
    · exact tm_r2 (wup_r hq hq1 k (by omega)) (rng_n hq h hq1.2)
theorem wdn_r {q : Int32} {q0 j : Nat} {gv : Nat → Int32} (hq : q = nI q0) (hq1 : 5 ≤ q0 ∧ q0 < 1000000) (hj : j ≤ 5 ∧ j < q0) : ∀ k : Nat, k < q0 → rng q (wdn q gv j k)
  | 0, _ => rng_1 hq (by omega) hq1.2
  | k + 1, h => by
    show rng q (if k + 1 = j ∨ gv (k + 1) = 0 then wdn q gv j k else tm q (wdn q gv j k) (mn q (nI (k + 1)) (nI j)))
    split
    · exact wdn_r hq hq1 hj k (by omega)
    · exact tm_r2 (wdn_r hq hq1 hj k (by omega)) (mn_2 hq hq1.2 rfl rfl h hj.2).2
theorem w8_gv {gv : Nat → Int32} {z : Int32} {k : Nat} (hz : z = nI (k + 1)) (hk : k < 100) : gv z.toNatClampNeg = gv (k + 1) := by rw [hz, nI_clamp (by omega)]
theorem w8_no {q z : Int32} {gv : Nat → Int32} {k j0 : Nat} {d1 d2 : Int64} (hz : z = nI (k + 1)) (hk : k < 100) (c : gv z.toNatClampNeg = 0) (h1 : d1 = (wup q gv j0 k).toInt64) (h2 : d2 = (wdn q gv j0 k).toInt64) : d1 = (wup q gv j0 (k + 1)).toInt64 ∧ d2 = (wdn q gv j0 (k + 1)).toInt64 := by
  rw [w8_gv (gv := gv) hz hk] at c
  refine ⟨?_, ?_⟩
  · show d1 = (if k + 1 = j0 ∨ gv (k + 1) = 0 then wup q gv j0 k else _).toInt64
    rw [if_pos (Or.inr c), h1]
  · show d2 = (if k + 1 = j0 ∨ gv (k + 1) = 0 then wdn q gv j0 k else _).toInt64
    rw [if_pos (Or.inr c), h2]
theorem w8_eq {q z j : Int32} {gv : Nat → Int32} {k j0 : Nat} {d1 d2 : Int64} (hz : z = nI (k + 1)) (hj : j = nI j0) (hk : k < 100) (hj9 : j0 < 100) (c : z = j) (h1 : d1 = (wup q gv j0 k).toInt64) (h2 : d2 = (wdn q gv j0 k).toInt64) : d1 = (wup q gv j0 (k + 1)).toInt64 ∧ d2 = (wdn q gv j0 (k + 1)).toInt64 := by
  rw [hz, hj, nI_eq (by omega) (by omega)] at c
  refine ⟨?_, ?_⟩
  · show d1 = (if k + 1 = j0 ∨ gv (k + 1) = 0 then wup q gv j0 k else _).toInt64
    rw [if_pos (Or.inl c), h1]
  · show d2 = (if k + 1 = j0 ∨ gv (k + 1) = 0 then wdn q gv j0 k else _).toInt64
    rw [if_pos (Or.inl c), h2]
theorem w8_c {z j : Int32} {gv : Nat → Int32} {k j0 : Nat} (hz : z = nI (k + 1)) (hk : k < 100) (hj : j = nI j0) (c1 : ¬ gv z.toNatClampNeg = 0) (c2 : ¬ z = j) : ¬ (k + 1 = j0 ∨ gv (k + 1) = 0) := by
  rw [w8_gv (gv := gv) hz hk] at c1
  rintro (e | e)
  · exact c2 (by rw [hz, hj, e])
  · exact c1 e
theorem w8_up {q z j : Int32} {gv : Nat → Int32} {q0 k j0 : Nat} (hq : q = nI q0) (hq1 : 5 ≤ q0 ∧ q0 < 1000000) (hz : z = nI (k + 1)) (hk : k + 1 ≤ 5 ∧ k + 1 < q0) (hj : j = nI j0) (_ : j0 < 100) (c1 : ¬ gv z.toNatClampNeg = 0) (c2 : ¬ z = j) : (wup q gv j0 k).toInt64 * z.toInt64 - (wup q gv j0 k).toInt64 * z.toInt64 / q.toInt64 * q.toInt64 = (wup q gv j0 (k + 1)).toInt64 := by
  rw [tm64 (wup_r hq hq1 k (by omega)) (by rw [hz]; exact rng_n hq hk.2 hq1.2)]
  show _ = (if k + 1 = j0 ∨ gv (k + 1) = 0 then _ else tm q (wup q gv j0 k) (nI (k + 1))).toInt64
  rw [if_neg (w8_c hz (by omega) hj c1 c2), hz]
theorem w8_dn {q z j : Int32} {gv : Nat → Int32} {q0 k j0 : Nat} (hq : q = nI q0) (hq1 : 5 ≤ q0 ∧ q0 < 1000000) (hz : z = nI (k + 1)) (hk : k + 1 ≤ 5) (hk2 : k + 1 < q0) (hj : j = nI j0) (hj5 : j0 ≤ 5 ∧ j0 < q0) (c1 : ¬ gv z.toNatClampNeg = 0) (c2 : ¬ z = j) : (wdn q gv j0 k).toInt64 * ((z - j) - (z - j) / q * q + q - ((z - j) - (z - j) / q * q + q) / q * q).toInt64 - (wdn q gv j0 k).toInt64 * ((z - j) - (z - j) / q * q + q - ((z - j) - (z - j) / q * q + q) / q * q).toInt64 / q.toInt64 * q.toInt64 = (wdn q gv j0 (k + 1)).toInt64 := by
  obtain ⟨h1, h2⟩ := mn_2 hq hq1.2 hz hj hk2 hj5.2
  rw [h1, tm64 (wdn_r hq hq1 hj5 k (by omega)) h2]
  show _ = (if k + 1 = j0 ∨ gv (k + 1) = 0 then _ else tm q (wdn q gv j0 k) (mn q (nI (k + 1)) (nI j0))).toInt64
  rw [if_neg (w8_c hz (by omega) hj c1 c2), hz, hj]
theorem wg_r {q : Int32} {q0 la j : Nat} {gv : Nat → Int32} (hq : q = nI q0) (hq1 : 5 ≤ q0 ∧ q0 < 1000000) (hla : la < q0) (hj : j ≤ 5 ∧ j < q0) : rng q (wgt q q0 gv la j) := by
  obtain ⟨b, p1, g1, g2, g3, g4⟩ := wdn_r (gv := gv) hq hq1 hj la hla
  exact tm_r2 (wup_r hq hq1 la hla) (pw_rng hq ⟨by omega, hq1.2⟩ (q0 - 2) _ b g1 (by omega))
theorem wg_nn {q : Int32} {q0 la j : Nat} {gv : Nat → Int32} (hq : q = nI q0) (hq1 : 5 ≤ q0 ∧ q0 < 1000000) (hla : la < q0) (hj : j ≤ 5 ∧ j < q0) : nn (wgt q q0 gv la j) := rng_nn (wg_r hq hq1 hla hj)
theorem wts_at {q : Int32} {q0 la : Nat} {gv w : Nat → Int32} : ∀ (k j : Nat), 1 ≤ j → j ≤ k → wts q q0 gv la w k j = if j ≤ la ∧ ¬ gv j = 0 then wgt q q0 gv la j else 0
  | 0, j, h1, h2 => by omega
  | k + 1, j, h1, h2 => by
    show upd (wts q q0 gv la w k) (k + 1) (if k + 1 ≤ la ∧ ¬ gv (k + 1) = 0 then wgt q q0 gv la (k + 1) else 0) j = _
    by_cases e : j = k + 1
    · rw [e, pk_us]
    · rw [pk_un e]; exact wts_at k j h1 (by omega)
/-- how far the search for the last needed giver is -/
theorem ta_end {yk vk tk : Int32} {gv : Nat → Int32} {k k0 la t0 : Nat} (_ : yk = nI k) (htk : tk = nI k0) (hk5 : k0 ≤ 5) (ht5 : t0 ≤ 5) (_ : gvc gv la = k0) (hL2 : ∀ j : Nat, j < la → gvc gv j < k0) (hL3 : la ≤ t0) (hk2 : k ≤ la) (hvk : vk = nI (gvc gv k)) (c : tk ≤ vk) : k = la := by
  have h5 := gvc_le gv k
  rw [htk, hvk, nI_leI (by omega) (by omega)] at c
  rcases Nat.lt_or_ge k la with h | h
  · have := hL2 k h; omega
  · omega
theorem ta_lt {yk vk tk : Int32} {gv : Nat → Int32} {k k0 la t0 : Nat} (_ : yk = nI k) (htk : tk = nI k0) (hk5 : k0 ≤ 5) (ht5 : t0 ≤ 5) (hL1 : gvc gv la = k0) (_ : ∀ j : Nat, j < la → gvc gv j < k0) (hL3 : la ≤ t0) (hk2 : k ≤ la) (hvk : vk = nI (gvc gv k)) (c : ¬ tk ≤ vk) : k + 1 ≤ la := by
  have h5 := gvc_le gv k
  rw [htk, hvk, nI_leI (by omega) (by omega)] at c
  rcases Nat.lt_or_ge k la with h | h
  · exact h
  · rw [show k = la by omega] at c; omega
theorem ta_0 {gv : Nat → Int32} {y v : Int32} {k : Nat} (hy : y = nI (k + 1)) (hk : k < 100) (hv : v = nI (gvc gv k)) (c : gv y.toNatClampNeg = 0) : v + 0 = nI (gvc gv (k + 1)) := by
  rw [w8_gv (gv := gv) hy hk] at c
  show v + 0 = nI (if gv (k + 1) = 0 then gvc gv k else gvc gv k + 1)
  rw [if_pos c, Int32.add_zero, hv]
theorem ta_1 {gv : Nat → Int32} {y v : Int32} {k : Nat} (hy : y = nI (k + 1)) (hk : k < 100) (hv : v = nI (gvc gv k)) (c : ¬ gv y.toNatClampNeg = 0) : v + 1 = nI (gvc gv (k + 1)) := by
  rw [w8_gv (gv := gv) hy hk] at c
  show v + 1 = nI (if gv (k + 1) = 0 then gvc gv k else gvc gv k + 1)
  rw [if_neg c, hv]
  exact nI_1 _
theorem ja_le {y : Int32} {i la : Nat} (hy : y = nI (i + 1)) (h1 : i < 100) (h2 : la < 100) (c : ¬ nI la < y) : i + 1 ≤ la := by
  rw [hy, nI_ltI (by omega) (by omega)] at c; omega
theorem ja_end {y : Int32} {i la : Nat} (hy : y = nI (i + 1)) (h1 : i ≤ la) (h2 : la < 100) (c : nI la < y) : i = la := by
  rw [hy, nI_ltI (by omega) (by omega)] at c; omega
theorem ja_ne {gv : Nat → Int32} {y : Int32} {i : Nat} (hy : y = nI (i + 1)) (hk : i < 100) (c : ¬ gv y.toNatClampNeg = 0) : ¬ gv (i + 1) = 0 := by
  rw [w8_gv (gv := gv) hy hk] at c; exact c
theorem ja_gv {gv gvf : Nat → Int32} {gf : Nat → Nat → Int32} {ts y z : Int32} {i k t0 : Nat} (hz : z = nI k) (hy : y = nI (i + 1)) (hts : ts = nI t0) (ht5 : t0 ≤ 5) (hi : i + 1 ≤ t0) (hk : k < 40) (c : ¬ gv y.toNatClampNeg = 0) (h : gvf (40 * (i + 1) + k) = gf (i + 1) k) : gvf (40 * y + z).toNatClampNeg = gft gv gf ts (nI (i + 1)) (nI k) := by
  have e : (nI (i + 1)).toNatClampNeg = i + 1 := nI_clamp (by omega)
  rw [an_ix hy hz, nI_clamp (by omega), h, gft_n (k := k) ⟨gv_rng hts ht5 rfl hi, by rw [e]; exact ja_ne hy (by omega) c⟩ rfl hk, e]
theorem ja_0 {P q y s : Int32} {gv w gi : Nat → Int32} {q0 la t0 i : Nat} (hy : y = nI (i + 1)) (h1 : i < 100) (h2 : i + 1 ≤ t0) (c : gv y.toNatClampNeg = 0) (hs : s = jgf P (wts q q0 gv la w t0) gi i) : s = jgf P (wts q q0 gv la w t0) gi (i + 1) := by
  rw [w8_gv (gv := gv) hy h1] at c
  show s = if wts q q0 gv la w t0 (i + 1) = 0 then jgf P (wts q q0 gv la w t0) gi i else _
  have e : wts q q0 gv la w t0 (i + 1) = 0 := by
    rw [wts_at t0 (i + 1) (by omega) h2]
    exact if_neg (fun h => h.2 c)
  rw [if_pos e, hs]
theorem jgf_r {P : Int32} {p0 : Nat} (hP : P = nI p0) (hp : 2 ≤ p0 ∧ p0 < 1000000) {w gi : Nat → Int32} (hg : ∀ j : Nat, ¬ w j = 0 → ∃ b : Nat, gi j = nI b ∧ b < 1000000) : ∀ k : Nat, rng P (jgf P w gi k)
  | 0 => rng_1 hP hp.1 hp.2
  | k + 1 => by
    show rng P (if w (k + 1) = 0 then jgf P w gi k else tm P (jgf P w gi k) (pw P 32 (nt w (k + 1)) 1 (gi (k + 1))))
    by_cases c : w (k + 1) = 0
    · rw [if_pos c]; exact jgf_r hP hp hg k
    · rw [if_neg c]
      obtain ⟨b, h1, h2⟩ := hg _ c
      exact tm_r2 (jgf_r hP hp hg k) (pw_rng hP hp _ _ b h1 h2)
theorem jg_la {P q : Int32} {gv w gi : Nat → Int32} {q0 la t0 : Nat} (h : la ≤ t0) : jgf P (wts q q0 gv la w t0) gi la = jgf P (wts q q0 gv la w t0) gi t0 := by
  have key : ∀ d : Nat, la + d ≤ t0 → jgf P (wts q q0 gv la w t0) gi (la + d) = jgf P (wts q q0 gv la w t0) gi la := by
    intro d
    induction d with
    | zero => intro _; rfl
    | succ d ih =>
      intro hd
      show (if wts q q0 gv la w t0 (la + d + 1) = 0 then jgf P (wts q q0 gv la w t0) gi (la + d) else _) = _
      have e : wts q q0 gv la w t0 (la + d + 1) = 0 := by
        rw [wts_at t0 (la + d + 1) (by omega) (by omega)]
        exact if_neg (fun h => by omega)
      rw [if_pos e]
      exact ih (by omega)
  have := key (t0 - la) (by omega)
  rw [show la + (t0 - la) = t0 by omega] at this
  exact this.symm
theorem pw_0 {q b : Int32} : pw q 32 0 1 b = 1 := by rw [pw, if_pos rfl]
theorem tm_x1 {q x : Int32} (h : rng q x) : tm q x 1 = x := by
  obtain ⟨k, q0, h1, h2, h3, h4⟩ := h
  rw [show tm q x 1 = nI (k * 1 % q0) from tm_nI h2 h1 (b := 1) (b0 := 1) rfl (by omega) h4 (by omega) (by omega), Nat.mul_one, Nat.mod_eq_of_lt h3, h1]
theorem ct_none {ci : Nat → Nat} {w : Nat → Int32} {k c0 : Nat} {x : Int32} (h : x = cts ci w k c0) : x + (if ci k = c0 then 1 else 0) = cts ci w (k + 1) c0 := by
  show _ = upd (cts ci w k) (ci k) (cts ci w k (ci k) + 1) c0
  by_cases e : ci k = c0
  · rw [if_pos e, e, pk_us, h]
  · rw [if_neg e, pk_un (fun q => e q.symm), h, Int32.add_zero]
theorem ta_c0 {c c0 : Nat} (h : c ≤ c0) (hc1 : c0 ≤ 10) (e : nI c = nI c0) : c = c0 := (nI_eq (by omega) (by omega)).mp e
theorem ja_1 {P q s : Int32} {gv w gi : Nat → Int32} {q0 la t0 i : Nat} (hi : i + 1 ≤ la) (hL3 : la ≤ t0) (c : ¬ gv (i + 1) = 0) (hsr : rng P s) (hs : s = jgf P (wts q q0 gv la w t0) gi i) : tm P s (pw P 32 (wgt q q0 gv la (i + 1)).toNatClampNeg 1 (gi (i + 1))) = jgf P (wts q q0 gv la w t0) gi (i + 1) := by
  show _ = if wts q q0 gv la w t0 (i + 1) = 0 then jgf P (wts q q0 gv la w t0) gi i else tm P (jgf P (wts q q0 gv la w t0) gi i) (pw P 32 (wts q q0 gv la w t0 (i + 1)).toNatClampNeg 1 (gi (i + 1)))
  have e0 : wts q q0 gv la w t0 (i + 1) = wgt q q0 gv la (i + 1) := by
    rw [wts_at t0 (i + 1) (by omega) (by omega)]
    exact if_pos ⟨hi, c⟩
  rw [e0]
  by_cases e : wgt q q0 gv la (i + 1) = 0
  · rw [if_pos e, e, show (0 : Int32).toNatClampNeg = 0 from rfl, pw_0, tm_x1 hsr, hs]
  · rw [if_neg e, hs]
theorem ja_r {P s x : Int32} {p0 n : Nat} (hP : P = nI p0) (hp : 2 ≤ p0 ∧ p0 < 1000000) (hsr : rng P s) (hx : rng P x) : rng P (tm P s (pw P 32 n 1 x)) := by
  obtain ⟨b, p1, g1, g2, g3, g4⟩ := hx
  exact tm_r2 hsr (pw_rng hP hp n x b g1 (by omega))
theorem gft_r {P ts : Int32} {gv : Nat → Int32} {gf : Nat → Nat → Int32} {i k t0 : Nat} (hts : ts = nI t0) (ht5 : t0 ≤ 5) (hi : i + 1 ≤ t0) (hk : k < 40) (c : ¬ gv (i + 1) = 0) (h : rng P (gf (i + 1) k)) : rng P (gft gv gf ts (nI (i + 1)) (nI k)) := by
  have e : (nI (i + 1)).toNatClampNeg = i + 1 := nI_clamp (by omega)
  rw [gft_n (k := k) ⟨gv_rng hts ht5 rfl hi, by rw [e]; exact c⟩ rfl hk, e]
  exact h
set_option maxHeartbeats 4000000 in
set_option maxRecDepth 100000 in
theorem c_X8_weight (l : Launch) (D : va_G) (cA : Nat → ClassId) (h0 : Nat) (m0 : Int32) (m1 : Int32) (m2 : Int32) (m3 : Int32) (m4 : Int32) (m5 : Nat) (m6 : Int32) (m7 : Int32) (m8 : Int32) (m9 : Nat) (m10 : Nat) (m11 : Nat) (m12 : Int32) (m13 : Nat) (m14 : Nat) (m15 : Nat) (m16 : Nat) (m17 : Int32) (m18 : Nat) (m19 : Nat) (m20 : Nat) (m21 : Nat) (m22 : Nat) (m23 : Nat) (m24 : Nat) (m25 : Nat) (m26 : Int32) (m27 : Int32) (m28 : Int32) (m29 : Int32) (m30 : Int32) (m31 : Int32) (m32 : Nat) (m33 : Nat) (m34 : Nat) (m35 : Nat) (m36 : Int32) (m37 : Nat) (m38 : Int32) (m39 : Nat) (m40 : Nat) (m41 : Nat) (m42 : Nat) (m43 : Nat) (j : Int32) (x : Int32) (j0 : Nat) (la : Nat) (q0 : Nat) (gvn : Nat → Int32) (hj : j = nI j0) (hj5 : j0 ≤ 5 ∧ j0 < q0) (hla : x = nI la) (hla5 : la ≤ 5 ∧ la < q0) (hgq : m1 = nI q0) (hq1 : 5 ≤ q0 ∧ q0 < 1000000) : Met l yX8_weight wsX8_weight ({ frames := 0, cells := 0, slots := 0, locals := 0 }) (rPc vwCl D cA [(h0, .inr (7, [.int m0, .int m1, .int m2, .int m3, .int m4, .ref m5, .int m6, .int m7, .int m8, .ref m9, .ref m10, .ref m11, .int m12, .ref m13, .ref m14, .ref m15, .ref m16, .int m17, .ref m18, .ref m19, .ref m20, .ref m21, .ref m22, .ref m23, .ref m24, .ref m25, .int m26, .int m27, .int m28, .int m29, .int m30, .int m31, .ref m32, .ref m33, .ref m34, .ref m35, .int m36, .ref m37, .int m38, .ref m39, .ref m40, .ref m41, .ref m42, .ref m43])), (m34, .inl (cA 1, 6, .inl gvn))] [.ref h0, .int j, .int x]) (rq_x (some (.int (wgt m1 q0 gvn la j0)))) 0 0 (fun _ => False) := by
  refine Met.ofW (cc := cX8_weight) (maxL := 12) (ret := (some .int)) (by decide) rfl ?_
  intro p e s m args below meth c s₁ B hml hv
  obtain ⟨rfl, hP, hK⟩ := hv
  have hx := B.exec
  have hb := B.bytes
  have hr := B.returns
  have hts := atoms_spec (ws := wsX8_weight) B.pre
  have hown : s.vm.findClass RX8 = some m.cls := findClass_of_methodNamed B.named
  have hlocks := B.notSynchronized
  have hin_X8 : ∀ w ∈ wsX80, w ∈ wsX8_weight := fun w h => List.mem_cons_of_mem _ (List.mem_append_right _ h)
  have w_RX8_103 := hts (.fieldLink RX8 103 "MixElectionModel" "q" "I") (by decide +kernel)
  have w_RX8_65 := hts (.fieldLink RX8 65 "MixElectionModel" "hasGiven" "[Z") (by decide +kernel)
  have hl := lv_entry ([.ref h0, .int j, .int x]) (n := 12) (Nat.le_of_ble_eq_true rfl)
  rw [lg_entry_eq]
  generalize (lg_sl ([.ref h0, .int j, .int x]) ++ List.replicate (12 - (lg_sl ([.ref h0, .int j, .int x])).length) Slot.unset).toArray = ls at hl ⊢
  have hl : lv_has ls 12 [(0, .ref h0), (1, .int j), (2, .int x)] := hl
  refine lv_lconst (v := 1) hx hb dX8_weight_0 (by decide) ?_
  refine lv_lstore_n (lv' := [(3, .long 1), (0, .ref h0), (1, .int j), (2, .int x)]) hx hb dX8_weight_1 rfl hl (by decide) rfl (fun ls hl => ?_)
  refine lv_lconst (v := 1) hx hb dX8_weight_2 (by decide) ?_
  refine lv_lstore (lv' := [(5, .long 1), (3, .long 1), (0, .ref h0), (1, .int j), (2, .int x)]) hx hb dX8_weight_3 hl (by decide) rfl (fun ls hl => ?_)
  refine lv_iconst (v := 1) hx hb dX8_weight_5 (by decide) ?_
  refine lv_istore (lv' := [(7, .int 1), (5, .long 1), (3, .long 1), (0, .ref h0), (1, .int j), (2, .int x)]) hx hb dX8_weight_6 hl (by decide) rfl (fun ls hl => ?_)
  have loop8 : ∀ (f_ k : Nat) (z : Int32) (d1 d2 : Int64), z = nI (k + 1) → la + 1 ≤ k + f_ → k ≤ la → d1 = (wup m1 gvn j0 k).toInt64 → d2 = (wdn m1 gvn j0 k).toInt64 → ∀ ls : Array Slot, lv_has ls 12 [(0, .ref h0), (1, .int j), (2, .int x), (3, .long d1), (5, .long d2), (7, .int z)] → W p l e (headSpec wsX8_weight ({ frames := 0, cells := 0, slots := 0, locals := 0 })).room s m [.ref h0, .int j, .int x].toArray below meth c s.heap [] 0 0 (MQ below (rq_x (some (.int (wgt m1 q0 gvn la j0)))) [.ref h0, .int j, .int x].toArray s 0 0 (fun _ => False)) (F0 m 8 ls []) := by
    intro f2
    induction f2 with
    | zero =>
      intro k z d1 d2 hz h1 h2
      omega
    | succ f2 ih2 =>
      intro k z d1 d2 hz h1 h2 hd1 hd2 ls hl
      refine lv_iload hx hb dX8_weight_8 (lv_at hl 5 rfl) ?_
      refine lv_iload_n hx hb dX8_weight_10 rfl (lv_at hl 2 rfl) ?_
      refine lv_icmp_gt (tgt := 79) hx hb dX8_weight_11 (by decide) (fun c_11 => ?_) (fun c_11 => ?_)
      · skip
        have hke : la = k := by have := lq_end hz hla (by omega) (by omega) c_11; omega
        subst hke
        subst hd1
        subst hd2
        refine lv_lconst (v := 1) hx hb dX8_weight_79 (by decide) ?_
        refine lv_lstore (lv' := [(7, .long 1), (0, .ref h0), (1, .int j), (2, .int x), (3, .long ((wup m1 gvn j0 la).toInt64)), (5, .long ((wdn m1 gvn j0 la).toInt64))]) hx hb dX8_weight_80 hl (by decide) rfl (fun ls hl => ?_)
        refine lv_lload hx hb dX8_weight_82 (lv_at hl 5 rfl) ?_
        refine lv_lstore (lv' := [(9, .long ((wdn m1 gvn j0 la).toInt64)), (7, .long 1), (0, .ref h0), (1, .int j), (2, .int x), (3, .long ((wup m1 gvn j0 la).toInt64)), (5, .long ((wdn m1 gvn j0 la).toInt64))]) hx hb dX8_weight_84 hl (by decide) rfl (fun ls hl => ?_)
        refine lv_aload_n hx hb dX8_weight_86 rfl (lv_at hl 2 rfl) ?_
        refine va_get (D := D) (ci := 7) (v := .int m1) (C := RX8) (T := TX8) (N := 44) hx hb hts hin_X8 hown hK hP 0 rfl rfl 1 (by decide) (w_RX8_103) (fun _ h9 => h9) rfl dX8_weight_87 ?_
        refine lv_iconst (v := 2) hx hb dX8_weight_90 (by decide) ?_
        refine lv_isub hx hb dX8_weight_91 ?_
        refine lv_istore (lv' := [(11, .int (m1 - 2)), (9, .long ((wdn m1 gvn j0 la).toInt64)), (7, .long 1), (0, .ref h0), (1, .int j), (2, .int x), (3, .long ((wup m1 gvn j0 la).toInt64)), (5, .long ((wdn m1 gvn j0 la).toInt64))]) hx hb dX8_weight_92 hl (by decide) rfl (fun ls hl => ?_)
        have loop94 : ∀ (f n : Nat) (z r b : Int32) (dr db : Int64), z = nI n → 0 < f → n < 2 ^ (f - 1) → n < 2 ^ 31 → pw m1 f n r b = pw m1 32 (q0 - 2) 1 (wdn m1 gvn j0 la) → dr = r.toInt64 → db = b.toInt64 → rng m1 r → rng m1 b → ∀ ls : Array Slot, lv_has ls 12 [(0, .ref h0), (3, .long ((wup m1 gvn j0 la).toInt64)), (7, .long dr), (9, .long db), (11, .int z)] → W p l e (headSpec wsX8_weight ({ frames := 0, cells := 0, slots := 0, locals := 0 })).room s m [.ref h0, .int j, .int x].toArray below meth c s.heap [] 0 0 (MQ below (rq_x (some (.int (wgt m1 q0 gvn la j0)))) [.ref h0, .int j, .int x].toArray s 0 0 (fun _ => False)) (F0 m 94 ls []) := by
          intro f
          induction f with
          | zero =>
            intro n z r b dr db hz h1
            omega
          | succ f ih =>
            intro n z r b dr db hz h1 g2 g3 hw hdr hdb hr1 hb1 ls hl
            refine lv_iload hx hb dX8_weight_94 (lv_at hl 4 rfl) ?_
            refine lv_if_le (tgt := 142) hx hb dX8_weight_96 (by decide) (fun c_96 => ?_) (fun c_96 => ?_)
            · skip
              refine lv_lload_n hx hb dX8_weight_142 rfl (lv_at hl 1 rfl) ?_
              refine lv_lload hx hb dX8_weight_143 (lv_at hl 2 rfl) ?_
              refine lv_lmul hx hb dX8_weight_145 ?_
              refine lv_aload_n hx hb dX8_weight_146 rfl (lv_at hl 0 rfl) ?_
              refine va_get (D := D) (ci := 7) (v := .int m1) (C := RX8) (T := TX8) (N := 44) hx hb hts hin_X8 hown hK hP 0 rfl rfl 1 (by decide) (w_RX8_103) (fun _ h9 => h9) rfl dX8_weight_147 ?_
              refine lv_i2l hx hb dX8_weight_150 rfl ?_
              refine lv_lrem hx hb dX8_weight_151 (tm_ne (iv_p hgq (by omega) hq1.2)) ?_
              refine lv_l2i hx hb dX8_weight_152 rfl ?_
              exact W.iret (v := ((((wup m1 gvn j0 la).toInt64) * dr) - (((wup m1 gvn j0 la).toInt64) * dr) / m1.toInt64 * m1.toInt64).toInt32) hx hb hr (fun t ht hW => ⟨congrArg (fun z => Outcome.returned (some (Value.int z))) ((by rw [hdr, pw_end hz g3 c_96 hw]; rfl)), ht⟩) (fun _ h => by cases h) dX8_weight_153
            · skip
              refine lv_iload hx hb dX8_weight_99 (lv_at hl 4 rfl) ?_
              refine lv_iconst (v := 2) hx hb dX8_weight_101 (by decide) ?_
              refine lv_irem hx hb dX8_weight_102 (by decide) ?_
              refine lv_iconst (v := 1) hx hb dX8_weight_103 (by decide) ?_
              refine lv_icmp_ne (tgt := 120) hx hb dX8_weight_104 (by decide) (fun c_104 => ?_) (fun c_104 => ?_)
              · skip
                refine lv_lload hx hb dX8_weight_120 (lv_at hl 3 rfl) ?_
                refine lv_lload hx hb dX8_weight_122 (lv_at hl 3 rfl) ?_
                refine lv_lmul hx hb dX8_weight_124 ?_
                refine lv_aload_n hx hb dX8_weight_125 rfl (lv_at hl 0 rfl) ?_
                refine va_get (D := D) (ci := 7) (v := .int m1) (C := RX8) (T := TX8) (N := 44) hx hb hts hin_X8 hown hK hP 0 rfl rfl 1 (by decide) (w_RX8_103) (fun _ h9 => h9) rfl dX8_weight_126 ?_
                refine lv_i2l hx hb dX8_weight_129 rfl ?_
                refine lv_lrem hx hb dX8_weight_130 (tm_ne (iv_p hgq (by omega) hq1.2)) ?_
                refine lv_topl (fun w8 e8 => ?_)
                have e9 : w8 = ((tm m1 b b).toInt64) := (by rw [e8, hdb]; exact tm64 hb1 hb1)
                clear e8
                subst e9
                refine lv_lstore (lv' := [(9, .long ((tm m1 b b).toInt64)), (0, .ref h0), (3, .long ((wup m1 gvn j0 la).toInt64)), (7, .long dr), (11, .int z)]) hx hb dX8_weight_131 hl (by decide) rfl (fun ls hl => ?_)
                refine lv_iload hx hb dX8_weight_133 (lv_at hl 4 rfl) ?_
                refine lv_iconst (v := 2) hx hb dX8_weight_135 (by decide) ?_
                refine lv_idiv hx hb dX8_weight_136 (by decide) ?_
                refine lv_istore (lv' := [(11, .int (z / 2)), (9, .long ((tm m1 b b).toInt64)), (0, .ref h0), (3, .long ((wup m1 gvn j0 la).toInt64)), (7, .long dr)]) hx hb dX8_weight_137 hl (by decide) rfl (fun ls hl => ?_)
                refine lv_goto (tgt := 94) hx hb dX8_weight_139 (by decide) ?_
                obtain ⟨e1, e2, e3, e4⟩ := pw8_even hz g2 g3 c_96 c_104 hw
                exact ih (n / 2) _ _ _ _ _ e1 e2 e3 (by omega) e4 hdr rfl hr1 (tm_r2 hb1 hb1) ls (lv_sub hl [2, 3, 4, 1, 0] rfl)
              · skip
                refine lv_lload hx hb dX8_weight_107 (lv_at hl 2 rfl) ?_
                refine lv_lload hx hb dX8_weight_109 (lv_at hl 3 rfl) ?_
                refine lv_lmul hx hb dX8_weight_111 ?_
                refine lv_aload_n hx hb dX8_weight_112 rfl (lv_at hl 0 rfl) ?_
                refine va_get (D := D) (ci := 7) (v := .int m1) (C := RX8) (T := TX8) (N := 44) hx hb hts hin_X8 hown hK hP 0 rfl rfl 1 (by decide) (w_RX8_103) (fun _ h9 => h9) rfl dX8_weight_113 ?_
                refine lv_i2l hx hb dX8_weight_116 rfl ?_
                refine lv_lrem hx hb dX8_weight_117 (tm_ne (iv_p hgq (by omega) hq1.2)) ?_
                refine lv_topl (fun w8 e8 => ?_)
                have e9 : w8 = ((tm m1 r b).toInt64) := (by rw [e8, hdr, hdb]; exact tm64 hr1 hb1)
                clear e8
                subst e9
                refine lv_lstore (lv' := [(7, .long ((tm m1 r b).toInt64)), (0, .ref h0), (3, .long ((wup m1 gvn j0 la).toInt64)), (9, .long db), (11, .int z)]) hx hb dX8_weight_118 hl (by decide) rfl (fun ls hl => ?_)
                refine lv_lload hx hb dX8_weight_120 (lv_at hl 3 rfl) ?_
                refine lv_lload hx hb dX8_weight_122 (lv_at hl 3 rfl) ?_
                refine lv_lmul hx hb dX8_weight_124 ?_
                refine lv_aload_n hx hb dX8_weight_125 rfl (lv_at hl 1 rfl) ?_
                refine va_get (D := D) (ci := 7) (v := .int m1) (C := RX8) (T := TX8) (N := 44) hx hb hts hin_X8 hown hK hP 0 rfl rfl 1 (by decide) (w_RX8_103) (fun _ h9 => h9) rfl dX8_weight_126 ?_
                refine lv_i2l hx hb dX8_weight_129 rfl ?_
                refine lv_lrem hx hb dX8_weight_130 (tm_ne (iv_p hgq (by omega) hq1.2)) ?_
                refine lv_topl (fun w8 e8 => ?_)
                have e9 : w8 = ((tm m1 b b).toInt64) := (by rw [e8, hdb]; exact tm64 hb1 hb1)
                clear e8
                subst e9
                refine lv_lstore (lv' := [(9, .long ((tm m1 b b).toInt64)), (7, .long ((tm m1 r b).toInt64)), (0, .ref h0), (3, .long ((wup m1 gvn j0 la).toInt64)), (11, .int z)]) hx hb dX8_weight_131 hl (by decide) rfl (fun ls hl => ?_)
                refine lv_iload hx hb dX8_weight_133 (lv_at hl 4 rfl) ?_
                refine lv_iconst (v := 2) hx hb dX8_weight_135 (by decide) ?_
                refine lv_idiv hx hb dX8_weight_136 (by decide) ?_
                refine lv_istore (lv' := [(11, .int (z / 2)), (9, .long ((tm m1 b b).toInt64)), (7, .long ((tm m1 r b).toInt64)), (0, .ref h0), (3, .long ((wup m1 gvn j0 la).toInt64))]) hx hb dX8_weight_137 hl (by decide) rfl (fun ls hl => ?_)
                refine lv_goto (tgt := 94) hx hb dX8_weight_139 (by decide) ?_
                obtain ⟨e1, e2, e3, e4⟩ := pw8_odd hz g2 g3 c_96 c_104 hw
                exact ih (n / 2) _ _ _ _ _ e1 e2 e3 (by omega) e4 rfl rfl (tm_r2 hr1 hb1) (tm_r2 hb1 hb1) ls (lv_sub hl [3, 4, 2, 1, 0] rfl)
        exact loop94 32 (q0 - 2) _ 1 (wdn m1 gvn j0 la) _ _ (iv_2 hgq (by omega)) (by omega) (show q0 - 2 < 2 ^ 31 by omega) (show q0 - 2 < 2 ^ 31 by omega) rfl rfl rfl (rng_1 hgq (by omega) hq1.2) (wdn_r hgq hq1 hj5 la (by omega)) ls (lv_sub hl [3, 6, 2, 1, 0] rfl)
      · skip
        refine lv_aload_n hx hb dX8_weight_14 rfl (lv_at hl 0 rfl) ?_
        refine va_get (D := D) (ci := 7) (v := .ref m34) (C := RX8) (T := TX8) (N := 44) hx hb hts hin_X8 hown hK hP 0 rfl rfl 34 (by decide) (w_RX8_65) (fun _ h9 => h9) rfl dX8_weight_15 ?_
        refine lv_iload hx hb dX8_weight_18 (lv_at hl 5 rfl) ?_
        refine va_zald hx hb hK hP 1 1 rfl rfl (by rw [hz]; exact vp_in_nI (by have := (lq_le hz hla (by omega) (by omega) c_11); omega) (by omega)) dX8_weight_20 ?_
        refine lv_if_eq (tgt := 73) hx hb dX8_weight_21 (by decide) (fun c_21 => ?_) (fun c_21 => ?_)
        · skip
          refine lv_iinc (v := (z + 1)) (lv' := [(7, .int (z + 1)), (0, .ref h0), (1, .int j), (2, .int x), (3, .long d1), (5, .long d2)]) hx hb dX8_weight_73 hl (k := 5) rfl rfl (by decide) rfl (fun ls hl => ?_)
          refine lv_goto (tgt := 8) hx hb dX8_weight_76 (by decide) ?_
          have hk := (lq_le hz hla (by omega) (by omega) c_11)
          have h5 := w8_no hz (by omega) c_21 hd1 hd2
          exact ih2 (k + 1) (z + 1) _ _ (st_1 hz) (by omega) (by omega) h5.1 h5.2 ls (lv_sub hl [1, 2, 3, 4, 5, 0] rfl)
        · skip
          refine lv_iload hx hb dX8_weight_24 (lv_at hl 5 rfl) ?_
          refine lv_iload_n hx hb dX8_weight_26 rfl (lv_at hl 1 rfl) ?_
          refine lv_icmp_eq (tgt := 73) hx hb dX8_weight_27 (by decide) (fun c_27 => ?_) (fun c_27 => ?_)
          · skip
            refine lv_iinc (v := (z + 1)) (lv' := [(7, .int (z + 1)), (0, .ref h0), (1, .int j), (2, .int x), (3, .long d1), (5, .long d2)]) hx hb dX8_weight_73 hl (k := 5) rfl rfl (by decide) rfl (fun ls hl => ?_)
            refine lv_goto (tgt := 8) hx hb dX8_weight_76 (by decide) ?_
            have hk := (lq_le hz hla (by omega) (by omega) c_11)
            have h5 := w8_eq hz hj (by omega) (by omega) c_27 hd1 hd2
            exact ih2 (k + 1) (z + 1) _ _ (st_1 hz) (by omega) (by omega) h5.1 h5.2 ls (lv_sub hl [1, 2, 3, 4, 5, 0] rfl)
          · skip
            refine lv_lload_n hx hb dX8_weight_30 rfl (lv_at hl 3 rfl) ?_
            refine lv_iload hx hb dX8_weight_31 (lv_at hl 5 rfl) ?_
            refine lv_i2l hx hb dX8_weight_33 rfl ?_
            refine lv_lmul hx hb dX8_weight_34 ?_
            refine lv_aload_n hx hb dX8_weight_35 rfl (lv_at hl 0 rfl) ?_
            refine va_get (D := D) (ci := 7) (v := .int m1) (C := RX8) (T := TX8) (N := 44) hx hb hts hin_X8 hown hK hP 0 rfl rfl 1 (by decide) (w_RX8_103) (fun _ h9 => h9) rfl dX8_weight_36 ?_
            refine lv_i2l hx hb dX8_weight_39 rfl ?_
            refine lv_lrem hx hb dX8_weight_40 (tm_ne (iv_p hgq (by omega) hq1.2)) ?_
            refine lv_topl (fun w8 e8 => ?_)
            have e9 : w8 = ((wup m1 gvn j0 (k + 1)).toInt64) := (by rw [e8, hd1]; exact w8_up hgq hq1 hz (by have := (lq_le hz hla (by omega) (by omega) c_11); omega) hj (by omega) c_21 c_27)
            clear e8
            subst e9
            refine lv_lstore_n (lv' := [(3, .long ((wup m1 gvn j0 (k + 1)).toInt64)), (0, .ref h0), (1, .int j), (2, .int x), (5, .long d2), (7, .int z)]) hx hb dX8_weight_41 rfl hl (by decide) rfl (fun ls hl => ?_)
            refine lv_lload hx hb dX8_weight_42 (lv_at hl 4 rfl) ?_
            refine lv_iload hx hb dX8_weight_44 (lv_at hl 5 rfl) ?_
            refine lv_iload_n hx hb dX8_weight_46 rfl (lv_at hl 2 rfl) ?_
            refine lv_isub hx hb dX8_weight_47 ?_
            refine lv_aload_n hx hb dX8_weight_48 rfl (lv_at hl 1 rfl) ?_
            refine va_get (D := D) (ci := 7) (v := .int m1) (C := RX8) (T := TX8) (N := 44) hx hb hts hin_X8 hown hK hP 0 rfl rfl 1 (by decide) (w_RX8_103) (fun _ h9 => h9) rfl dX8_weight_49 ?_
            refine lv_irem hx hb dX8_weight_52 (nI_ne0z hgq (by omega) (by omega)) ?_
            refine lv_aload_n hx hb dX8_weight_53 rfl (lv_at hl 1 rfl) ?_
            refine va_get (D := D) (ci := 7) (v := .int m1) (C := RX8) (T := TX8) (N := 44) hx hb hts hin_X8 hown hK hP 0 rfl rfl 1 (by decide) (w_RX8_103) (fun _ h9 => h9) rfl dX8_weight_54 ?_
            refine lv_iadd hx hb dX8_weight_57 ?_
            refine lv_aload_n hx hb dX8_weight_58 rfl (lv_at hl 1 rfl) ?_
            refine va_get (D := D) (ci := 7) (v := .int m1) (C := RX8) (T := TX8) (N := 44) hx hb hts hin_X8 hown hK hP 0 rfl rfl 1 (by decide) (w_RX8_103) (fun _ h9 => h9) rfl dX8_weight_59 ?_
            refine lv_irem hx hb dX8_weight_62 (nI_ne0z hgq (by omega) (by omega)) ?_
            refine lv_i2l hx hb dX8_weight_63 rfl ?_
            refine lv_lmul hx hb dX8_weight_64 ?_
            refine lv_aload_n hx hb dX8_weight_65 rfl (lv_at hl 1 rfl) ?_
            refine va_get (D := D) (ci := 7) (v := .int m1) (C := RX8) (T := TX8) (N := 44) hx hb hts hin_X8 hown hK hP 0 rfl rfl 1 (by decide) (w_RX8_103) (fun _ h9 => h9) rfl dX8_weight_66 ?_
            refine lv_i2l hx hb dX8_weight_69 rfl ?_
            refine lv_lrem hx hb dX8_weight_70 (tm_ne (iv_p hgq (by omega) hq1.2)) ?_
            refine lv_topl (fun w8 e8 => ?_)
            have e9 : w8 = ((wdn m1 gvn j0 (k + 1)).toInt64) := (by rw [e8, hd2]; exact w8_dn hgq hq1 hz (by have := (lq_le hz hla (by omega) (by omega) c_11); omega) (by have := (lq_le hz hla (by omega) (by omega) c_11); omega) hj hj5 c_21 c_27)
            clear e8
            subst e9
            refine lv_lstore (lv' := [(5, .long ((wdn m1 gvn j0 (k + 1)).toInt64)), (3, .long ((wup m1 gvn j0 (k + 1)).toInt64)), (0, .ref h0), (1, .int j), (2, .int x), (7, .int z)]) hx hb dX8_weight_71 hl (by decide) rfl (fun ls hl => ?_)
            refine lv_iinc (v := (z + 1)) (lv' := [(7, .int (z + 1)), (5, .long ((wdn m1 gvn j0 (k + 1)).toInt64)), (3, .long ((wup m1 gvn j0 (k + 1)).toInt64)), (0, .ref h0), (1, .int j), (2, .int x)]) hx hb dX8_weight_73 hl (k := 5) rfl rfl (by decide) rfl (fun ls hl => ?_)
            refine lv_goto (tgt := 8) hx hb dX8_weight_76 (by decide) ?_
            have hk := (lq_le hz hla (by omega) (by omega) c_11)
            skip
            exact ih2 (k + 1) (z + 1) _ _ (st_1 hz) (by omega) (by omega) rfl rfl ls (lv_sub hl [3, 4, 5, 2, 1, 0] rfl)
  exact loop8 (la + 1) 0 1 1 1 rfl (by omega) (by omega) rfl rfl ls (lv_sub hl [3, 4, 5, 2, 1, 0] rfl)

set_option maxHeartbeats 4000000 in
set_option maxRecDepth 100000 in
theorem c_X8_tally_no (l : Launch) (D : va_G) (cA : Nat → ClassId) (h0 : Nat) (m0 : Int32) (m1 : Int32) (m2 : Int32) (m3 : Int32) (m4 : Int32) (m5 : Nat) (m6 : Int32) (m7 : Int32) (m8 : Int32) (m9 : Nat) (m10 : Nat) (m11 : Nat) (m12 : Int32) (m13 : Nat) (m14 : Nat) (m15 : Nat) (m16 : Nat) (m17 : Int32) (m18 : Nat) (m19 : Nat) (m20 : Nat) (m21 : Nat) (m22 : Nat) (m23 : Nat) (m24 : Nat) (m25 : Nat) (m26 : Int32) (m27 : Int32) (m28 : Int32) (m29 : Int32) (m30 : Int32) (m31 : Int32) (m32 : Nat) (m33 : Nat) (m34 : Nat) (m35 : Nat) (m36 : Int32) (m37 : Nat) (m38 : Int32) (m39 : Nat) (m40 : Nat) (m41 : Nat) (m42 : Nat) (m43 : Nat) (hno : ¬ (m6 = 2 ∧ ¬ 0 < m29 ∧ ¬ m26 = 0 ∧ ¬ m27 = 0 ∧ ¬ 0 < m30 ∧ m4 ≤ m36)) : Met l yX8_tally wsX8_tally ({ frames := 0, cells := 0, slots := 0, locals := 0 }) (rPc vwCl D cA [(h0, .inr (7, [.int m0, .int m1, .int m2, .int m3, .int m4, .ref m5, .int m6, .int m7, .int m8, .ref m9, .ref m10, .ref m11, .int m12, .ref m13, .ref m14, .ref m15, .ref m16, .int m17, .ref m18, .ref m19, .ref m20, .ref m21, .ref m22, .ref m23, .ref m24, .ref m25, .int m26, .int m27, .int m28, .int m29, .int m30, .int m31, .ref m32, .ref m33, .ref m34, .ref m35, .int m36, .ref m37, .int m38, .ref m39, .ref m40, .ref m41, .ref m42, .ref m43]))] [.ref h0]) (rq_x (some (.int (-1)))) 0 0 (fun _ => False) := by
  refine Met.ofW (cc := cX8_tally) (maxL := 8) (ret := (some .int)) (by decide) rfl ?_
  intro p e s m args below meth c s₁ B hml hv
  obtain ⟨rfl, hP, hK⟩ := hv
  have hx := B.exec
  have hb := B.bytes
  have hr := B.returns
  have hts := atoms_spec (ws := wsX8_tally) B.pre
  have hown : s.vm.findClass RX8 = some m.cls := findClass_of_methodNamed B.named
  have hlocks := B.notSynchronized
  have hin_X8 : ∀ w ∈ wsX80, w ∈ wsX8_tally := fun w h => List.mem_cons_of_mem _ (List.mem_append_right _ h)
  have w_RX8_140 := hts (.fieldLink RX8 140 "MixElectionModel" "stage" "I") (by decide +kernel)
  have w_RX8_212 := hts (.fieldLink RX8 212 "MixElectionModel" "rejected" "I") (by decide +kernel)
  have w_RX8_191 := hts (.fieldLink RX8 191 "MixElectionModel" "mixes" "I") (by decide +kernel)
  have w_RX8_203 := hts (.fieldLink RX8 203 "MixElectionModel" "rounds" "I") (by decide +kernel)
  have w_RX8_200 := hts (.fieldLink RX8 200 "MixElectionModel" "unproved" "I") (by decide +kernel)
  have w_RX8_185 := hts (.fieldLink RX8 185 "MixElectionModel" "shares" "I") (by decide +kernel)
  have w_RX8_112 := hts (.fieldLink RX8 112 "MixElectionModel" "threshold" "I") (by decide +kernel)
  have hl := lv_entry ([.ref h0]) (n := 8) (Nat.le_of_ble_eq_true rfl)
  rw [lg_entry_eq]
  generalize (lg_sl ([.ref h0]) ++ List.replicate (8 - (lg_sl ([.ref h0])).length) Slot.unset).toArray = ls at hl ⊢
  have hl : lv_has ls 8 [(0, .ref h0)] := hl
  refine lv_aload_n hx hb dX8_tally_0 rfl (lv_at hl 0 rfl) ?_
  refine va_get (D := D) (ci := 7) (v := .int m6) (C := RX8) (T := TX8) (N := 44) hx hb hts hin_X8 hown hK hP 0 rfl rfl 6 (by decide) (w_RX8_140) (fun _ h9 => h9) rfl dX8_tally_1 ?_
  refine lv_iconst (v := 2) hx hb dX8_tally_4 (by decide) ?_
  refine lv_icmp_ne (tgt := 47) hx hb dX8_tally_5 (by decide) (fun c_5 => ?_) (fun c_5 => ?_)
  · skip
    refine lv_iconst (v := (-1)) hx hb dX8_tally_47 (by decide) ?_
    exact W.iret (v := (-1)) hx hb hr (fun t ht hW => ⟨congrArg (fun z => Outcome.returned (some (Value.int z))) (rfl), ht⟩) (fun _ h => by cases h) dX8_tally_48
  · skip
    refine lv_aload_n hx hb dX8_tally_8 rfl (lv_at hl 0 rfl) ?_
    refine va_get (D := D) (ci := 7) (v := .int m29) (C := RX8) (T := TX8) (N := 44) hx hb hts hin_X8 hown hK hP 0 rfl rfl 29 (by decide) (w_RX8_212) (fun _ h9 => h9) rfl dX8_tally_9 ?_
    refine lv_if_gt (tgt := 47) hx hb dX8_tally_12 (by decide) (fun c_12 => ?_) (fun c_12 => ?_)
    · skip
      refine lv_iconst (v := (-1)) hx hb dX8_tally_47 (by decide) ?_
      exact W.iret (v := (-1)) hx hb hr (fun t ht hW => ⟨congrArg (fun z => Outcome.returned (some (Value.int z))) (rfl), ht⟩) (fun _ h => by cases h) dX8_tally_48
    · skip
      refine lv_aload_n hx hb dX8_tally_15 rfl (lv_at hl 0 rfl) ?_
      refine va_get (D := D) (ci := 7) (v := .int m26) (C := RX8) (T := TX8) (N := 44) hx hb hts hin_X8 hown hK hP 0 rfl rfl 26 (by decide) (w_RX8_191) (fun _ h9 => h9) rfl dX8_tally_16 ?_
      refine lv_if_eq (tgt := 47) hx hb dX8_tally_19 (by decide) (fun c_19 => ?_) (fun c_19 => ?_)
      · skip
        refine lv_iconst (v := (-1)) hx hb dX8_tally_47 (by decide) ?_
        exact W.iret (v := (-1)) hx hb hr (fun t ht hW => ⟨congrArg (fun z => Outcome.returned (some (Value.int z))) (rfl), ht⟩) (fun _ h => by cases h) dX8_tally_48
      · skip
        refine lv_aload_n hx hb dX8_tally_22 rfl (lv_at hl 0 rfl) ?_
        refine va_get (D := D) (ci := 7) (v := .int m27) (C := RX8) (T := TX8) (N := 44) hx hb hts hin_X8 hown hK hP 0 rfl rfl 27 (by decide) (w_RX8_203) (fun _ h9 => h9) rfl dX8_tally_23 ?_
        refine lv_if_eq (tgt := 47) hx hb dX8_tally_26 (by decide) (fun c_26 => ?_) (fun c_26 => ?_)
        · skip
          refine lv_iconst (v := (-1)) hx hb dX8_tally_47 (by decide) ?_
          exact W.iret (v := (-1)) hx hb hr (fun t ht hW => ⟨congrArg (fun z => Outcome.returned (some (Value.int z))) (rfl), ht⟩) (fun _ h => by cases h) dX8_tally_48
        · skip
          refine lv_aload_n hx hb dX8_tally_29 rfl (lv_at hl 0 rfl) ?_
          refine va_get (D := D) (ci := 7) (v := .int m30) (C := RX8) (T := TX8) (N := 44) hx hb hts hin_X8 hown hK hP 0 rfl rfl 30 (by decide) (w_RX8_200) (fun _ h9 => h9) rfl dX8_tally_30 ?_
          refine lv_if_gt (tgt := 47) hx hb dX8_tally_33 (by decide) (fun c_33 => ?_) (fun c_33 => ?_)
          · skip
            refine lv_iconst (v := (-1)) hx hb dX8_tally_47 (by decide) ?_
            exact W.iret (v := (-1)) hx hb hr (fun t ht hW => ⟨congrArg (fun z => Outcome.returned (some (Value.int z))) (rfl), ht⟩) (fun _ h => by cases h) dX8_tally_48
          · skip
            refine lv_aload_n hx hb dX8_tally_36 rfl (lv_at hl 0 rfl) ?_
            refine va_get (D := D) (ci := 7) (v := .int m36) (C := RX8) (T := TX8) (N := 44) hx hb hts hin_X8 hown hK hP 0 rfl rfl 36 (by decide) (w_RX8_185) (fun _ h9 => h9) rfl dX8_tally_37 ?_
            refine lv_aload_n hx hb dX8_tally_40 rfl (lv_at hl 0 rfl) ?_
            refine va_get (D := D) (ci := 7) (v := .int m4) (C := RX8) (T := TX8) (N := 44) hx hb hts hin_X8 hown hK hP 0 rfl rfl 4 (by decide) (w_RX8_112) (fun _ h9 => h9) rfl dX8_tally_41 ?_
            refine lv_icmp_ge (tgt := 49) hx hb dX8_tally_44 (by decide) (fun c_44 => ?_) (fun c_44 => ?_)
            · skip
              exact absurd ⟨c_5, c_12, c_19, c_26, c_33, c_44⟩ hno
            · skip
              refine lv_iconst (v := (-1)) hx hb dX8_tally_47 (by decide) ?_
              exact W.iret (v := (-1)) hx hb hr (fun t ht hW => ⟨congrArg (fun z => Outcome.returned (some (Value.int z))) (rfl), ht⟩) (fun _ h => by cases h) dX8_tally_48

set_option maxHeartbeats 4000000 in
set_option maxRecDepth 100000 in
theorem c_X8_tally_ok (l : Launch) (D : va_G) (cA : Nat → ClassId) (h0 : Nat) (m0 : Int32) (m1 : Int32) (m2 : Int32) (m3 : Int32) (m4 : Int32) (m5 : Nat) (m6 : Int32) (m7 : Int32) (m8 : Int32) (m9 : Nat) (m10 : Nat) (m11 : Nat) (m12 : Int32) (m13 : Nat) (m14 : Nat) (m15 : Nat) (m16 : Nat) (m17 : Int32) (m18 : Nat) (m19 : Nat) (m20 : Nat) (m21 : Nat) (m22 : Nat) (m23 : Nat) (m24 : Nat) (m25 : Nat) (m26 : Int32) (m27 : Int32) (m28 : Int32) (m29 : Int32) (m30 : Int32) (m31 : Int32) (m32 : Nat) (m33 : Nat) (m34 : Nat) (m35 : Nat) (m36 : Int32) (m37 : Nat) (m38 : Int32) (m39 : Nat) (m40 : Nat) (m41 : Nat) (m42 : Nat) (m43 : Nat) (k0 : Nat) (la0 : Nat) (t0 : Nat) (q0 : Nat) (p0 : Nat) (c0 : Nat) (mx0 : Nat) (b0 : Nat) (n0 : Nat) (gvn : Nat → Int32) (gvf : Nat → Int32) (lbf : Nat → Int32) (ctf : Nat → Int32) (wf : Nat → Int32) (sb : Nat → Int32) (gf : Nat → Nat → Int32) (kf : Nat → Int32) (xf : Nat → Int32) (yf : Nat → Int32) (zf : Nat → Int64) (cf : Nat → Int64) (hok : m6 = 2 ∧ ¬ 0 < m29 ∧ ¬ m26 = 0 ∧ ¬ m27 = 0 ∧ ¬ 0 < m30 ∧ m4 ≤ m36) (htk : m4 = nI k0) (hk5 : k0 ≤ 5) (hL1 : gvc gvn la0 = k0) (hL2 : ∀ j : Nat, j < la0 → gvc gvn j < k0) (hL3 : la0 ≤ t0) (hts0 : m3 = nI t0) (ht5 : t0 ≤ 5) (htq : t0 < q0) (hgq : m1 = nI q0) (hq1 : 5 ≤ q0 ∧ q0 < 1000000) (hgp : m0 = nI p0) (hp1 : 2 ≤ p0 ∧ p0 < 1000000) (hca : m2 = nI c0) (hc1 : c0 ≤ 10) (hmx : m26 = nI mx0) (hmx5 : mx0 ≤ 4) (hnb : m12 = nI b0) (hb4 : b0 ≤ 40) (hsb : ∀ i : Nat, i < b0 → lbf (40 * mx0 + i) = sb i) (hgi : ∀ j : Nat, 1 ≤ j → j ≤ t0 → ¬ gvn j = 0 → ∀ i : Nat, i < b0 → gvf (40 * j + i) = gf j i) (hgr : ∀ j : Nat, 1 ≤ j → j ≤ t0 → ¬ gvn j = 0 → ∀ i : Nat, i < b0 → rng m0 (gf j i)) (hct : ctf c0 = 0) (hbn : m38 = nI n0) (h6 : n0 < 600) : Met l yX8_tally wsX8_tally ({ frames := 3, cells := 0, slots := 0, locals := 68 }) (wPc vwCl D cA [(h0, .inr (7, [.int m0, .int m1, .int m2, .int m3, .int m4, .ref m5, .int m6, .int m7, .int m8, .ref m9, .ref m10, .ref m11, .int m12, .ref m13, .ref m14, .ref m15, .ref m16, .int m17, .ref m18, .ref m19, .ref m20, .ref m21, .ref m22, .ref m23, .ref m24, .ref m25, .int m26, .int m27, .int m28, .int m29, .int m30, .int m31, .ref m32, .ref m33, .ref m34, .ref m35, .int m36, .ref m37, .int m38, .ref m39, .ref m40, .ref m41, .ref m42, .ref m43])), (m34, .inl (cA 1, 6, .inl gvn)), (m35, .inl (cA 0, 240, .inl gvf)), (m14, .inl (cA 0, 200, .inl lbf)), (m37, .inl (cA 0, 11, .inl ctf)), (m39, .inl (cA 0, 600, .inl kf)), (m40, .inl (cA 2, 600, .inr (.inl (fun i => (xf i).toInt64)))), (m41, .inl (cA 2, 600, .inr (.inl (fun i => (yf i).toInt64)))), (m42, .inl (cA 2, 600, .inr (.inl zf))), (m43, .inl (cA 2, 600, .inr (.inl cf)))] [.ref h0]) (wq_x vwCl D [(h0, .inr (7, [.int m0, .int m1, .int m2, .int m3, .int m4, .ref m5, .int 3, .int m7, .int m8, .ref m9, .ref m10, .ref m11, .int m12, .ref m13, .ref m14, .ref m15, .ref m16, .int m17, .ref m18, .ref m19, .ref m20, .ref m21, .ref m22, .ref m23, .ref m24, .ref m25, .int m26, .int m27, .int m28, .int m29, .int m30, .int m31, .ref m32, .ref m33, .ref m34, .ref m35, .int m36, .ref m37, .int (m38 + 1), .ref m39, .ref m40, .ref m41, .ref m42, .ref m43])), (m34, .inl (cA 1, 6, .inl gvn)), (m35, .inl (cA 0, 240, .inl gvf)), (m14, .inl (cA 0, 200, .inl lbf)), (m37, .inl (cA 0, 11, .inl (cts (fun i => cfi (fun c => decide (pw m0 32 (c + 1) 1 4 = (fun i => tm m0 (sb i) (pw m0 32 (p0 - 2) 1 (jgf m0 (wts m1 q0 gvn la0 wf t0) (fun j => gft gvn gf m3 (nI j) (nI i)) t0))) i)) c0) ctf b0))), (m39, .inl (cA 0, 600, .inl (upd kf m38.toNatClampNeg 8))), (m40, .inl (cA 2, 600, .inr (.inl (fun i => ((upd xf m38.toNatClampNeg (m12 - ((cts (fun i => cfi (fun c => decide (pw m0 32 (c + 1) 1 4 = (fun i => tm m0 (sb i) (pw m0 32 (p0 - 2) 1 (jgf m0 (wts m1 q0 gvn la0 wf t0) (fun j => gft gvn gf m3 (nI j) (nI i)) t0))) i)) c0) ctf b0) c0))) i).toInt64)))), (m41, .inl (cA 2, 600, .inr (.inl (fun i => ((upd yf m38.toNatClampNeg ((cts (fun i => cfi (fun c => decide (pw m0 32 (c + 1) 1 4 = (fun i => tm m0 (sb i) (pw m0 32 (p0 - 2) 1 (jgf m0 (wts m1 q0 gvn la0 wf t0) (fun j => gft gvn gf m3 (nI j) (nI i)) t0))) i)) c0) ctf b0) c0)) i).toInt64)))), (m42, .inl (cA 2, 600, .inr (.inl (vp_updL zf m38.toNatClampNeg (dg1 (cts (fun i => cfi (fun c => decide (pw m0 32 (c + 1) 1 4 = (fun i => tm m0 (sb i) (pw m0 32 (p0 - 2) 1 (jgf m0 (wts m1 q0 gvn la0 wf t0) (fun j => gft gvn gf m3 (nI j) (nI i)) t0))) i)) c0) ctf b0) c0))))), (m43, .inl (cA 2, 600, .inr (.inl (vp_updL cf m38.toNatClampNeg (dg (dg (dg (dg (cho cf m38 (m38 - 1)) ((8 : Int32).toInt64)) ((m12 - ((cts (fun i => cfi (fun c => decide (pw m0 32 (c + 1) 1 4 = (fun i => tm m0 (sb i) (pw m0 32 (p0 - 2) 1 (jgf m0 (wts m1 q0 gvn la0 wf t0) (fun j => gft gvn gf m3 (nI j) (nI i)) t0))) i)) c0) ctf b0) c0)).toInt64)) (((cts (fun i => cfi (fun c => decide (pw m0 32 (c + 1) 1 4 = (fun i => tm m0 (sb i) (pw m0 32 (p0 - 2) 1 (jgf m0 (wts m1 q0 gvn la0 wf t0) (fun j => gft gvn gf m3 (nI j) (nI i)) t0))) i)) c0) ctf b0) c0).toInt64)) (dg1 (cts (fun i => cfi (fun c => decide (pw m0 32 (c + 1) 1 4 = (fun i => tm m0 (sb i) (pw m0 32 (p0 - 2) 1 (jgf m0 (wts m1 q0 gvn la0 wf t0) (fun j => gft gvn gf m3 (nI j) (nI i)) t0))) i)) c0) ctf b0) c0))))))] (some (.int (m12 - ((cts (fun i => cfi (fun c => decide (pw m0 32 (c + 1) 1 4 = (fun i => tm m0 (sb i) (pw m0 32 (p0 - 2) 1 (jgf m0 (wts m1 q0 gvn la0 wf t0) (fun j => gft gvn gf m3 (nI j) (nI i)) t0))) i)) c0) ctf b0) c0)))) (wA [(h0, .inr (7, [.int m0, .int m1, .int m2, .int m3, .int m4, .ref m5, .int m6, .int m7, .int m8, .ref m9, .ref m10, .ref m11, .int m12, .ref m13, .ref m14, .ref m15, .ref m16, .int m17, .ref m18, .ref m19, .ref m20, .ref m21, .ref m22, .ref m23, .ref m24, .ref m25, .int m26, .int m27, .int m28, .int m29, .int m30, .int m31, .ref m32, .ref m33, .ref m34, .ref m35, .int m36, .ref m37, .int m38, .ref m39, .ref m40, .ref m41, .ref m42, .ref m43])), (m34, .inl (cA 1, 6, .inl gvn)), (m35, .inl (cA 0, 240, .inl gvf)), (m14, .inl (cA 0, 200, .inl lbf)), (m37, .inl (cA 0, 11, .inl ctf)), (m39, .inl (cA 0, 600, .inl kf)), (m40, .inl (cA 2, 600, .inr (.inl (fun i => (xf i).toInt64)))), (m41, .inl (cA 2, 600, .inr (.inl (fun i => (yf i).toInt64)))), (m42, .inl (cA 2, 600, .inr (.inl zf))), (m43, .inl (cA 2, 600, .inr (.inl cf)))])) 0 0 (wA [(h0, .inr (7, [.int m0, .int m1, .int m2, .int m3, .int m4, .ref m5, .int m6, .int m7, .int m8, .ref m9, .ref m10, .ref m11, .int m12, .ref m13, .ref m14, .ref m15, .ref m16, .int m17, .ref m18, .ref m19, .ref m20, .ref m21, .ref m22, .ref m23, .ref m24, .ref m25, .int m26, .int m27, .int m28, .int m29, .int m30, .int m31, .ref m32, .ref m33, .ref m34, .ref m35, .int m36, .ref m37, .int m38, .ref m39, .ref m40, .ref m41, .ref m42, .ref m43])), (m34, .inl (cA 1, 6, .inl gvn)), (m35, .inl (cA 0, 240, .inl gvf)), (m14, .inl (cA 0, 200, .inl lbf)), (m37, .inl (cA 0, 11, .inl ctf)), (m39, .inl (cA 0, 600, .inl kf)), (m40, .inl (cA 2, 600, .inr (.inl (fun i => (xf i).toInt64)))), (m41, .inl (cA 2, 600, .inr (.inl (fun i => (yf i).toInt64)))), (m42, .inl (cA 2, 600, .inr (.inl zf))), (m43, .inl (cA 2, 600, .inr (.inl cf)))]) := by
  refine Met.ofW (cc := cX8_tally) (maxL := 8) (ret := (some .int)) (by decide) rfl ?_
  intro p e s m args below meth c s₁ B hml hv
  obtain ⟨rfl, hP, hK, hD0⟩ := hv
  have hx := B.exec
  have hb := B.bytes
  have hr := B.returns
  have hts := atoms_spec (ws := wsX8_tally) B.pre
  have hown : s.vm.findClass RX8 = some m.cls := findClass_of_methodNamed B.named
  have hlocks := B.notSynchronized
  have hin_X8 : ∀ w ∈ wsX80, w ∈ wsX8_tally := fun w h => List.mem_cons_of_mem _ (List.mem_append_right _ h)
  have w_RX8_140 := hts (.fieldLink RX8 140 "MixElectionModel" "stage" "I") (by decide +kernel)
  have w_RX8_212 := hts (.fieldLink RX8 212 "MixElectionModel" "rejected" "I") (by decide +kernel)
  have w_RX8_191 := hts (.fieldLink RX8 191 "MixElectionModel" "mixes" "I") (by decide +kernel)
  have w_RX8_203 := hts (.fieldLink RX8 203 "MixElectionModel" "rounds" "I") (by decide +kernel)
  have w_RX8_200 := hts (.fieldLink RX8 200 "MixElectionModel" "unproved" "I") (by decide +kernel)
  have w_RX8_185 := hts (.fieldLink RX8 185 "MixElectionModel" "shares" "I") (by decide +kernel)
  have w_RX8_112 := hts (.fieldLink RX8 112 "MixElectionModel" "threshold" "I") (by decide +kernel)
  have w_RX8_170 := hts (.fieldLink RX8 170 "MixElectionModel" "many" "I") (by decide +kernel)
  have w_RX8_106 := hts (.fieldLink RX8 106 "MixElectionModel" "candidates" "I") (by decide +kernel)
  have w_RX8_71 := hts (.fieldLink RX8 71 "MixElectionModel" "count" "[I") (by decide +kernel)
  have w_RX8_26 := hts (.fieldLink RX8 26 "MixElectionModel" "listB" "[I") (by decide +kernel)
  have w_RX8_99 := hts (.fieldLink RX8 99 "MixElectionModel" "p" "I") (by decide +kernel)
  have w_RX8_65 := hts (.fieldLink RX8 65 "MixElectionModel" "hasGiven" "[Z") (by decide +kernel)
  have w_RX8_68 := hts (.fieldLink RX8 68 "MixElectionModel" "given" "[I") (by decide +kernel)
  have hD : va_D (wA [(h0, .inr (7, [.int m0, .int m1, .int m2, .int m3, .int m4, .ref m5, .int m6, .int m7, .int m8, .ref m9, .ref m10, .ref m11, .int m12, .ref m13, .ref m14, .ref m15, .ref m16, .int m17, .ref m18, .ref m19, .ref m20, .ref m21, .ref m22, .ref m23, .ref m24, .ref m25, .int m26, .int m27, .int m28, .int m29, .int m30, .int m31, .ref m32, .ref m33, .ref m34, .ref m35, .int m36, .ref m37, .int m38, .ref m39, .ref m40, .ref m41, .ref m42, .ref m43])), (m34, .inl (cA 1, 6, .inl gvn)), (m35, .inl (cA 0, 240, .inl gvf)), (m14, .inl (cA 0, 200, .inl lbf)), (m37, .inl (cA 0, 11, .inl ctf)), (m39, .inl (cA 0, 600, .inl kf)), (m40, .inl (cA 2, 600, .inr (.inl (fun i => (xf i).toInt64)))), (m41, .inl (cA 2, 600, .inr (.inl (fun i => (yf i).toInt64)))), (m42, .inl (cA 2, 600, .inr (.inl zf))), (m43, .inl (cA 2, 600, .inr (.inl cf)))]) [(h0, .inr (7, [.int m0, .int m1, .int m2, .int m3, .int m4, .ref m5, .int m6, .int m7, .int m8, .ref m9, .ref m10, .ref m11, .int m12, .ref m13, .ref m14, .ref m15, .ref m16, .int m17, .ref m18, .ref m19, .ref m20, .ref m21, .ref m22, .ref m23, .ref m24, .ref m25, .int m26, .int m27, .int m28, .int m29, .int m30, .int m31, .ref m32, .ref m33, .ref m34, .ref m35, .int m36, .ref m37, .int m38, .ref m39, .ref m40, .ref m41, .ref m42, .ref m43])), (m34, .inl (cA 1, 6, .inl gvn)), (m35, .inl (cA 0, 240, .inl gvf)), (m14, .inl (cA 0, 200, .inl lbf)), (m37, .inl (cA 0, 11, .inl ctf)), (m39, .inl (cA 0, 600, .inl kf)), (m40, .inl (cA 2, 600, .inr (.inl (fun i => (xf i).toInt64)))), (m41, .inl (cA 2, 600, .inr (.inl (fun i => (yf i).toInt64)))), (m42, .inl (cA 2, 600, .inr (.inl zf))), (m43, .inl (cA 2, 600, .inr (.inl cf)))] := ⟨hD0.1, fun k q h => List.mem_map.mpr ⟨q, List.mem_of_getElem? h, rfl⟩⟩
  have hS : va_S (wA [(h0, .inr (7, [.int m0, .int m1, .int m2, .int m3, .int m4, .ref m5, .int m6, .int m7, .int m8, .ref m9, .ref m10, .ref m11, .int m12, .ref m13, .ref m14, .ref m15, .ref m16, .int m17, .ref m18, .ref m19, .ref m20, .ref m21, .ref m22, .ref m23, .ref m24, .ref m25, .int m26, .int m27, .int m28, .int m29, .int m30, .int m31, .ref m32, .ref m33, .ref m34, .ref m35, .int m36, .ref m37, .int m38, .ref m39, .ref m40, .ref m41, .ref m42, .ref m43])), (m34, .inl (cA 1, 6, .inl gvn)), (m35, .inl (cA 0, 240, .inl gvf)), (m14, .inl (cA 0, 200, .inl lbf)), (m37, .inl (cA 0, 11, .inl ctf)), (m39, .inl (cA 0, 600, .inl kf)), (m40, .inl (cA 2, 600, .inr (.inl (fun i => (xf i).toInt64)))), (m41, .inl (cA 2, 600, .inr (.inl (fun i => (yf i).toInt64)))), (m42, .inl (cA 2, 600, .inr (.inl zf))), (m43, .inl (cA 2, 600, .inr (.inl cf)))]) s.heap s.heap [] := va_S.rf
  generalize hAe : wA [(h0, .inr (7, [.int m0, .int m1, .int m2, .int m3, .int m4, .ref m5, .int m6, .int m7, .int m8, .ref m9, .ref m10, .ref m11, .int m12, .ref m13, .ref m14, .ref m15, .ref m16, .int m17, .ref m18, .ref m19, .ref m20, .ref m21, .ref m22, .ref m23, .ref m24, .ref m25, .int m26, .int m27, .int m28, .int m29, .int m30, .int m31, .ref m32, .ref m33, .ref m34, .ref m35, .int m36, .ref m37, .int m38, .ref m39, .ref m40, .ref m41, .ref m42, .ref m43])), (m34, .inl (cA 1, 6, .inl gvn)), (m35, .inl (cA 0, 240, .inl gvf)), (m14, .inl (cA 0, 200, .inl lbf)), (m37, .inl (cA 0, 11, .inl ctf)), (m39, .inl (cA 0, 600, .inl kf)), (m40, .inl (cA 2, 600, .inr (.inl (fun i => (xf i).toInt64)))), (m41, .inl (cA 2, 600, .inr (.inl (fun i => (yf i).toInt64)))), (m42, .inl (cA 2, 600, .inr (.inl zf))), (m43, .inl (cA 2, 600, .inr (.inl cf)))] = A at hD hS ⊢
  have hP : va_P D vwCl [(h0, .inr (7, [.int m0, .int m1, .int m2, .int m3, .int m4, .ref m5, .int m6, .int m7, .int m8, .ref m9, .ref m10, .ref m11, .int m12, .ref m13, .ref m14, .ref m15, .ref m16, .int m17, .ref m18, .ref m19, .ref m20, .ref m21, .ref m22, .ref m23, .ref m24, .ref m25, .int m26, .int m27, .int m28, .int m29, .int m30, .int m31, .ref m32, .ref m33, .ref m34, .ref m35, .int m36, .ref m37, .int m38, .ref m39, .ref m40, .ref m41, .ref m42, .ref m43])), (m34, .inl (cA 1, 6, .inl gvn)), (m35, .inl (cA 0, 240, .inl gvf)), (m14, .inl (cA 0, 200, .inl lbf)), (m37, .inl (cA 0, 11, .inl ctf)), (m39, .inl (cA 0, 600, .inl kf)), (m40, .inl (cA 2, 600, .inr (.inl (fun i => (xf i).toInt64)))), (m41, .inl (cA 2, 600, .inr (.inl (fun i => (yf i).toInt64)))), (m42, .inl (cA 2, 600, .inr (.inl zf))), (m43, .inl (cA 2, 600, .inr (.inl cf)))] s.heap := hP
  have hl := lv_entry ([.ref h0]) (n := 8) (Nat.le_of_ble_eq_true rfl)
  rw [lg_entry_eq]
  generalize (lg_sl ([.ref h0]) ++ List.replicate (8 - (lg_sl ([.ref h0])).length) Slot.unset).toArray = ls at hl ⊢
  have hl : lv_has ls 8 [(0, .ref h0)] := hl
  refine lv_aload_n hx hb dX8_tally_0 rfl (lv_at hl 0 rfl) ?_
  refine va_get (D := D) (ci := 7) (v := .int m6) (C := RX8) (T := TX8) (N := 44) hx hb hts hin_X8 hown hK hP 0 rfl rfl 6 (by decide) (w_RX8_140) (fun _ h9 => h9) rfl dX8_tally_1 ?_
  refine lv_iconst (v := 2) hx hb dX8_tally_4 (by decide) ?_
  refine lv_icmp_ne (tgt := 47) hx hb dX8_tally_5 (by decide) (fun c_5 => ?_) (fun c_5 => ?_)
  · exact absurd hok.1 c_5
  · skip
    refine lv_aload_n hx hb dX8_tally_8 rfl (lv_at hl 0 rfl) ?_
    refine va_get (D := D) (ci := 7) (v := .int m29) (C := RX8) (T := TX8) (N := 44) hx hb hts hin_X8 hown hK hP 0 rfl rfl 29 (by decide) (w_RX8_212) (fun _ h9 => h9) rfl dX8_tally_9 ?_
    refine lv_if_gt (tgt := 47) hx hb dX8_tally_12 (by decide) (fun c_12 => ?_) (fun c_12 => ?_)
    · exact absurd c_12 hok.2.1
    · skip
      refine lv_aload_n hx hb dX8_tally_15 rfl (lv_at hl 0 rfl) ?_
      refine va_get (D := D) (ci := 7) (v := .int m26) (C := RX8) (T := TX8) (N := 44) hx hb hts hin_X8 hown hK hP 0 rfl rfl 26 (by decide) (w_RX8_191) (fun _ h9 => h9) rfl dX8_tally_16 ?_
      refine lv_if_eq (tgt := 47) hx hb dX8_tally_19 (by decide) (fun c_19 => ?_) (fun c_19 => ?_)
      · exact absurd c_19 hok.2.2.1
      · skip
        refine lv_aload_n hx hb dX8_tally_22 rfl (lv_at hl 0 rfl) ?_
        refine va_get (D := D) (ci := 7) (v := .int m27) (C := RX8) (T := TX8) (N := 44) hx hb hts hin_X8 hown hK hP 0 rfl rfl 27 (by decide) (w_RX8_203) (fun _ h9 => h9) rfl dX8_tally_23 ?_
        refine lv_if_eq (tgt := 47) hx hb dX8_tally_26 (by decide) (fun c_26 => ?_) (fun c_26 => ?_)
        · exact absurd c_26 hok.2.2.2.1
        · skip
          refine lv_aload_n hx hb dX8_tally_29 rfl (lv_at hl 0 rfl) ?_
          refine va_get (D := D) (ci := 7) (v := .int m30) (C := RX8) (T := TX8) (N := 44) hx hb hts hin_X8 hown hK hP 0 rfl rfl 30 (by decide) (w_RX8_200) (fun _ h9 => h9) rfl dX8_tally_30 ?_
          refine lv_if_gt (tgt := 47) hx hb dX8_tally_33 (by decide) (fun c_33 => ?_) (fun c_33 => ?_)
          · exact absurd c_33 hok.2.2.2.2.1
          · skip
            refine lv_aload_n hx hb dX8_tally_36 rfl (lv_at hl 0 rfl) ?_
            refine va_get (D := D) (ci := 7) (v := .int m36) (C := RX8) (T := TX8) (N := 44) hx hb hts hin_X8 hown hK hP 0 rfl rfl 36 (by decide) (w_RX8_185) (fun _ h9 => h9) rfl dX8_tally_37 ?_
            refine lv_aload_n hx hb dX8_tally_40 rfl (lv_at hl 0 rfl) ?_
            refine va_get (D := D) (ci := 7) (v := .int m4) (C := RX8) (T := TX8) (N := 44) hx hb hts hin_X8 hown hK hP 0 rfl rfl 4 (by decide) (w_RX8_112) (fun _ h9 => h9) rfl dX8_tally_41 ?_
            refine lv_icmp_ge (tgt := 49) hx hb dX8_tally_44 (by decide) (fun c_44 => ?_) (fun c_44 => ?_)
            · skip
              refine lv_iconst (v := 0) hx hb dX8_tally_49 (by decide) ?_
              refine lv_istore_n (lv' := [(1, .int 0), (0, .ref h0)]) hx hb dX8_tally_50 rfl hl (by decide) rfl (fun ls hl => ?_)
              refine lv_iconst (v := 0) hx hb dX8_tally_51 (by decide) ?_
              refine lv_istore_n (lv' := [(2, .int 0), (1, .int 0), (0, .ref h0)]) hx hb dX8_tally_52 rfl hl (by decide) rfl (fun ls hl => ?_)
              have loop53 : ∀ (f_ k : Nat) (yk vk : Int32), yk = nI k → la0 + 1 ≤ k + f_ → k ≤ la0 → vk = nI (gvc gvn k) → ∀ (H : Heap) (locs : List Loc), va_P D vwCl [(h0, .inr (7, [.int m0, .int m1, .int m2, .int m3, .int m4, .ref m5, .int m6, .int m7, .int m8, .ref m9, .ref m10, .ref m11, .int m12, .ref m13, .ref m14, .ref m15, .ref m16, .int m17, .ref m18, .ref m19, .ref m20, .ref m21, .ref m22, .ref m23, .ref m24, .ref m25, .int m26, .int m27, .int m28, .int m29, .int m30, .int m31, .ref m32, .ref m33, .ref m34, .ref m35, .int m36, .ref m37, .int m38, .ref m39, .ref m40, .ref m41, .ref m42, .ref m43])), (m34, .inl (cA 1, 6, .inl gvn)), (m35, .inl (cA 0, 240, .inl gvf)), (m14, .inl (cA 0, 200, .inl lbf)), (m37, .inl (cA 0, 11, .inl ctf)), (m39, .inl (cA 0, 600, .inl kf)), (m40, .inl (cA 2, 600, .inr (.inl (fun i => (xf i).toInt64)))), (m41, .inl (cA 2, 600, .inr (.inl (fun i => (yf i).toInt64)))), (m42, .inl (cA 2, 600, .inr (.inl zf))), (m43, .inl (cA 2, 600, .inr (.inl cf)))] H → va_D A [(h0, .inr (7, [.int m0, .int m1, .int m2, .int m3, .int m4, .ref m5, .int m6, .int m7, .int m8, .ref m9, .ref m10, .ref m11, .int m12, .ref m13, .ref m14, .ref m15, .ref m16, .int m17, .ref m18, .ref m19, .ref m20, .ref m21, .ref m22, .ref m23, .ref m24, .ref m25, .int m26, .int m27, .int m28, .int m29, .int m30, .int m31, .ref m32, .ref m33, .ref m34, .ref m35, .int m36, .ref m37, .int m38, .ref m39, .ref m40, .ref m41, .ref m42, .ref m43])), (m34, .inl (cA 1, 6, .inl gvn)), (m35, .inl (cA 0, 240, .inl gvf)), (m14, .inl (cA 0, 200, .inl lbf)), (m37, .inl (cA 0, 11, .inl ctf)), (m39, .inl (cA 0, 600, .inl kf)), (m40, .inl (cA 2, 600, .inr (.inl (fun i => (xf i).toInt64)))), (m41, .inl (cA 2, 600, .inr (.inl (fun i => (yf i).toInt64)))), (m42, .inl (cA 2, 600, .inr (.inl zf))), (m43, .inl (cA 2, 600, .inr (.inl cf)))] → va_S A s.heap H locs → ∀ ls : Array Slot, lv_has ls 8 [(0, .ref h0), (1, .int yk), (2, .int vk)] → W p l e (headSpec wsX8_tally ({ frames := 3, cells := 0, slots := 0, locals := 68 })).room s m [.ref h0].toArray below meth c H locs 0 0 (MQ below (wq_x vwCl D [(h0, .inr (7, [.int m0, .int m1, .int m2, .int m3, .int m4, .ref m5, .int 3, .int m7, .int m8, .ref m9, .ref m10, .ref m11, .int m12, .ref m13, .ref m14, .ref m15, .ref m16, .int m17, .ref m18, .ref m19, .ref m20, .ref m21, .ref m22, .ref m23, .ref m24, .ref m25, .int m26, .int m27, .int m28, .int m29, .int m30, .int m31, .ref m32, .ref m33, .ref m34, .ref m35, .int m36, .ref m37, .int (m38 + 1), .ref m39, .ref m40, .ref m41, .ref m42, .ref m43])), (m34, .inl (cA 1, 6, .inl gvn)), (m35, .inl (cA 0, 240, .inl gvf)), (m14, .inl (cA 0, 200, .inl lbf)), (m37, .inl (cA 0, 11, .inl (cts (fun i => cfi (fun c => decide (pw m0 32 (c + 1) 1 4 = (fun i => tm m0 (sb i) (pw m0 32 (p0 - 2) 1 (jgf m0 (wts m1 q0 gvn la0 wf t0) (fun j => gft gvn gf m3 (nI j) (nI i)) t0))) i)) c0) ctf b0))), (m39, .inl (cA 0, 600, .inl (upd kf m38.toNatClampNeg 8))), (m40, .inl (cA 2, 600, .inr (.inl (fun i => ((upd xf m38.toNatClampNeg (m12 - ((cts (fun i => cfi (fun c => decide (pw m0 32 (c + 1) 1 4 = (fun i => tm m0 (sb i) (pw m0 32 (p0 - 2) 1 (jgf m0 (wts m1 q0 gvn la0 wf t0) (fun j => gft gvn gf m3 (nI j) (nI i)) t0))) i)) c0) ctf b0) c0))) i).toInt64)))), (m41, .inl (cA 2, 600, .inr (.inl (fun i => ((upd yf m38.toNatClampNeg ((cts (fun i => cfi (fun c => decide (pw m0 32 (c + 1) 1 4 = (fun i => tm m0 (sb i) (pw m0 32 (p0 - 2) 1 (jgf m0 (wts m1 q0 gvn la0 wf t0) (fun j => gft gvn gf m3 (nI j) (nI i)) t0))) i)) c0) ctf b0) c0)) i).toInt64)))), (m42, .inl (cA 2, 600, .inr (.inl (vp_updL zf m38.toNatClampNeg (dg1 (cts (fun i => cfi (fun c => decide (pw m0 32 (c + 1) 1 4 = (fun i => tm m0 (sb i) (pw m0 32 (p0 - 2) 1 (jgf m0 (wts m1 q0 gvn la0 wf t0) (fun j => gft gvn gf m3 (nI j) (nI i)) t0))) i)) c0) ctf b0) c0))))), (m43, .inl (cA 2, 600, .inr (.inl (vp_updL cf m38.toNatClampNeg (dg (dg (dg (dg (cho cf m38 (m38 - 1)) ((8 : Int32).toInt64)) ((m12 - ((cts (fun i => cfi (fun c => decide (pw m0 32 (c + 1) 1 4 = (fun i => tm m0 (sb i) (pw m0 32 (p0 - 2) 1 (jgf m0 (wts m1 q0 gvn la0 wf t0) (fun j => gft gvn gf m3 (nI j) (nI i)) t0))) i)) c0) ctf b0) c0)).toInt64)) (((cts (fun i => cfi (fun c => decide (pw m0 32 (c + 1) 1 4 = (fun i => tm m0 (sb i) (pw m0 32 (p0 - 2) 1 (jgf m0 (wts m1 q0 gvn la0 wf t0) (fun j => gft gvn gf m3 (nI j) (nI i)) t0))) i)) c0) ctf b0) c0).toInt64)) (dg1 (cts (fun i => cfi (fun c => decide (pw m0 32 (c + 1) 1 4 = (fun i => tm m0 (sb i) (pw m0 32 (p0 - 2) 1 (jgf m0 (wts m1 q0 gvn la0 wf t0) (fun j => gft gvn gf m3 (nI j) (nI i)) t0))) i)) c0) ctf b0) c0))))))] (some (.int (m12 - ((cts (fun i => cfi (fun c => decide (pw m0 32 (c + 1) 1 4 = (fun i => tm m0 (sb i) (pw m0 32 (p0 - 2) 1 (jgf m0 (wts m1 q0 gvn la0 wf t0) (fun j => gft gvn gf m3 (nI j) (nI i)) t0))) i)) c0) ctf b0) c0)))) A) [.ref h0].toArray s 0 0 A) (F0 m 53 ls []) := by
                intro f4
                induction f4 with
                | zero =>
                  intro k yk vk hyk hk1_ hk2
                  omega
                | succ f4 ih4 =>
                  intro k yk vk hyk hk1_ hk2 hvk H locs hP hD hS ls hl
                  refine lv_iload_n hx hb dX8_tally_53 rfl (lv_at hl 2 rfl) ?_
                  refine lv_aload_n hx hb dX8_tally_54 rfl (lv_at hl 0 rfl) ?_
                  refine va_get (D := D) (ci := 7) (v := .int m4) (C := RX8) (T := TX8) (N := 44) hx hb hts hin_X8 hown hK hP 0 rfl rfl 4 (by decide) (w_RX8_112) (fun _ h9 => h9) rfl dX8_tally_55 ?_
                  refine lv_icmp_ge (tgt := 84) hx hb dX8_tally_58 (by decide) (fun c_58 => ?_) (fun c_58 => ?_)
                  · skip
                    have hke := (ta_end hyk htk hk5 ht5 hL1 hL2 hL3 hk2 hvk c_58).symm
                    subst hke
                    subst hyk
                    have hl := lv_sub hl [0, 1] rfl
                    have hl : lv_has ls 8 [(0, .ref h0), (1, .int (nI la0))] := hl
                    refine lv_iconst (v := 0) hx hb dX8_tally_84 (by decide) ?_
                    refine lv_istore_n (lv' := [(3, .int 0), (0, .ref h0), (1, .int (nI la0))]) hx hb dX8_tally_85 rfl hl (by decide) rfl (fun ls hl => ?_)
                    refine lv_iconst (v := 0) hx hb dX8_tally_86 (by decide) ?_
                    refine lv_istore (lv' := [(4, .int 0), (3, .int 0), (0, .ref h0), (1, .int (nI la0))]) hx hb dX8_tally_87 hl (by decide) rfl (fun ls hl => ?_)
                    have loop89 : ∀ (f_ k : Nat) (z w : Int32), z = nI k → b0 + 1 ≤ k + f_ → k ≤ b0 → w = (cts (fun i => cfi (fun c => decide (pw m0 32 (c + 1) 1 4 = (fun i => tm m0 (sb i) (pw m0 32 (p0 - 2) 1 (jgf m0 (wts m1 q0 gvn la0 wf t0) (fun j => gft gvn gf m3 (nI j) (nI i)) t0))) i)) c0) ctf k) c0 → ∀ (H : Heap) (locs : List Loc), va_P D vwCl [(h0, .inr (7, [.int m0, .int m1, .int m2, .int m3, .int m4, .ref m5, .int m6, .int m7, .int m8, .ref m9, .ref m10, .ref m11, .int m12, .ref m13, .ref m14, .ref m15, .ref m16, .int m17, .ref m18, .ref m19, .ref m20, .ref m21, .ref m22, .ref m23, .ref m24, .ref m25, .int m26, .int m27, .int m28, .int m29, .int m30, .int m31, .ref m32, .ref m33, .ref m34, .ref m35, .int m36, .ref m37, .int m38, .ref m39, .ref m40, .ref m41, .ref m42, .ref m43])), (m34, .inl (cA 1, 6, .inl gvn)), (m35, .inl (cA 0, 240, .inl gvf)), (m14, .inl (cA 0, 200, .inl lbf)), (m37, .inl (cA 0, 11, .inl (cts (fun i => cfi (fun c => decide (pw m0 32 (c + 1) 1 4 = (fun i => tm m0 (sb i) (pw m0 32 (p0 - 2) 1 (jgf m0 (wts m1 q0 gvn la0 wf t0) (fun j => gft gvn gf m3 (nI j) (nI i)) t0))) i)) c0) ctf k))), (m39, .inl (cA 0, 600, .inl kf)), (m40, .inl (cA 2, 600, .inr (.inl (fun i => (xf i).toInt64)))), (m41, .inl (cA 2, 600, .inr (.inl (fun i => (yf i).toInt64)))), (m42, .inl (cA 2, 600, .inr (.inl zf))), (m43, .inl (cA 2, 600, .inr (.inl cf)))] H → va_D A [(h0, .inr (7, [.int m0, .int m1, .int m2, .int m3, .int m4, .ref m5, .int m6, .int m7, .int m8, .ref m9, .ref m10, .ref m11, .int m12, .ref m13, .ref m14, .ref m15, .ref m16, .int m17, .ref m18, .ref m19, .ref m20, .ref m21, .ref m22, .ref m23, .ref m24, .ref m25, .int m26, .int m27, .int m28, .int m29, .int m30, .int m31, .ref m32, .ref m33, .ref m34, .ref m35, .int m36, .ref m37, .int m38, .ref m39, .ref m40, .ref m41, .ref m42, .ref m43])), (m34, .inl (cA 1, 6, .inl gvn)), (m35, .inl (cA 0, 240, .inl gvf)), (m14, .inl (cA 0, 200, .inl lbf)), (m37, .inl (cA 0, 11, .inl (cts (fun i => cfi (fun c => decide (pw m0 32 (c + 1) 1 4 = (fun i => tm m0 (sb i) (pw m0 32 (p0 - 2) 1 (jgf m0 (wts m1 q0 gvn la0 wf t0) (fun j => gft gvn gf m3 (nI j) (nI i)) t0))) i)) c0) ctf k))), (m39, .inl (cA 0, 600, .inl kf)), (m40, .inl (cA 2, 600, .inr (.inl (fun i => (xf i).toInt64)))), (m41, .inl (cA 2, 600, .inr (.inl (fun i => (yf i).toInt64)))), (m42, .inl (cA 2, 600, .inr (.inl zf))), (m43, .inl (cA 2, 600, .inr (.inl cf)))] → va_S A s.heap H locs → ∀ ls : Array Slot, lv_has ls 8 [(0, .ref h0), (1, .int (nI la0)), (3, .int w), (4, .int z)] → W p l e (headSpec wsX8_tally ({ frames := 3, cells := 0, slots := 0, locals := 68 })).room s m [.ref h0].toArray below meth c H locs 0 0 (MQ below (wq_x vwCl D [(h0, .inr (7, [.int m0, .int m1, .int m2, .int m3, .int m4, .ref m5, .int 3, .int m7, .int m8, .ref m9, .ref m10, .ref m11, .int m12, .ref m13, .ref m14, .ref m15, .ref m16, .int m17, .ref m18, .ref m19, .ref m20, .ref m21, .ref m22, .ref m23, .ref m24, .ref m25, .int m26, .int m27, .int m28, .int m29, .int m30, .int m31, .ref m32, .ref m33, .ref m34, .ref m35, .int m36, .ref m37, .int (m38 + 1), .ref m39, .ref m40, .ref m41, .ref m42, .ref m43])), (m34, .inl (cA 1, 6, .inl gvn)), (m35, .inl (cA 0, 240, .inl gvf)), (m14, .inl (cA 0, 200, .inl lbf)), (m37, .inl (cA 0, 11, .inl (cts (fun i => cfi (fun c => decide (pw m0 32 (c + 1) 1 4 = (fun i => tm m0 (sb i) (pw m0 32 (p0 - 2) 1 (jgf m0 (wts m1 q0 gvn la0 wf t0) (fun j => gft gvn gf m3 (nI j) (nI i)) t0))) i)) c0) ctf b0))), (m39, .inl (cA 0, 600, .inl (upd kf m38.toNatClampNeg 8))), (m40, .inl (cA 2, 600, .inr (.inl (fun i => ((upd xf m38.toNatClampNeg (m12 - ((cts (fun i => cfi (fun c => decide (pw m0 32 (c + 1) 1 4 = (fun i => tm m0 (sb i) (pw m0 32 (p0 - 2) 1 (jgf m0 (wts m1 q0 gvn la0 wf t0) (fun j => gft gvn gf m3 (nI j) (nI i)) t0))) i)) c0) ctf b0) c0))) i).toInt64)))), (m41, .inl (cA 2, 600, .inr (.inl (fun i => ((upd yf m38.toNatClampNeg ((cts (fun i => cfi (fun c => decide (pw m0 32 (c + 1) 1 4 = (fun i => tm m0 (sb i) (pw m0 32 (p0 - 2) 1 (jgf m0 (wts m1 q0 gvn la0 wf t0) (fun j => gft gvn gf m3 (nI j) (nI i)) t0))) i)) c0) ctf b0) c0)) i).toInt64)))), (m42, .inl (cA 2, 600, .inr (.inl (vp_updL zf m38.toNatClampNeg (dg1 (cts (fun i => cfi (fun c => decide (pw m0 32 (c + 1) 1 4 = (fun i => tm m0 (sb i) (pw m0 32 (p0 - 2) 1 (jgf m0 (wts m1 q0 gvn la0 wf t0) (fun j => gft gvn gf m3 (nI j) (nI i)) t0))) i)) c0) ctf b0) c0))))), (m43, .inl (cA 2, 600, .inr (.inl (vp_updL cf m38.toNatClampNeg (dg (dg (dg (dg (cho cf m38 (m38 - 1)) ((8 : Int32).toInt64)) ((m12 - ((cts (fun i => cfi (fun c => decide (pw m0 32 (c + 1) 1 4 = (fun i => tm m0 (sb i) (pw m0 32 (p0 - 2) 1 (jgf m0 (wts m1 q0 gvn la0 wf t0) (fun j => gft gvn gf m3 (nI j) (nI i)) t0))) i)) c0) ctf b0) c0)).toInt64)) (((cts (fun i => cfi (fun c => decide (pw m0 32 (c + 1) 1 4 = (fun i => tm m0 (sb i) (pw m0 32 (p0 - 2) 1 (jgf m0 (wts m1 q0 gvn la0 wf t0) (fun j => gft gvn gf m3 (nI j) (nI i)) t0))) i)) c0) ctf b0) c0).toInt64)) (dg1 (cts (fun i => cfi (fun c => decide (pw m0 32 (c + 1) 1 4 = (fun i => tm m0 (sb i) (pw m0 32 (p0 - 2) 1 (jgf m0 (wts m1 q0 gvn la0 wf t0) (fun j => gft gvn gf m3 (nI j) (nI i)) t0))) i)) c0) ctf b0) c0))))))] (some (.int (m12 - ((cts (fun i => cfi (fun c => decide (pw m0 32 (c + 1) 1 4 = (fun i => tm m0 (sb i) (pw m0 32 (p0 - 2) 1 (jgf m0 (wts m1 q0 gvn la0 wf t0) (fun j => gft gvn gf m3 (nI j) (nI i)) t0))) i)) c0) ctf b0) c0)))) A) [.ref h0].toArray s 0 0 A) (F0 m 89 ls []) := by
                      intro f3
                      induction f3 with
                      | zero =>
                        intro k z w hz h1 h2
                        omega
                      | succ f3 ih3 =>
                        intro k z w hz h1 h2 hw H locs hP hD hS ls hl
                        refine lv_iload hx hb dX8_tally_89 (lv_at hl 3 rfl) ?_
                        refine lv_aload_n hx hb dX8_tally_91 rfl (lv_at hl 0 rfl) ?_
                        refine va_get (D := D) (ci := 7) (v := .int m12) (C := RX8) (T := TX8) (N := 44) hx hb hts hin_X8 hown hK hP 0 rfl rfl 12 (by decide) (w_RX8_170) (fun _ h9 => h9) rfl dX8_tally_92 ?_
                        refine lv_icmp_ge (tgt := 254) hx hb dX8_tally_95 (by decide) (fun c_95 => ?_) (fun c_95 => ?_)
                        · skip
                          have hke := (lp_end hz hnb (by omega) h2 c_95).symm
                          subst hke
                          subst hw
                          refine lv_aload_n hx hb dX8_tally_254 rfl (lv_at hl 0 rfl) ?_
                          refine lv_iconst (v := 3) hx hb dX8_tally_255 (by decide) ?_
                          refine va_put (D := D) (ci := 7) (v := .int 3) (ty := .int) (C := RX8) (T := TX8) (N := 44) hx hb hts hin_X8 tyX8 tyX8_ok nmX8 hown hK hP hD hS 0 rfl rfl 6 (by decide) (w_RX8_140) (fun _ h9 => h9) rfl (by decide +kernel) rfl rfl (Nat.le_of_ble_eq_true rfl) dX8_tally_256 (fun H locs hP hD hS => ?_)
                          have hP : va_P D vwCl [(h0, .inr (7, [.int m0, .int m1, .int m2, .int m3, .int m4, .ref m5, .int 3, .int m7, .int m8, .ref m9, .ref m10, .ref m11, .int m12, .ref m13, .ref m14, .ref m15, .ref m16, .int m17, .ref m18, .ref m19, .ref m20, .ref m21, .ref m22, .ref m23, .ref m24, .ref m25, .int m26, .int m27, .int m28, .int m29, .int m30, .int m31, .ref m32, .ref m33, .ref m34, .ref m35, .int m36, .ref m37, .int m38, .ref m39, .ref m40, .ref m41, .ref m42, .ref m43])), (m34, .inl (cA 1, 6, .inl gvn)), (m35, .inl (cA 0, 240, .inl gvf)), (m14, .inl (cA 0, 200, .inl lbf)), (m37, .inl (cA 0, 11, .inl (cts (fun i => cfi (fun c => decide (pw m0 32 (c + 1) 1 4 = (fun i => tm m0 (sb i) (pw m0 32 (p0 - 2) 1 (jgf m0 (wts m1 q0 gvn la0 wf t0) (fun j => gft gvn gf m3 (nI j) (nI i)) t0))) i)) c0) ctf b0))), (m39, .inl (cA 0, 600, .inl kf)), (m40, .inl (cA 2, 600, .inr (.inl (fun i => (xf i).toInt64)))), (m41, .inl (cA 2, 600, .inr (.inl (fun i => (yf i).toInt64)))), (m42, .inl (cA 2, 600, .inr (.inl zf))), (m43, .inl (cA 2, 600, .inr (.inl cf)))] H := hP
                          have hD : va_D A [(h0, .inr (7, [.int m0, .int m1, .int m2, .int m3, .int m4, .ref m5, .int 3, .int m7, .int m8, .ref m9, .ref m10, .ref m11, .int m12, .ref m13, .ref m14, .ref m15, .ref m16, .int m17, .ref m18, .ref m19, .ref m20, .ref m21, .ref m22, .ref m23, .ref m24, .ref m25, .int m26, .int m27, .int m28, .int m29, .int m30, .int m31, .ref m32, .ref m33, .ref m34, .ref m35, .int m36, .ref m37, .int m38, .ref m39, .ref m40, .ref m41, .ref m42, .ref m43])), (m34, .inl (cA 1, 6, .inl gvn)), (m35, .inl (cA 0, 240, .inl gvf)), (m14, .inl (cA 0, 200, .inl lbf)), (m37, .inl (cA 0, 11, .inl (cts (fun i => cfi (fun c => decide (pw m0 32 (c + 1) 1 4 = (fun i => tm m0 (sb i) (pw m0 32 (p0 - 2) 1 (jgf m0 (wts m1 q0 gvn la0 wf t0) (fun j => gft gvn gf m3 (nI j) (nI i)) t0))) i)) c0) ctf b0))), (m39, .inl (cA 0, 600, .inl kf)), (m40, .inl (cA 2, 600, .inr (.inl (fun i => (xf i).toInt64)))), (m41, .inl (cA 2, 600, .inr (.inl (fun i => (yf i).toInt64)))), (m42, .inl (cA 2, 600, .inr (.inl zf))), (m43, .inl (cA 2, 600, .inr (.inl cf)))] := hD
                          refine lv_lconst (v := 0) hx hb dX8_tally_259 (by decide) ?_
                          refine lv_lstore (lv' := [(4, .long 0), (0, .ref h0), (1, .int (nI la0)), (3, .int ((cts (fun i => cfi (fun c => decide (pw m0 32 (c + 1) 1 4 = (fun i => tm m0 (sb i) (pw m0 32 (p0 - 2) 1 (jgf m0 (wts m1 q0 gvn la0 wf t0) (fun j => gft gvn gf m3 (nI j) (nI i)) t0))) i)) c0) ctf b0) c0))]) hx hb dX8_tally_260 hl (by decide) rfl (fun ls hl => ?_)
                          refine lv_iconst (v := 0) hx hb dX8_tally_262 (by decide) ?_
                          refine lv_istore (lv' := [(6, .int 0), (4, .long 0), (0, .ref h0), (1, .int (nI la0)), (3, .int ((cts (fun i => cfi (fun c => decide (pw m0 32 (c + 1) 1 4 = (fun i => tm m0 (sb i) (pw m0 32 (p0 - 2) 1 (jgf m0 (wts m1 q0 gvn la0 wf t0) (fun j => gft gvn gf m3 (nI j) (nI i)) t0))) i)) c0) ctf b0) c0))]) hx hb dX8_tally_263 hl (by decide) rfl (fun ls hl => ?_)
                          have loop265 : ∀ (f_ c6 : Nat) (z6 : Int32) (d6 : Int64), z6 = nI c6 → c0 + 1 ≤ c6 + f_ → c6 ≤ c0 → d6 = (dg1 (cts (fun i => cfi (fun c => decide (pw m0 32 (c + 1) 1 4 = (fun i => tm m0 (sb i) (pw m0 32 (p0 - 2) 1 (jgf m0 (wts m1 q0 gvn la0 wf t0) (fun j => gft gvn gf m3 (nI j) (nI i)) t0))) i)) c0) ctf b0) c6) → ∀ ls : Array Slot, lv_has ls 8 [(0, .ref h0), (3, .int ((cts (fun i => cfi (fun c => decide (pw m0 32 (c + 1) 1 4 = (fun i => tm m0 (sb i) (pw m0 32 (p0 - 2) 1 (jgf m0 (wts m1 q0 gvn la0 wf t0) (fun j => gft gvn gf m3 (nI j) (nI i)) t0))) i)) c0) ctf b0) c0)), (4, .long d6), (6, .int z6)] → W p l e (headSpec wsX8_tally ({ frames := 3, cells := 0, slots := 0, locals := 68 })).room s m [.ref h0].toArray below meth c H locs 0 0 (MQ below (wq_x vwCl D [(h0, .inr (7, [.int m0, .int m1, .int m2, .int m3, .int m4, .ref m5, .int 3, .int m7, .int m8, .ref m9, .ref m10, .ref m11, .int m12, .ref m13, .ref m14, .ref m15, .ref m16, .int m17, .ref m18, .ref m19, .ref m20, .ref m21, .ref m22, .ref m23, .ref m24, .ref m25, .int m26, .int m27, .int m28, .int m29, .int m30, .int m31, .ref m32, .ref m33, .ref m34, .ref m35, .int m36, .ref m37, .int (m38 + 1), .ref m39, .ref m40, .ref m41, .ref m42, .ref m43])), (m34, .inl (cA 1, 6, .inl gvn)), (m35, .inl (cA 0, 240, .inl gvf)), (m14, .inl (cA 0, 200, .inl lbf)), (m37, .inl (cA 0, 11, .inl (cts (fun i => cfi (fun c => decide (pw m0 32 (c + 1) 1 4 = (fun i => tm m0 (sb i) (pw m0 32 (p0 - 2) 1 (jgf m0 (wts m1 q0 gvn la0 wf t0) (fun j => gft gvn gf m3 (nI j) (nI i)) t0))) i)) c0) ctf b0))), (m39, .inl (cA 0, 600, .inl (upd kf m38.toNatClampNeg 8))), (m40, .inl (cA 2, 600, .inr (.inl (fun i => ((upd xf m38.toNatClampNeg (m12 - ((cts (fun i => cfi (fun c => decide (pw m0 32 (c + 1) 1 4 = (fun i => tm m0 (sb i) (pw m0 32 (p0 - 2) 1 (jgf m0 (wts m1 q0 gvn la0 wf t0) (fun j => gft gvn gf m3 (nI j) (nI i)) t0))) i)) c0) ctf b0) c0))) i).toInt64)))), (m41, .inl (cA 2, 600, .inr (.inl (fun i => ((upd yf m38.toNatClampNeg ((cts (fun i => cfi (fun c => decide (pw m0 32 (c + 1) 1 4 = (fun i => tm m0 (sb i) (pw m0 32 (p0 - 2) 1 (jgf m0 (wts m1 q0 gvn la0 wf t0) (fun j => gft gvn gf m3 (nI j) (nI i)) t0))) i)) c0) ctf b0) c0)) i).toInt64)))), (m42, .inl (cA 2, 600, .inr (.inl (vp_updL zf m38.toNatClampNeg (dg1 (cts (fun i => cfi (fun c => decide (pw m0 32 (c + 1) 1 4 = (fun i => tm m0 (sb i) (pw m0 32 (p0 - 2) 1 (jgf m0 (wts m1 q0 gvn la0 wf t0) (fun j => gft gvn gf m3 (nI j) (nI i)) t0))) i)) c0) ctf b0) c0))))), (m43, .inl (cA 2, 600, .inr (.inl (vp_updL cf m38.toNatClampNeg (dg (dg (dg (dg (cho cf m38 (m38 - 1)) ((8 : Int32).toInt64)) ((m12 - ((cts (fun i => cfi (fun c => decide (pw m0 32 (c + 1) 1 4 = (fun i => tm m0 (sb i) (pw m0 32 (p0 - 2) 1 (jgf m0 (wts m1 q0 gvn la0 wf t0) (fun j => gft gvn gf m3 (nI j) (nI i)) t0))) i)) c0) ctf b0) c0)).toInt64)) (((cts (fun i => cfi (fun c => decide (pw m0 32 (c + 1) 1 4 = (fun i => tm m0 (sb i) (pw m0 32 (p0 - 2) 1 (jgf m0 (wts m1 q0 gvn la0 wf t0) (fun j => gft gvn gf m3 (nI j) (nI i)) t0))) i)) c0) ctf b0) c0).toInt64)) (dg1 (cts (fun i => cfi (fun c => decide (pw m0 32 (c + 1) 1 4 = (fun i => tm m0 (sb i) (pw m0 32 (p0 - 2) 1 (jgf m0 (wts m1 q0 gvn la0 wf t0) (fun j => gft gvn gf m3 (nI j) (nI i)) t0))) i)) c0) ctf b0) c0))))))] (some (.int (m12 - ((cts (fun i => cfi (fun c => decide (pw m0 32 (c + 1) 1 4 = (fun i => tm m0 (sb i) (pw m0 32 (p0 - 2) 1 (jgf m0 (wts m1 q0 gvn la0 wf t0) (fun j => gft gvn gf m3 (nI j) (nI i)) t0))) i)) c0) ctf b0) c0)))) A) [.ref h0].toArray s 0 0 A) (F0 m 265 ls []) := by
                            intro f
                            induction f with
                            | zero =>
                              intro c6 z6 d6 hz6 k5 k6
                              omega
                            | succ f ih =>
                              intro c6 z6 d6 hz6 k5 k6 hd6 ls hl
                              refine lv_iload hx hb dX8_tally_265 (lv_at hl 3 rfl) ?_
                              refine lv_aload_n hx hb dX8_tally_267 rfl (lv_at hl 0 rfl) ?_
                              refine va_get (D := D) (ci := 7) (v := .int m2) (C := RX8) (T := TX8) (N := 44) hx hb hts hin_X8 hown hK hP 0 rfl rfl 2 (by decide) (w_RX8_106) (fun _ h9 => h9) rfl dX8_tally_268 ?_
                              refine lv_icmp_ge (tgt := 295) hx hb dX8_tally_271 (by decide) (fun c_271 => ?_) (fun c_271 => ?_)
                              · skip
                                have hke := (lp_end hz6 hca (by omega) k6 c_271).symm
                                subst hke
                                subst hd6
                                refine lv_aload_n hx hb dX8_tally_295 rfl (lv_at hl 0 rfl) ?_
                                refine lv_bipush (v := 8) hx hb dX8_tally_296 (by decide) ?_
                                refine lv_aload_n hx hb dX8_tally_298 rfl (lv_at hl 0 rfl) ?_
                                refine va_get (D := D) (ci := 7) (v := .int m12) (C := RX8) (T := TX8) (N := 44) hx hb hts hin_X8 hown hK hP 0 rfl rfl 12 (by decide) (w_RX8_170) (fun _ h9 => h9) rfl dX8_tally_299 ?_
                                refine lv_iload_n hx hb dX8_tally_302 rfl (lv_at hl 1 rfl) ?_
                                refine lv_isub hx hb dX8_tally_303 ?_
                                refine lv_i2l hx hb dX8_tally_304 rfl ?_
                                refine lv_iload_n hx hb dX8_tally_305 rfl (lv_at hl 1 rfl) ?_
                                refine lv_i2l hx hb dX8_tally_306 rfl ?_
                                refine lv_lload hx hb dX8_tally_307 (lv_at hl 2 rfl) ?_
                                refine wl_call1 (v := .long (dg (dg (dg (dg (cho cf m38 (m38 - 1)) ((8 : Int32).toInt64)) ((m12 - ((cts (fun i => cfi (fun c => decide (pw m0 32 (c + 1) 1 4 = (fun i => tm m0 (sb i) (pw m0 32 (p0 - 2) 1 (jgf m0 (wts m1 q0 gvn la0 wf t0) (fun j => gft gvn gf m3 (nI j) (nI i)) t0))) i)) c0) ctf b0) c0)).toInt64)) (((cts (fun i => cfi (fun c => decide (pw m0 32 (c + 1) 1 4 = (fun i => tm m0 (sb i) (pw m0 32 (p0 - 2) 1 (jgf m0 (wts m1 q0 gvn la0 wf t0) (fun j => gft gvn gf m3 (nI j) (nI i)) t0))) i)) c0) ctf b0) c0).toInt64)) (dg1 (cts (fun i => cfi (fun c => decide (pw m0 32 (c + 1) 1 4 = (fun i => tm m0 (sb i) (pw m0 32 (p0 - 2) 1 (jgf m0 (wts m1 q0 gvn la0 wf t0) (fun j => gft gvn gf m3 (nI j) (nI i)) t0))) i)) c0) ctf b0) c0))) (wc := [(h0, .inr (7, [.int m0, .int m1, .int m2, .int m3, .int m4, .ref m5, .int 3, .int m7, .int m8, .ref m9, .ref m10, .ref m11, .int m12, .ref m13, .ref m14, .ref m15, .ref m16, .int m17, .ref m18, .ref m19, .ref m20, .ref m21, .ref m22, .ref m23, .ref m24, .ref m25, .int m26, .int m27, .int m28, .int m29, .int m30, .int m31, .ref m32, .ref m33, .ref m34, .ref m35, .int m36, .ref m37, .int m38, .ref m39, .ref m40, .ref m41, .ref m42, .ref m43])), (m39, .inl (cA 0, 600, .inl kf)), (m40, .inl (cA 2, 600, .inr (.inl (fun i => (xf i).toInt64)))), (m41, .inl (cA 2, 600, .inr (.inl (fun i => (yf i).toInt64)))), (m42, .inl (cA 2, 600, .inr (.inl zf))), (m43, .inl (cA 2, 600, .inr (.inl cf)))]) (w1 := [(h0, .inr (7, [.int m0, .int m1, .int m2, .int m3, .int m4, .ref m5, .int 3, .int m7, .int m8, .ref m9, .ref m10, .ref m11, .int m12, .ref m13, .ref m14, .ref m15, .ref m16, .int m17, .ref m18, .ref m19, .ref m20, .ref m21, .ref m22, .ref m23, .ref m24, .ref m25, .int m26, .int m27, .int m28, .int m29, .int m30, .int m31, .ref m32, .ref m33, .ref m34, .ref m35, .int m36, .ref m37, .int (m38 + 1), .ref m39, .ref m40, .ref m41, .ref m42, .ref m43])), (m39, .inl (cA 0, 600, .inl (upd kf m38.toNatClampNeg 8))), (m40, .inl (cA 2, 600, .inr (.inl (fun i => ((upd xf m38.toNatClampNeg (m12 - ((cts (fun i => cfi (fun c => decide (pw m0 32 (c + 1) 1 4 = (fun i => tm m0 (sb i) (pw m0 32 (p0 - 2) 1 (jgf m0 (wts m1 q0 gvn la0 wf t0) (fun j => gft gvn gf m3 (nI j) (nI i)) t0))) i)) c0) ctf b0) c0))) i).toInt64)))), (m41, .inl (cA 2, 600, .inr (.inl (fun i => ((upd yf m38.toNatClampNeg ((cts (fun i => cfi (fun c => decide (pw m0 32 (c + 1) 1 4 = (fun i => tm m0 (sb i) (pw m0 32 (p0 - 2) 1 (jgf m0 (wts m1 q0 gvn la0 wf t0) (fun j => gft gvn gf m3 (nI j) (nI i)) t0))) i)) c0) ctf b0) c0)) i).toInt64)))), (m42, .inl (cA 2, 600, .inr (.inl (vp_updL zf m38.toNatClampNeg (dg1 (cts (fun i => cfi (fun c => decide (pw m0 32 (c + 1) 1 4 = (fun i => tm m0 (sb i) (pw m0 32 (p0 - 2) 1 (jgf m0 (wts m1 q0 gvn la0 wf t0) (fun j => gft gvn gf m3 (nI j) (nI i)) t0))) i)) c0) ctf b0) c0))))), (m43, .inl (cA 2, 600, .inr (.inl (vp_updL cf m38.toNatClampNeg (dg (dg (dg (dg (cho cf m38 (m38 - 1)) ((8 : Int32).toInt64)) ((m12 - ((cts (fun i => cfi (fun c => decide (pw m0 32 (c + 1) 1 4 = (fun i => tm m0 (sb i) (pw m0 32 (p0 - 2) 1 (jgf m0 (wts m1 q0 gvn la0 wf t0) (fun j => gft gvn gf m3 (nI j) (nI i)) t0))) i)) c0) ctf b0) c0)).toInt64)) (((cts (fun i => cfi (fun c => decide (pw m0 32 (c + 1) 1 4 = (fun i => tm m0 (sb i) (pw m0 32 (p0 - 2) 1 (jgf m0 (wts m1 q0 gvn la0 wf t0) (fun j => gft gvn gf m3 (nI j) (nI i)) t0))) i)) c0) ctf b0) c0).toInt64)) (dg1 (cts (fun i => cfi (fun c => decide (pw m0 32 (c + 1) 1 4 = (fun i => tm m0 (sb i) (pw m0 32 (p0 - 2) 1 (jgf m0 (wts m1 q0 gvn la0 wf t0) (fun j => gft gvn gf m3 (nI j) (nI i)) t0))) i)) c0) ctf b0) c0))))))]) (ws' := [(h0, .inr (7, [.int m0, .int m1, .int m2, .int m3, .int m4, .ref m5, .int 3, .int m7, .int m8, .ref m9, .ref m10, .ref m11, .int m12, .ref m13, .ref m14, .ref m15, .ref m16, .int m17, .ref m18, .ref m19, .ref m20, .ref m21, .ref m22, .ref m23, .ref m24, .ref m25, .int m26, .int m27, .int m28, .int m29, .int m30, .int m31, .ref m32, .ref m33, .ref m34, .ref m35, .int m36, .ref m37, .int (m38 + 1), .ref m39, .ref m40, .ref m41, .ref m42, .ref m43])), (m34, .inl (cA 1, 6, .inl gvn)), (m35, .inl (cA 0, 240, .inl gvf)), (m14, .inl (cA 0, 200, .inl lbf)), (m37, .inl (cA 0, 11, .inl (cts (fun i => cfi (fun c => decide (pw m0 32 (c + 1) 1 4 = (fun i => tm m0 (sb i) (pw m0 32 (p0 - 2) 1 (jgf m0 (wts m1 q0 gvn la0 wf t0) (fun j => gft gvn gf m3 (nI j) (nI i)) t0))) i)) c0) ctf b0))), (m39, .inl (cA 0, 600, .inl (upd kf m38.toNatClampNeg 8))), (m40, .inl (cA 2, 600, .inr (.inl (fun i => ((upd xf m38.toNatClampNeg (m12 - ((cts (fun i => cfi (fun c => decide (pw m0 32 (c + 1) 1 4 = (fun i => tm m0 (sb i) (pw m0 32 (p0 - 2) 1 (jgf m0 (wts m1 q0 gvn la0 wf t0) (fun j => gft gvn gf m3 (nI j) (nI i)) t0))) i)) c0) ctf b0) c0))) i).toInt64)))), (m41, .inl (cA 2, 600, .inr (.inl (fun i => ((upd yf m38.toNatClampNeg ((cts (fun i => cfi (fun c => decide (pw m0 32 (c + 1) 1 4 = (fun i => tm m0 (sb i) (pw m0 32 (p0 - 2) 1 (jgf m0 (wts m1 q0 gvn la0 wf t0) (fun j => gft gvn gf m3 (nI j) (nI i)) t0))) i)) c0) ctf b0) c0)) i).toInt64)))), (m42, .inl (cA 2, 600, .inr (.inl (vp_updL zf m38.toNatClampNeg (dg1 (cts (fun i => cfi (fun c => decide (pw m0 32 (c + 1) 1 4 = (fun i => tm m0 (sb i) (pw m0 32 (p0 - 2) 1 (jgf m0 (wts m1 q0 gvn la0 wf t0) (fun j => gft gvn gf m3 (nI j) (nI i)) t0))) i)) c0) ctf b0) c0))))), (m43, .inl (cA 2, 600, .inr (.inl (vp_updL cf m38.toNatClampNeg (dg (dg (dg (dg (cho cf m38 (m38 - 1)) ((8 : Int32).toInt64)) ((m12 - ((cts (fun i => cfi (fun c => decide (pw m0 32 (c + 1) 1 4 = (fun i => tm m0 (sb i) (pw m0 32 (p0 - 2) 1 (jgf m0 (wts m1 q0 gvn la0 wf t0) (fun j => gft gvn gf m3 (nI j) (nI i)) t0))) i)) c0) ctf b0) c0)).toInt64)) (((cts (fun i => cfi (fun c => decide (pw m0 32 (c + 1) 1 4 = (fun i => tm m0 (sb i) (pw m0 32 (p0 - 2) 1 (jgf m0 (wts m1 q0 gvn la0 wf t0) (fun j => gft gvn gf m3 (nI j) (nI i)) t0))) i)) c0) ctf b0) c0).toInt64)) (dg1 (cts (fun i => cfi (fun c => decide (pw m0 32 (c + 1) 1 4 = (fun i => tm m0 (sb i) (pw m0 32 (p0 - 2) 1 (jgf m0 (wts m1 q0 gvn la0 wf t0) (fun j => gft gvn gf m3 (nI j) (nI i)) t0))) i)) c0) ctf b0) c0))))))]) (wn_V (As := [.int 8, .long (m12 - ((cts (fun i => cfi (fun c => decide (pw m0 32 (c + 1) 1 4 = (fun i => tm m0 (sb i) (pw m0 32 (p0 - 2) 1 (jgf m0 (wts m1 q0 gvn la0 wf t0) (fun j => gft gvn gf m3 (nI j) (nI i)) t0))) i)) c0) ctf b0) c0)).toInt64, .long ((cts (fun i => cfi (fun c => decide (pw m0 32 (c + 1) 1 4 = (fun i => tm m0 (sb i) (pw m0 32 (p0 - 2) 1 (jgf m0 (wts m1 q0 gvn la0 wf t0) (fun j => gft gvn gf m3 (nI j) (nI i)) t0))) i)) c0) ctf b0) c0).toInt64, .long (dg1 (cts (fun i => cfi (fun c => decide (pw m0 32 (c + 1) 1 4 = (fun i => tm m0 (sb i) (pw m0 32 (p0 - 2) 1 (jgf m0 (wts m1 q0 gvn la0 wf t0) (fun j => gft gvn gf m3 (nI j) (nI i)) t0))) i)) c0) ctf b0) c0)]) (rest := []) (ci := 7) (fs := [.int m0, .int m1, .int m2, .int m3, .int m4, .ref m5, .int 3, .int m7, .int m8, .ref m9, .ref m10, .ref m11, .int m12, .ref m13, .ref m14, .ref m15, .ref m16, .int m17, .ref m18, .ref m19, .ref m20, .ref m21, .ref m22, .ref m23, .ref m24, .ref m25, .int m26, .int m27, .int m28, .int m29, .int m30, .int m31, .ref m32, .ref m33, .ref m34, .ref m35, .int m36, .ref m37, .int m38, .ref m39, .ref m40, .ref m41, .ref m42, .ref m43]) ⟨hx, hb, hml, hown, hts⟩ (c_X8_enter l D cA h0 m0 m1 m2 m3 m4 m5 3 m7 m8 m9 m10 m11 m12 m13 m14 m15 m16 m17 m18 m19 m20 m21 m22 m23 m24 m25 m26 m27 m28 m29 m30 m31 m32 m33 m34 m35 m36 m37 m38 m39 m40 m41 m42 m43 kf xf yf zf cf 8 (m12 - ((cts (fun i => cfi (fun c => decide (pw m0 32 (c + 1) 1 4 = (fun i => tm m0 (sb i) (pw m0 32 (p0 - 2) 1 (jgf m0 (wts m1 q0 gvn la0 wf t0) (fun j => gft gvn gf m3 (nI j) (nI i)) t0))) i)) c0) ctf b0) c0)) ((cts (fun i => cfi (fun c => decide (pw m0 32 (c + 1) 1 4 = (fun i => tm m0 (sb i) (pw m0 32 (p0 - 2) 1 (jgf m0 (wts m1 q0 gvn la0 wf t0) (fun j => gft gvn gf m3 (nI j) (nI i)) t0))) i)) c0) ctf b0) c0) (dg1 (cts (fun i => cfi (fun c => decide (pw m0 32 (c + 1) 1 4 = (fun i => tm m0 (sb i) (pw m0 32 (p0 - 2) 1 (jgf m0 (wts m1 q0 gvn la0 wf t0) (fun j => gft gvn gf m3 (nI j) (nI i)) t0))) i)) c0) ctf b0) c0) n0 hbn h6) rfl (cwV 4 hts gX8_tally_X8_enter rfl rfl rfl (by decide +kernel) ⟨Nat.le_of_ble_eq_true rfl, Nat.le_of_ble_eq_true rfl⟩) hK hP hD [0, 5, 6, 7, 8, 9] rfl (by decide) rfl rfl rfl hl.1 rfl (Nat.le_of_ble_eq_true rfl) dX8_tally_309 ⟨Nat.le_of_ble_eq_true rfl, Nat.le_of_ble_eq_true rfl⟩) hP hD hS [0, 5, 6, 7, 8, 9] [1, 2, 3, 4] rfl rfl (wr := [(m34, .inl (cA 1, 6, .inl gvn)), (m35, .inl (cA 0, 240, .inl gvf)), (m14, .inl (cA 0, 200, .inl lbf)), (m37, .inl (cA 0, 11, .inl (cts (fun i => cfi (fun c => decide (pw m0 32 (c + 1) 1 4 = (fun i => tm m0 (sb i) (pw m0 32 (p0 - 2) 1 (jgf m0 (wts m1 q0 gvn la0 wf t0) (fun j => gft gvn gf m3 (nI j) (nI i)) t0))) i)) c0) ctf b0)))]) rfl rfl (ads := [h0, m34, m35, m14, m37, m39, m40, m41, m42, m43]) rfl rfl (adc := [h0, m39, m40, m41, m42, m43]) rfl rfl rfl (fun H locs hP hD hS => ?_)
                                refine lv_lstore (lv' := [(6, .long (dg (dg (dg (dg (cho cf m38 (m38 - 1)) ((8 : Int32).toInt64)) ((m12 - ((cts (fun i => cfi (fun c => decide (pw m0 32 (c + 1) 1 4 = (fun i => tm m0 (sb i) (pw m0 32 (p0 - 2) 1 (jgf m0 (wts m1 q0 gvn la0 wf t0) (fun j => gft gvn gf m3 (nI j) (nI i)) t0))) i)) c0) ctf b0) c0)).toInt64)) (((cts (fun i => cfi (fun c => decide (pw m0 32 (c + 1) 1 4 = (fun i => tm m0 (sb i) (pw m0 32 (p0 - 2) 1 (jgf m0 (wts m1 q0 gvn la0 wf t0) (fun j => gft gvn gf m3 (nI j) (nI i)) t0))) i)) c0) ctf b0) c0).toInt64)) (dg1 (cts (fun i => cfi (fun c => decide (pw m0 32 (c + 1) 1 4 = (fun i => tm m0 (sb i) (pw m0 32 (p0 - 2) 1 (jgf m0 (wts m1 q0 gvn la0 wf t0) (fun j => gft gvn gf m3 (nI j) (nI i)) t0))) i)) c0) ctf b0) c0))), (0, .ref h0), (3, .int ((cts (fun i => cfi (fun c => decide (pw m0 32 (c + 1) 1 4 = (fun i => tm m0 (sb i) (pw m0 32 (p0 - 2) 1 (jgf m0 (wts m1 q0 gvn la0 wf t0) (fun j => gft gvn gf m3 (nI j) (nI i)) t0))) i)) c0) ctf b0) c0)), (4, .long (dg1 (cts (fun i => cfi (fun c => decide (pw m0 32 (c + 1) 1 4 = (fun i => tm m0 (sb i) (pw m0 32 (p0 - 2) 1 (jgf m0 (wts m1 q0 gvn la0 wf t0) (fun j => gft gvn gf m3 (nI j) (nI i)) t0))) i)) c0) ctf b0) c0))]) hx hb dX8_tally_312 hl (by decide) rfl (fun ls hl => ?_)
                                refine lv_aload_n hx hb dX8_tally_314 rfl (lv_at hl 1 rfl) ?_
                                refine va_get (D := D) (ci := 7) (v := .int m12) (C := RX8) (T := TX8) (N := 44) hx hb hts hin_X8 hown hK hP 0 rfl rfl 12 (by decide) (w_RX8_170) (fun _ h9 => h9) rfl dX8_tally_315 ?_
                                refine lv_iload_n hx hb dX8_tally_318 rfl (lv_at hl 2 rfl) ?_
                                refine lv_isub hx hb dX8_tally_319 ?_
                                have hP9 : va_P D vwCl [(h0, .inr (7, [.int m0, .int m1, .int m2, .int m3, .int m4, .ref m5, .int 3, .int m7, .int m8, .ref m9, .ref m10, .ref m11, .int m12, .ref m13, .ref m14, .ref m15, .ref m16, .int m17, .ref m18, .ref m19, .ref m20, .ref m21, .ref m22, .ref m23, .ref m24, .ref m25, .int m26, .int m27, .int m28, .int m29, .int m30, .int m31, .ref m32, .ref m33, .ref m34, .ref m35, .int m36, .ref m37, .int (m38 + 1), .ref m39, .ref m40, .ref m41, .ref m42, .ref m43])), (m34, .inl (cA 1, 6, .inl gvn)), (m35, .inl (cA 0, 240, .inl gvf)), (m14, .inl (cA 0, 200, .inl lbf)), (m37, .inl (cA 0, 11, .inl (cts (fun i => cfi (fun c => decide (pw m0 32 (c + 1) 1 4 = (fun i => tm m0 (sb i) (pw m0 32 (p0 - 2) 1 (jgf m0 (wts m1 q0 gvn la0 wf t0) (fun j => gft gvn gf m3 (nI j) (nI i)) t0))) i)) c0) ctf b0))), (m39, .inl (cA 0, 600, .inl (upd kf m38.toNatClampNeg 8))), (m40, .inl (cA 2, 600, .inr (.inl (fun i => ((upd xf m38.toNatClampNeg (m12 - ((cts (fun i => cfi (fun c => decide (pw m0 32 (c + 1) 1 4 = (fun i => tm m0 (sb i) (pw m0 32 (p0 - 2) 1 (jgf m0 (wts m1 q0 gvn la0 wf t0) (fun j => gft gvn gf m3 (nI j) (nI i)) t0))) i)) c0) ctf b0) c0))) i).toInt64)))), (m41, .inl (cA 2, 600, .inr (.inl (fun i => ((upd yf m38.toNatClampNeg ((cts (fun i => cfi (fun c => decide (pw m0 32 (c + 1) 1 4 = (fun i => tm m0 (sb i) (pw m0 32 (p0 - 2) 1 (jgf m0 (wts m1 q0 gvn la0 wf t0) (fun j => gft gvn gf m3 (nI j) (nI i)) t0))) i)) c0) ctf b0) c0)) i).toInt64)))), (m42, .inl (cA 2, 600, .inr (.inl (vp_updL zf m38.toNatClampNeg (dg1 (cts (fun i => cfi (fun c => decide (pw m0 32 (c + 1) 1 4 = (fun i => tm m0 (sb i) (pw m0 32 (p0 - 2) 1 (jgf m0 (wts m1 q0 gvn la0 wf t0) (fun j => gft gvn gf m3 (nI j) (nI i)) t0))) i)) c0) ctf b0) c0))))), (m43, .inl (cA 2, 600, .inr (.inl (vp_updL cf m38.toNatClampNeg (dg (dg (dg (dg (cho cf m38 (m38 - 1)) ((8 : Int32).toInt64)) ((m12 - ((cts (fun i => cfi (fun c => decide (pw m0 32 (c + 1) 1 4 = (fun i => tm m0 (sb i) (pw m0 32 (p0 - 2) 1 (jgf m0 (wts m1 q0 gvn la0 wf t0) (fun j => gft gvn gf m3 (nI j) (nI i)) t0))) i)) c0) ctf b0) c0)).toInt64)) (((cts (fun i => cfi (fun c => decide (pw m0 32 (c + 1) 1 4 = (fun i => tm m0 (sb i) (pw m0 32 (p0 - 2) 1 (jgf m0 (wts m1 q0 gvn la0 wf t0) (fun j => gft gvn gf m3 (nI j) (nI i)) t0))) i)) c0) ctf b0) c0).toInt64)) (dg1 (cts (fun i => cfi (fun c => decide (pw m0 32 (c + 1) 1 4 = (fun i => tm m0 (sb i) (pw m0 32 (p0 - 2) 1 (jgf m0 (wts m1 q0 gvn la0 wf t0) (fun j => gft gvn gf m3 (nI j) (nI i)) t0))) i)) c0) ctf b0) c0))))))] H := hP
                                exact W.iret (v := (m12 - ((cts (fun i => cfi (fun c => decide (pw m0 32 (c + 1) 1 4 = (fun i => tm m0 (sb i) (pw m0 32 (p0 - 2) 1 (jgf m0 (wts m1 q0 gvn la0 wf t0) (fun j => gft gvn gf m3 (nI j) (nI i)) t0))) i)) c0) ctf b0) c0))) hx hb hr (fun t ht hW => ⟨congrArg (fun z => Outcome.returned (some (Value.int z))) (rfl), by rw [ht]; exact hP9, hS.F ht⟩) hS.2.2 dX8_tally_320
                              · skip
                                refine lv_lload hx hb dX8_tally_274 (lv_at hl 2 rfl) ?_
                                refine lv_aload_n hx hb dX8_tally_276 rfl (lv_at hl 0 rfl) ?_
                                refine va_get (D := D) (ci := 7) (v := .ref m37) (C := RX8) (T := TX8) (N := 44) hx hb hts hin_X8 hown hK hP 0 rfl rfl 37 (by decide) (w_RX8_71) (fun _ h9 => h9) rfl dX8_tally_277 ?_
                                refine lv_iload hx hb dX8_tally_280 (lv_at hl 3 rfl) ?_
                                refine va_iald hx hb hK hP 4 0 rfl rfl (by rw [hz6]; exact vp_in_nI (by have := lp_lt hz6 hca (by omega) k6 c_271; omega) (by omega)) dX8_tally_282 ?_
                                refine lv_i2l hx hb dX8_tally_283 rfl ?_
                                refine rq_call1 (v := .long (dg d6 (((cts (fun i => cfi (fun c => decide (pw m0 32 (c + 1) 1 4 = (fun i => tm m0 (sb i) (pw m0 32 (p0 - 2) 1 (jgf m0 (wts m1 q0 gvn la0 wf t0) (fun j => gft gvn gf m3 (nI j) (nI i)) t0))) i)) c0) ctf b0) z6.toNatClampNeg).toInt64))) (rn_S (As := [.long d6, .long ((cts (fun i => cfi (fun c => decide (pw m0 32 (c + 1) 1 4 = (fun i => tm m0 (sb i) (pw m0 32 (p0 - 2) 1 (jgf m0 (wts m1 q0 gvn la0 wf t0) (fun j => gft gvn gf m3 (nI j) (nI i)) t0))) i)) c0) ctf b0) z6.toNatClampNeg).toInt64]) (rest := []) ⟨hx, hb, hml, hown, hts⟩ (c_X8_on l D cA d6 (((cts (fun i => cfi (fun c => decide (pw m0 32 (c + 1) 1 4 = (fun i => tm m0 (sb i) (pw m0 32 (p0 - 2) 1 (jgf m0 (wts m1 q0 gvn la0 wf t0) (fun j => gft gvn gf m3 (nI j) (nI i)) t0))) i)) c0) ctf b0) z6.toNatClampNeg).toInt64)) (va_cwS 2 hts gX8_tally_X8_on rfl rfl rfl (by decide +kernel) ⟨Nat.le_of_ble_eq_true rfl, Nat.le_of_ble_eq_true rfl⟩) hK hP [] rfl rfl hl.1 rfl (Nat.le_of_ble_eq_true rfl) dX8_tally_284 ⟨Nat.le_of_ble_eq_true rfl, Nat.le_of_ble_eq_true rfl⟩) ?_
                                refine lv_lstore (lv' := [(4, .long (dg d6 (((cts (fun i => cfi (fun c => decide (pw m0 32 (c + 1) 1 4 = (fun i => tm m0 (sb i) (pw m0 32 (p0 - 2) 1 (jgf m0 (wts m1 q0 gvn la0 wf t0) (fun j => gft gvn gf m3 (nI j) (nI i)) t0))) i)) c0) ctf b0) z6.toNatClampNeg).toInt64))), (0, .ref h0), (3, .int ((cts (fun i => cfi (fun c => decide (pw m0 32 (c + 1) 1 4 = (fun i => tm m0 (sb i) (pw m0 32 (p0 - 2) 1 (jgf m0 (wts m1 q0 gvn la0 wf t0) (fun j => gft gvn gf m3 (nI j) (nI i)) t0))) i)) c0) ctf b0) c0)), (6, .int z6)]) hx hb dX8_tally_287 hl (by decide) rfl (fun ls hl => ?_)
                                refine lv_iinc (v := (z6 + 1)) (lv' := [(6, .int (z6 + 1)), (4, .long (dg d6 (((cts (fun i => cfi (fun c => decide (pw m0 32 (c + 1) 1 4 = (fun i => tm m0 (sb i) (pw m0 32 (p0 - 2) 1 (jgf m0 (wts m1 q0 gvn la0 wf t0) (fun j => gft gvn gf m3 (nI j) (nI i)) t0))) i)) c0) ctf b0) z6.toNatClampNeg).toInt64))), (0, .ref h0), (3, .int ((cts (fun i => cfi (fun c => decide (pw m0 32 (c + 1) 1 4 = (fun i => tm m0 (sb i) (pw m0 32 (p0 - 2) 1 (jgf m0 (wts m1 q0 gvn la0 wf t0) (fun j => gft gvn gf m3 (nI j) (nI i)) t0))) i)) c0) ctf b0) c0))]) hx hb dX8_tally_289 hl (k := 3) rfl rfl (by decide) rfl (fun ls hl => ?_)
                                refine lv_goto (tgt := 265) hx hb dX8_tally_292 (by decide) ?_
                                have hk6 := lp_lt hz6 hca (by omega) k6 c_271
                                exact ih (c6 + 1) (z6 + 1) _ (st_1 hz6) (by omega) (by omega) (by rw [hd6, i8_k hz6 (by omega)]; rfl) ls (lv_sub hl [2, 3, 1, 0] rfl)
                          exact loop265 (c0 + 1) 0 0 0 rfl (by omega) (by omega) rfl ls (lv_sub hl [2, 4, 1, 0] rfl)
                        · skip
                          refine lv_iconst (v := 1) hx hb dX8_tally_98 (by decide) ?_
                          refine lv_istore (lv' := [(5, .int 1), (0, .ref h0), (1, .int (nI la0)), (3, .int w), (4, .int z)]) hx hb dX8_tally_99 hl (by decide) rfl (fun ls hl => ?_)
                          refine lv_iconst (v := 1) hx hb dX8_tally_101 (by decide) ?_
                          refine lv_istore (lv' := [(6, .int 1), (5, .int 1), (0, .ref h0), (1, .int (nI la0)), (3, .int w), (4, .int z)]) hx hb dX8_tally_102 hl (by decide) rfl (fun ls hl => ?_)
                          have loop104 : ∀ (f_ i : Nat) (y sv : Int32), y = nI (i + 1) → la0 + 1 ≤ i + f_ → i ≤ la0 → sv = (jgf m0 (wts m1 q0 gvn la0 wf t0) (fun j => gft gvn gf m3 (nI j) (nI k)) i) → rng m0 sv → ∀ ls : Array Slot, lv_has ls 8 [(0, .ref h0), (1, .int (nI la0)), (3, .int w), (4, .int z), (5, .int sv), (6, .int y)] → W p l e (headSpec wsX8_tally ({ frames := 3, cells := 0, slots := 0, locals := 68 })).room s m [.ref h0].toArray below meth c H locs 0 0 (MQ below (wq_x vwCl D [(h0, .inr (7, [.int m0, .int m1, .int m2, .int m3, .int m4, .ref m5, .int 3, .int m7, .int m8, .ref m9, .ref m10, .ref m11, .int m12, .ref m13, .ref m14, .ref m15, .ref m16, .int m17, .ref m18, .ref m19, .ref m20, .ref m21, .ref m22, .ref m23, .ref m24, .ref m25, .int m26, .int m27, .int m28, .int m29, .int m30, .int m31, .ref m32, .ref m33, .ref m34, .ref m35, .int m36, .ref m37, .int (m38 + 1), .ref m39, .ref m40, .ref m41, .ref m42, .ref m43])), (m34, .inl (cA 1, 6, .inl gvn)), (m35, .inl (cA 0, 240, .inl gvf)), (m14, .inl (cA 0, 200, .inl lbf)), (m37, .inl (cA 0, 11, .inl (cts (fun i => cfi (fun c => decide (pw m0 32 (c + 1) 1 4 = (fun i => tm m0 (sb i) (pw m0 32 (p0 - 2) 1 (jgf m0 (wts m1 q0 gvn la0 wf t0) (fun j => gft gvn gf m3 (nI j) (nI i)) t0))) i)) c0) ctf b0))), (m39, .inl (cA 0, 600, .inl (upd kf m38.toNatClampNeg 8))), (m40, .inl (cA 2, 600, .inr (.inl (fun i => ((upd xf m38.toNatClampNeg (m12 - ((cts (fun i => cfi (fun c => decide (pw m0 32 (c + 1) 1 4 = (fun i => tm m0 (sb i) (pw m0 32 (p0 - 2) 1 (jgf m0 (wts m1 q0 gvn la0 wf t0) (fun j => gft gvn gf m3 (nI j) (nI i)) t0))) i)) c0) ctf b0) c0))) i).toInt64)))), (m41, .inl (cA 2, 600, .inr (.inl (fun i => ((upd yf m38.toNatClampNeg ((cts (fun i => cfi (fun c => decide (pw m0 32 (c + 1) 1 4 = (fun i => tm m0 (sb i) (pw m0 32 (p0 - 2) 1 (jgf m0 (wts m1 q0 gvn la0 wf t0) (fun j => gft gvn gf m3 (nI j) (nI i)) t0))) i)) c0) ctf b0) c0)) i).toInt64)))), (m42, .inl (cA 2, 600, .inr (.inl (vp_updL zf m38.toNatClampNeg (dg1 (cts (fun i => cfi (fun c => decide (pw m0 32 (c + 1) 1 4 = (fun i => tm m0 (sb i) (pw m0 32 (p0 - 2) 1 (jgf m0 (wts m1 q0 gvn la0 wf t0) (fun j => gft gvn gf m3 (nI j) (nI i)) t0))) i)) c0) ctf b0) c0))))), (m43, .inl (cA 2, 600, .inr (.inl (vp_updL cf m38.toNatClampNeg (dg (dg (dg (dg (cho cf m38 (m38 - 1)) ((8 : Int32).toInt64)) ((m12 - ((cts (fun i => cfi (fun c => decide (pw m0 32 (c + 1) 1 4 = (fun i => tm m0 (sb i) (pw m0 32 (p0 - 2) 1 (jgf m0 (wts m1 q0 gvn la0 wf t0) (fun j => gft gvn gf m3 (nI j) (nI i)) t0))) i)) c0) ctf b0) c0)).toInt64)) (((cts (fun i => cfi (fun c => decide (pw m0 32 (c + 1) 1 4 = (fun i => tm m0 (sb i) (pw m0 32 (p0 - 2) 1 (jgf m0 (wts m1 q0 gvn la0 wf t0) (fun j => gft gvn gf m3 (nI j) (nI i)) t0))) i)) c0) ctf b0) c0).toInt64)) (dg1 (cts (fun i => cfi (fun c => decide (pw m0 32 (c + 1) 1 4 = (fun i => tm m0 (sb i) (pw m0 32 (p0 - 2) 1 (jgf m0 (wts m1 q0 gvn la0 wf t0) (fun j => gft gvn gf m3 (nI j) (nI i)) t0))) i)) c0) ctf b0) c0))))))] (some (.int (m12 - ((cts (fun i => cfi (fun c => decide (pw m0 32 (c + 1) 1 4 = (fun i => tm m0 (sb i) (pw m0 32 (p0 - 2) 1 (jgf m0 (wts m1 q0 gvn la0 wf t0) (fun j => gft gvn gf m3 (nI j) (nI i)) t0))) i)) c0) ctf b0) c0)))) A) [.ref h0].toArray s 0 0 A) (F0 m 104 ls []) := by
                            intro f2
                            induction f2 with
                            | zero =>
                              intro i y sv hy j1 j2
                              omega
                            | succ f2 ih2 =>
                              intro i y sv hy j1 j2 hs hsr ls hl
                              refine lv_iload hx hb dX8_tally_104 (lv_at hl 5 rfl) ?_
                              refine lv_iload_n hx hb dX8_tally_106 rfl (lv_at hl 1 rfl) ?_
                              refine lv_icmp_gt (tgt := 158) hx hb dX8_tally_107 (by decide) (fun c_107 => ?_) (fun c_107 => ?_)
                              · skip
                                have hke := (ja_end hy (by omega) (by omega) c_107)
                                have hs : sv = (jgf m0 (wts m1 q0 gvn la0 wf t0) (fun j => gft gvn gf m3 (nI j) (nI k)) t0) := hs.trans (by rw [hke]; exact jg_la hL3)
                                clear hsr
                                subst hs
                                have hl := lv_sub hl [0, 1, 2, 3, 4] rfl
                                have hl : lv_has ls 8 [(0, .ref h0), (1, .int (nI la0)), (3, .int w), (4, .int z), (5, .int (jgf m0 (wts m1 q0 gvn la0 wf t0) (fun j => gft gvn gf m3 (nI j) (nI k)) t0))] := hl
                                refine lv_aload_n hx hb dX8_tally_158 rfl (lv_at hl 0 rfl) ?_
                                refine lv_aload_n hx hb dX8_tally_159 rfl (lv_at hl 0 rfl) ?_
                                refine va_get (D := D) (ci := 7) (v := .ref m14) (C := RX8) (T := TX8) (N := 44) hx hb hts hin_X8 hown hK hP 0 rfl rfl 14 (by decide) (w_RX8_26) (fun _ h9 => h9) rfl dX8_tally_160 ?_
                                refine lv_bipush (v := 40) hx hb dX8_tally_163 (by decide) ?_
                                refine lv_aload_n hx hb dX8_tally_165 rfl (lv_at hl 0 rfl) ?_
                                refine va_get (D := D) (ci := 7) (v := .int m26) (C := RX8) (T := TX8) (N := 44) hx hb hts hin_X8 hown hK hP 0 rfl rfl 26 (by decide) (w_RX8_191) (fun _ h9 => h9) rfl dX8_tally_166 ?_
                                refine lv_imul hx hb dX8_tally_169 ?_
                                refine lv_iload hx hb dX8_tally_170 (lv_at hl 3 rfl) ?_
                                refine lv_iadd hx hb dX8_tally_172 ?_
                                refine va_iald hx hb hK hP 3 0 rfl rfl (by rw [an_ix hmx hz]; exact vp_in_nI (by have := (lp_lt hz hnb (by omega) h2 c_95); omega) (by omega)) dX8_tally_173 ?_
                                rw [(sr_src hmx hmx5 hz (by have := (lp_lt hz hnb (by omega) h2 c_95); omega)).trans (hsb k (lp_lt hz hnb (by omega) h2 c_95))]
                                refine lv_aload_n hx hb dX8_tally_174 rfl (lv_at hl 0 rfl) ?_
                                refine lv_iload hx hb dX8_tally_175 (lv_at hl 4 rfl) ?_
                                refine lv_aload_n hx hb dX8_tally_177 rfl (lv_at hl 0 rfl) ?_
                                refine va_get (D := D) (ci := 7) (v := .int m0) (C := RX8) (T := TX8) (N := 44) hx hb hts hin_X8 hown hK hP 0 rfl rfl 0 (by decide) (w_RX8_99) (fun _ h9 => h9) rfl dX8_tally_178 ?_
                                refine lv_iconst (v := 2) hx hb dX8_tally_181 (by decide) ?_
                                refine lv_isub hx hb dX8_tally_182 ?_
                                refine rq_call1 (v := .int (pw m0 32 (p0 - 2) 1 (jgf m0 (wts m1 q0 gvn la0 wf t0) (fun j => gft gvn gf m3 (nI j) (nI k)) t0))) (rn_V (As := [.int (jgf m0 (wts m1 q0 gvn la0 wf t0) (fun j => gft gvn gf m3 (nI j) (nI k)) t0), .int (m0 - 2)]) (rest := [.int (sb k), .ref h0]) (ci := 7) (fs := [.int m0, .int m1, .int m2, .int m3, .int m4, .ref m5, .int m6, .int m7, .int m8, .ref m9, .ref m10, .ref m11, .int m12, .ref m13, .ref m14, .ref m15, .ref m16, .int m17, .ref m18, .ref m19, .ref m20, .ref m21, .ref m22, .ref m23, .ref m24, .ref m25, .int m26, .int m27, .int m28, .int m29, .int m30, .int m31, .ref m32, .ref m33, .ref m34, .ref m35, .int m36, .ref m37, .int m38, .ref m39, .ref m40, .ref m41, .ref m42, .ref m43]) ⟨hx, hb, hml, hown, hts⟩ (c_X8_power l D cA h0 m0 m1 m2 m3 m4 m5 m6 m7 m8 m9 m10 m11 m12 m13 m14 m15 m16 m17 m18 m19 m20 m21 m22 m23 m24 m25 m26 m27 m28 m29 m30 m31 m32 m33 m34 m35 m36 m37 m38 m39 m40 m41 m42 m43 (jgf m0 (wts m1 q0 gvn la0 wf t0) (fun j => gft gvn gf m3 (nI j) (nI k)) t0) (m0 - 2) (p0 - 2) (iv_2 hgp hp1.1) (by omega) (iv_p hgp hp1.1 hp1.2)) rfl (cwV 2 hts gX8_tally_X8_power rfl rfl rfl (by decide +kernel) ⟨Nat.le_of_ble_eq_true rfl, Nat.le_of_ble_eq_true rfl⟩) hK hP [0] rfl rfl rfl hl.1 rfl (Nat.le_of_ble_eq_true rfl) dX8_tally_183 ⟨Nat.le_of_ble_eq_true rfl, Nat.le_of_ble_eq_true rfl⟩) ?_
                                refine rq_call1 (v := .int (tm m0 (sb k) (pw m0 32 (p0 - 2) 1 (jgf m0 (wts m1 q0 gvn la0 wf t0) (fun j => gft gvn gf m3 (nI j) (nI k)) t0)))) (rn_V (As := [.int (sb k), .int (pw m0 32 (p0 - 2) 1 (jgf m0 (wts m1 q0 gvn la0 wf t0) (fun j => gft gvn gf m3 (nI j) (nI k)) t0))]) (rest := []) (ci := 7) (fs := [.int m0, .int m1, .int m2, .int m3, .int m4, .ref m5, .int m6, .int m7, .int m8, .ref m9, .ref m10, .ref m11, .int m12, .ref m13, .ref m14, .ref m15, .ref m16, .int m17, .ref m18, .ref m19, .ref m20, .ref m21, .ref m22, .ref m23, .ref m24, .ref m25, .int m26, .int m27, .int m28, .int m29, .int m30, .int m31, .ref m32, .ref m33, .ref m34, .ref m35, .int m36, .ref m37, .int m38, .ref m39, .ref m40, .ref m41, .ref m42, .ref m43]) ⟨hx, hb, hml, hown, hts⟩ (c_X8_times l D cA h0 m0 m1 m2 m3 m4 m5 m6 m7 m8 m9 m10 m11 m12 m13 m14 m15 m16 m17 m18 m19 m20 m21 m22 m23 m24 m25 m26 m27 m28 m29 m30 m31 m32 m33 m34 m35 m36 m37 m38 m39 m40 m41 m42 m43 (sb k) (pw m0 32 (p0 - 2) 1 (jgf m0 (wts m1 q0 gvn la0 wf t0) (fun j => gft gvn gf m3 (nI j) (nI k)) t0)) (iv_p hgp hp1.1 hp1.2)) rfl (cwV 2 hts gX8_tally_X8_times rfl rfl rfl (by decide +kernel) ⟨Nat.le_of_ble_eq_true rfl, Nat.le_of_ble_eq_true rfl⟩) hK hP [0] rfl rfl rfl hl.1 rfl (Nat.le_of_ble_eq_true rfl) dX8_tally_186 ⟨Nat.le_of_ble_eq_true rfl, Nat.le_of_ble_eq_true rfl⟩) ?_
                                refine lv_istore (lv' := [(6, .int (tm m0 (sb k) (pw m0 32 (p0 - 2) 1 (jgf m0 (wts m1 q0 gvn la0 wf t0) (fun j => gft gvn gf m3 (nI j) (nI k)) t0)))), (0, .ref h0), (1, .int (nI la0)), (3, .int w), (4, .int z), (5, .int (jgf m0 (wts m1 q0 gvn la0 wf t0) (fun j => gft gvn gf m3 (nI j) (nI k)) t0))]) hx hb dX8_tally_189 hl (by decide) rfl (fun ls hl => ?_)
                                refine lv_iconst (v := 0) hx hb dX8_tally_191 (by decide) ?_
                                refine lv_istore (lv' := [(7, .int 0), (6, .int (tm m0 (sb k) (pw m0 32 (p0 - 2) 1 (jgf m0 (wts m1 q0 gvn la0 wf t0) (fun j => gft gvn gf m3 (nI j) (nI k)) t0)))), (0, .ref h0), (1, .int (nI la0)), (3, .int w), (4, .int z), (5, .int (jgf m0 (wts m1 q0 gvn la0 wf t0) (fun j => gft gvn gf m3 (nI j) (nI k)) t0))]) hx hb dX8_tally_192 hl (by decide) rfl (fun ls hl => ?_)
                                have loop194 : ∀ (f_ c3 : Nat) (y3 : Int32), y3 = nI c3 → c0 + 1 ≤ c3 + f_ → c3 ≤ c0 → (∀ j : Nat, j < c3 → (fun c => decide (pw m0 32 (c + 1) 1 4 = (tm m0 (sb k) (pw m0 32 (p0 - 2) 1 (jgf m0 (wts m1 q0 gvn la0 wf t0) (fun j => gft gvn gf m3 (nI j) (nI k)) t0))))) j = false) → ∀ ls : Array Slot, lv_has ls 8 [(0, .ref h0), (1, .int (nI la0)), (3, .int w), (4, .int z), (6, .int (tm m0 (sb k) (pw m0 32 (p0 - 2) 1 (jgf m0 (wts m1 q0 gvn la0 wf t0) (fun j => gft gvn gf m3 (nI j) (nI k)) t0)))), (7, .int y3)] → W p l e (headSpec wsX8_tally ({ frames := 3, cells := 0, slots := 0, locals := 68 })).room s m [.ref h0].toArray below meth c H locs 0 0 (MQ below (wq_x vwCl D [(h0, .inr (7, [.int m0, .int m1, .int m2, .int m3, .int m4, .ref m5, .int 3, .int m7, .int m8, .ref m9, .ref m10, .ref m11, .int m12, .ref m13, .ref m14, .ref m15, .ref m16, .int m17, .ref m18, .ref m19, .ref m20, .ref m21, .ref m22, .ref m23, .ref m24, .ref m25, .int m26, .int m27, .int m28, .int m29, .int m30, .int m31, .ref m32, .ref m33, .ref m34, .ref m35, .int m36, .ref m37, .int (m38 + 1), .ref m39, .ref m40, .ref m41, .ref m42, .ref m43])), (m34, .inl (cA 1, 6, .inl gvn)), (m35, .inl (cA 0, 240, .inl gvf)), (m14, .inl (cA 0, 200, .inl lbf)), (m37, .inl (cA 0, 11, .inl (cts (fun i => cfi (fun c => decide (pw m0 32 (c + 1) 1 4 = (fun i => tm m0 (sb i) (pw m0 32 (p0 - 2) 1 (jgf m0 (wts m1 q0 gvn la0 wf t0) (fun j => gft gvn gf m3 (nI j) (nI i)) t0))) i)) c0) ctf b0))), (m39, .inl (cA 0, 600, .inl (upd kf m38.toNatClampNeg 8))), (m40, .inl (cA 2, 600, .inr (.inl (fun i => ((upd xf m38.toNatClampNeg (m12 - ((cts (fun i => cfi (fun c => decide (pw m0 32 (c + 1) 1 4 = (fun i => tm m0 (sb i) (pw m0 32 (p0 - 2) 1 (jgf m0 (wts m1 q0 gvn la0 wf t0) (fun j => gft gvn gf m3 (nI j) (nI i)) t0))) i)) c0) ctf b0) c0))) i).toInt64)))), (m41, .inl (cA 2, 600, .inr (.inl (fun i => ((upd yf m38.toNatClampNeg ((cts (fun i => cfi (fun c => decide (pw m0 32 (c + 1) 1 4 = (fun i => tm m0 (sb i) (pw m0 32 (p0 - 2) 1 (jgf m0 (wts m1 q0 gvn la0 wf t0) (fun j => gft gvn gf m3 (nI j) (nI i)) t0))) i)) c0) ctf b0) c0)) i).toInt64)))), (m42, .inl (cA 2, 600, .inr (.inl (vp_updL zf m38.toNatClampNeg (dg1 (cts (fun i => cfi (fun c => decide (pw m0 32 (c + 1) 1 4 = (fun i => tm m0 (sb i) (pw m0 32 (p0 - 2) 1 (jgf m0 (wts m1 q0 gvn la0 wf t0) (fun j => gft gvn gf m3 (nI j) (nI i)) t0))) i)) c0) ctf b0) c0))))), (m43, .inl (cA 2, 600, .inr (.inl (vp_updL cf m38.toNatClampNeg (dg (dg (dg (dg (cho cf m38 (m38 - 1)) ((8 : Int32).toInt64)) ((m12 - ((cts (fun i => cfi (fun c => decide (pw m0 32 (c + 1) 1 4 = (fun i => tm m0 (sb i) (pw m0 32 (p0 - 2) 1 (jgf m0 (wts m1 q0 gvn la0 wf t0) (fun j => gft gvn gf m3 (nI j) (nI i)) t0))) i)) c0) ctf b0) c0)).toInt64)) (((cts (fun i => cfi (fun c => decide (pw m0 32 (c + 1) 1 4 = (fun i => tm m0 (sb i) (pw m0 32 (p0 - 2) 1 (jgf m0 (wts m1 q0 gvn la0 wf t0) (fun j => gft gvn gf m3 (nI j) (nI i)) t0))) i)) c0) ctf b0) c0).toInt64)) (dg1 (cts (fun i => cfi (fun c => decide (pw m0 32 (c + 1) 1 4 = (fun i => tm m0 (sb i) (pw m0 32 (p0 - 2) 1 (jgf m0 (wts m1 q0 gvn la0 wf t0) (fun j => gft gvn gf m3 (nI j) (nI i)) t0))) i)) c0) ctf b0) c0))))))] (some (.int (m12 - ((cts (fun i => cfi (fun c => decide (pw m0 32 (c + 1) 1 4 = (fun i => tm m0 (sb i) (pw m0 32 (p0 - 2) 1 (jgf m0 (wts m1 q0 gvn la0 wf t0) (fun j => gft gvn gf m3 (nI j) (nI i)) t0))) i)) c0) ctf b0) c0)))) A) [.ref h0].toArray s 0 0 A) (F0 m 194 ls []) := by
                                  intro f
                                  induction f with
                                  | zero =>
                                    intro c3 y3 hy3 k2 k3
                                    omega
                                  | succ f ih =>
                                    intro c3 y3 hy3 k2 k3 h3 ls hl
                                    refine lv_iload hx hb dX8_tally_194 (lv_at hl 5 rfl) ?_
                                    refine lv_aload_n hx hb dX8_tally_196 rfl (lv_at hl 0 rfl) ?_
                                    refine va_get (D := D) (ci := 7) (v := .int m2) (C := RX8) (T := TX8) (N := 44) hx hb hts hin_X8 hown hK hP 0 rfl rfl 2 (by decide) (w_RX8_106) (fun _ h9 => h9) rfl dX8_tally_197 ?_
                                    refine lv_icmp_ge (tgt := 220) hx hb dX8_tally_200 (by decide) (fun c_200 => ?_) (fun c_200 => ?_)
                                    · skip
                                      have hcc : y3 = nI (cfi (fun c => decide (pw m0 32 (c + 1) 1 4 = (tm m0 (sb k) (pw m0 32 (p0 - 2) 1 (jgf m0 (wts m1 q0 gvn la0 wf t0) (fun j => gft gvn gf m3 (nI j) (nI k)) t0))))) c0) := by rw [hy3, lp_end hy3 hca (by omega) k3 c_200, cfi_no c0 (by rw [← lp_end hy3 hca (by omega) k3 c_200]; exact h3)]
                                      clear hy3 h3 k3 c_200
                                      subst hcc
                                      refine lv_aload_n hx hb dX8_tally_220 rfl (lv_at hl 0 rfl) ?_
                                      refine va_get (D := D) (ci := 7) (v := .ref m37) (C := RX8) (T := TX8) (N := 44) hx hb hts hin_X8 hown hK hP 0 rfl rfl 37 (by decide) (w_RX8_71) (fun _ h9 => h9) rfl dX8_tally_221 ?_
                                      refine lv_iload hx hb dX8_tally_224 (lv_at hl 5 rfl) ?_
                                      refine lv_dup2_11 hx hb dX8_tally_226 rfl rfl ?_
                                      refine va_iald hx hb hK hP 4 0 rfl rfl (vp_in_nI (by have := (cfi_le (fun c => decide (pw m0 32 (c + 1) 1 4 = (tm m0 (sb k) (pw m0 32 (p0 - 2) 1 (jgf m0 (wts m1 q0 gvn la0 wf t0) (fun j => gft gvn gf m3 (nI j) (nI k)) t0))))) c0); omega) (by omega)) dX8_tally_227 ?_
                                      refine lv_iconst (v := 1) hx hb dX8_tally_228 (by decide) ?_
                                      refine lv_iadd hx hb dX8_tally_229 ?_
                                      refine va_iast hx hb hK hP hD hS 4 0 rfl rfl (vp_in_nI (by have := (cfi_le (fun c => decide (pw m0 32 (c + 1) 1 4 = (tm m0 (sb k) (pw m0 32 (p0 - 2) 1 (jgf m0 (wts m1 q0 gvn la0 wf t0) (fun j => gft gvn gf m3 (nI j) (nI k)) t0))))) c0); omega) (by omega)) dX8_tally_230 (fun H locs hP hD hS => ?_)
                                      have hP : va_P D vwCl [(h0, .inr (7, [.int m0, .int m1, .int m2, .int m3, .int m4, .ref m5, .int m6, .int m7, .int m8, .ref m9, .ref m10, .ref m11, .int m12, .ref m13, .ref m14, .ref m15, .ref m16, .int m17, .ref m18, .ref m19, .ref m20, .ref m21, .ref m22, .ref m23, .ref m24, .ref m25, .int m26, .int m27, .int m28, .int m29, .int m30, .int m31, .ref m32, .ref m33, .ref m34, .ref m35, .int m36, .ref m37, .int m38, .ref m39, .ref m40, .ref m41, .ref m42, .ref m43])), (m34, .inl (cA 1, 6, .inl gvn)), (m35, .inl (cA 0, 240, .inl gvf)), (m14, .inl (cA 0, 200, .inl lbf)), (m37, .inl (cA 0, 11, .inl (upd (cts (fun i => cfi (fun c => decide (pw m0 32 (c + 1) 1 4 = (fun i => tm m0 (sb i) (pw m0 32 (p0 - 2) 1 (jgf m0 (wts m1 q0 gvn la0 wf t0) (fun j => gft gvn gf m3 (nI j) (nI i)) t0))) i)) c0) ctf k) (nI (cfi (fun c => decide (pw m0 32 (c + 1) 1 4 = (tm m0 (sb k) (pw m0 32 (p0 - 2) 1 (jgf m0 (wts m1 q0 gvn la0 wf t0) (fun j => gft gvn gf m3 (nI j) (nI k)) t0))))) c0)).toNatClampNeg (((cts (fun i => cfi (fun c => decide (pw m0 32 (c + 1) 1 4 = (fun i => tm m0 (sb i) (pw m0 32 (p0 - 2) 1 (jgf m0 (wts m1 q0 gvn la0 wf t0) (fun j => gft gvn gf m3 (nI j) (nI i)) t0))) i)) c0) ctf k) (nI (cfi (fun c => decide (pw m0 32 (c + 1) 1 4 = (tm m0 (sb k) (pw m0 32 (p0 - 2) 1 (jgf m0 (wts m1 q0 gvn la0 wf t0) (fun j => gft gvn gf m3 (nI j) (nI k)) t0))))) c0)).toNatClampNeg) + 1)))), (m39, .inl (cA 0, 600, .inl kf)), (m40, .inl (cA 2, 600, .inr (.inl (fun i => (xf i).toInt64)))), (m41, .inl (cA 2, 600, .inr (.inl (fun i => (yf i).toInt64)))), (m42, .inl (cA 2, 600, .inr (.inl zf))), (m43, .inl (cA 2, 600, .inr (.inl cf)))] H := hP
                                      have hD : va_D A [(h0, .inr (7, [.int m0, .int m1, .int m2, .int m3, .int m4, .ref m5, .int m6, .int m7, .int m8, .ref m9, .ref m10, .ref m11, .int m12, .ref m13, .ref m14, .ref m15, .ref m16, .int m17, .ref m18, .ref m19, .ref m20, .ref m21, .ref m22, .ref m23, .ref m24, .ref m25, .int m26, .int m27, .int m28, .int m29, .int m30, .int m31, .ref m32, .ref m33, .ref m34, .ref m35, .int m36, .ref m37, .int m38, .ref m39, .ref m40, .ref m41, .ref m42, .ref m43])), (m34, .inl (cA 1, 6, .inl gvn)), (m35, .inl (cA 0, 240, .inl gvf)), (m14, .inl (cA 0, 200, .inl lbf)), (m37, .inl (cA 0, 11, .inl (upd (cts (fun i => cfi (fun c => decide (pw m0 32 (c + 1) 1 4 = (fun i => tm m0 (sb i) (pw m0 32 (p0 - 2) 1 (jgf m0 (wts m1 q0 gvn la0 wf t0) (fun j => gft gvn gf m3 (nI j) (nI i)) t0))) i)) c0) ctf k) (nI (cfi (fun c => decide (pw m0 32 (c + 1) 1 4 = (tm m0 (sb k) (pw m0 32 (p0 - 2) 1 (jgf m0 (wts m1 q0 gvn la0 wf t0) (fun j => gft gvn gf m3 (nI j) (nI k)) t0))))) c0)).toNatClampNeg (((cts (fun i => cfi (fun c => decide (pw m0 32 (c + 1) 1 4 = (fun i => tm m0 (sb i) (pw m0 32 (p0 - 2) 1 (jgf m0 (wts m1 q0 gvn la0 wf t0) (fun j => gft gvn gf m3 (nI j) (nI i)) t0))) i)) c0) ctf k) (nI (cfi (fun c => decide (pw m0 32 (c + 1) 1 4 = (tm m0 (sb k) (pw m0 32 (p0 - 2) 1 (jgf m0 (wts m1 q0 gvn la0 wf t0) (fun j => gft gvn gf m3 (nI j) (nI k)) t0))))) c0)).toNatClampNeg) + 1)))), (m39, .inl (cA 0, 600, .inl kf)), (m40, .inl (cA 2, 600, .inr (.inl (fun i => (xf i).toInt64)))), (m41, .inl (cA 2, 600, .inr (.inl (fun i => (yf i).toInt64)))), (m42, .inl (cA 2, 600, .inr (.inl zf))), (m43, .inl (cA 2, 600, .inr (.inl cf)))] := hD
                                      have e9 : (upd (cts (fun i => cfi (fun c => decide (pw m0 32 (c + 1) 1 4 = (fun i => tm m0 (sb i) (pw m0 32 (p0 - 2) 1 (jgf m0 (wts m1 q0 gvn la0 wf t0) (fun j => gft gvn gf m3 (nI j) (nI i)) t0))) i)) c0) ctf k) (nI (cfi (fun c => decide (pw m0 32 (c + 1) 1 4 = (tm m0 (sb k) (pw m0 32 (p0 - 2) 1 (jgf m0 (wts m1 q0 gvn la0 wf t0) (fun j => gft gvn gf m3 (nI j) (nI k)) t0))))) c0)).toNatClampNeg (((cts (fun i => cfi (fun c => decide (pw m0 32 (c + 1) 1 4 = (fun i => tm m0 (sb i) (pw m0 32 (p0 - 2) 1 (jgf m0 (wts m1 q0 gvn la0 wf t0) (fun j => gft gvn gf m3 (nI j) (nI i)) t0))) i)) c0) ctf k) (nI (cfi (fun c => decide (pw m0 32 (c + 1) 1 4 = (tm m0 (sb k) (pw m0 32 (p0 - 2) 1 (jgf m0 (wts m1 q0 gvn la0 wf t0) (fun j => gft gvn gf m3 (nI j) (nI k)) t0))))) c0)).toNatClampNeg) + 1)) = (cts (fun i => cfi (fun c => decide (pw m0 32 (c + 1) 1 4 = (fun i => tm m0 (sb i) (pw m0 32 (p0 - 2) 1 (jgf m0 (wts m1 q0 gvn la0 wf t0) (fun j => gft gvn gf m3 (nI j) (nI i)) t0))) i)) c0) ctf (k + 1)) := cb_step (ci := (fun i => cfi (fun c => decide (pw m0 32 (c + 1) 1 4 = (fun i => tm m0 (sb i) (pw m0 32 (p0 - 2) 1 (jgf m0 (wts m1 q0 gvn la0 wf t0) (fun j => gft gvn gf m3 (nI j) (nI i)) t0))) i)) c0)) (cfi_le _ c0) hc1
                                      have hP := va_P.arr (g' := (cts (fun i => cfi (fun c => decide (pw m0 32 (c + 1) 1 4 = (fun i => tm m0 (sb i) (pw m0 32 (p0 - 2) 1 (jgf m0 (wts m1 q0 gvn la0 wf t0) (fun j => gft gvn gf m3 (nI j) (nI i)) t0))) i)) c0) ctf (k + 1))) hP 4 rfl (fun j _ => congrFun e9 j)
                                      have hD := va_D.arr (g' := (cts (fun i => cfi (fun c => decide (pw m0 32 (c + 1) 1 4 = (fun i => tm m0 (sb i) (pw m0 32 (p0 - 2) 1 (jgf m0 (wts m1 q0 gvn la0 wf t0) (fun j => gft gvn gf m3 (nI j) (nI i)) t0))) i)) c0) ctf (k + 1))) hD 4 rfl
                                      clear e9
                                      have hP : va_P D vwCl [(h0, .inr (7, [.int m0, .int m1, .int m2, .int m3, .int m4, .ref m5, .int m6, .int m7, .int m8, .ref m9, .ref m10, .ref m11, .int m12, .ref m13, .ref m14, .ref m15, .ref m16, .int m17, .ref m18, .ref m19, .ref m20, .ref m21, .ref m22, .ref m23, .ref m24, .ref m25, .int m26, .int m27, .int m28, .int m29, .int m30, .int m31, .ref m32, .ref m33, .ref m34, .ref m35, .int m36, .ref m37, .int m38, .ref m39, .ref m40, .ref m41, .ref m42, .ref m43])), (m34, .inl (cA 1, 6, .inl gvn)), (m35, .inl (cA 0, 240, .inl gvf)), (m14, .inl (cA 0, 200, .inl lbf)), (m37, .inl (cA 0, 11, .inl (cts (fun i => cfi (fun c => decide (pw m0 32 (c + 1) 1 4 = (fun i => tm m0 (sb i) (pw m0 32 (p0 - 2) 1 (jgf m0 (wts m1 q0 gvn la0 wf t0) (fun j => gft gvn gf m3 (nI j) (nI i)) t0))) i)) c0) ctf (k + 1)))), (m39, .inl (cA 0, 600, .inl kf)), (m40, .inl (cA 2, 600, .inr (.inl (fun i => (xf i).toInt64)))), (m41, .inl (cA 2, 600, .inr (.inl (fun i => (yf i).toInt64)))), (m42, .inl (cA 2, 600, .inr (.inl zf))), (m43, .inl (cA 2, 600, .inr (.inl cf)))] H := hP
                                      have hD : va_D A [(h0, .inr (7, [.int m0, .int m1, .int m2, .int m3, .int m4, .ref m5, .int m6, .int m7, .int m8, .ref m9, .ref m10, .ref m11, .int m12, .ref m13, .ref m14, .ref m15, .ref m16, .int m17, .ref m18, .ref m19, .ref m20, .ref m21, .ref m22, .ref m23, .ref m24, .ref m25, .int m26, .int m27, .int m28, .int m29, .int m30, .int m31, .ref m32, .ref m33, .ref m34, .ref m35, .int m36, .ref m37, .int m38, .ref m39, .ref m40, .ref m41, .ref m42, .ref m43])), (m34, .inl (cA 1, 6, .inl gvn)), (m35, .inl (cA 0, 240, .inl gvf)), (m14, .inl (cA 0, 200, .inl lbf)), (m37, .inl (cA 0, 11, .inl (cts (fun i => cfi (fun c => decide (pw m0 32 (c + 1) 1 4 = (fun i => tm m0 (sb i) (pw m0 32 (p0 - 2) 1 (jgf m0 (wts m1 q0 gvn la0 wf t0) (fun j => gft gvn gf m3 (nI j) (nI i)) t0))) i)) c0) ctf (k + 1)))), (m39, .inl (cA 0, 600, .inl kf)), (m40, .inl (cA 2, 600, .inr (.inl (fun i => (xf i).toInt64)))), (m41, .inl (cA 2, 600, .inr (.inl (fun i => (yf i).toInt64)))), (m42, .inl (cA 2, 600, .inr (.inl zf))), (m43, .inl (cA 2, 600, .inr (.inl cf)))] := hD
                                      refine lv_iload_n hx hb dX8_tally_231 rfl (lv_at hl 2 rfl) ?_
                                      refine lv_iload hx hb dX8_tally_232 (lv_at hl 5 rfl) ?_
                                      refine lv_aload_n hx hb dX8_tally_234 rfl (lv_at hl 0 rfl) ?_
                                      refine va_get (D := D) (ci := 7) (v := .int m2) (C := RX8) (T := TX8) (N := 44) hx hb hts hin_X8 hown hK hP 0 rfl rfl 2 (by decide) (w_RX8_106) (fun _ h9 => h9) rfl dX8_tally_235 ?_
                                      refine lv_icmp_ne (tgt := 245) hx hb dX8_tally_238 (by decide) (fun c_238 => ?_) (fun c_238 => ?_)
                                      · skip
                                        refine lv_iconst (v := 0) hx hb dX8_tally_245 (by decide) ?_
                                        refine lv_topi (fun w8 e8 => ?_)
                                        have e9 : w8 = (if (cfi (fun c => decide (pw m0 32 (c + 1) 1 4 = (tm m0 (sb k) (pw m0 32 (p0 - 2) 1 (jgf m0 (wts m1 q0 gvn la0 wf t0) (fun j => gft gvn gf m3 (nI j) (nI k)) t0))))) c0) = c0 then 1 else 0) := (by rw [e8, if_neg (fun h => c_238 (by rw [hca, h]))])
                                        clear e8
                                        subst e9
                                        refine lv_iadd hx hb dX8_tally_246 ?_
                                        refine lv_istore_n (lv' := [(3, .int (w + (if (cfi (fun c => decide (pw m0 32 (c + 1) 1 4 = (tm m0 (sb k) (pw m0 32 (p0 - 2) 1 (jgf m0 (wts m1 q0 gvn la0 wf t0) (fun j => gft gvn gf m3 (nI j) (nI k)) t0))))) c0) = c0 then 1 else 0))), (0, .ref h0), (1, .int (nI la0)), (4, .int z), (6, .int (tm m0 (sb k) (pw m0 32 (p0 - 2) 1 (jgf m0 (wts m1 q0 gvn la0 wf t0) (fun j => gft gvn gf m3 (nI j) (nI k)) t0)))), (7, .int (nI (cfi (fun c => decide (pw m0 32 (c + 1) 1 4 = (tm m0 (sb k) (pw m0 32 (p0 - 2) 1 (jgf m0 (wts m1 q0 gvn la0 wf t0) (fun j => gft gvn gf m3 (nI j) (nI k)) t0))))) c0)))]) hx hb dX8_tally_247 rfl hl (by decide) rfl (fun ls hl => ?_)
                                        refine lv_iinc (v := (z + 1)) (lv' := [(4, .int (z + 1)), (3, .int (w + (if (cfi (fun c => decide (pw m0 32 (c + 1) 1 4 = (tm m0 (sb k) (pw m0 32 (p0 - 2) 1 (jgf m0 (wts m1 q0 gvn la0 wf t0) (fun j => gft gvn gf m3 (nI j) (nI k)) t0))))) c0) = c0 then 1 else 0))), (0, .ref h0), (1, .int (nI la0)), (6, .int (tm m0 (sb k) (pw m0 32 (p0 - 2) 1 (jgf m0 (wts m1 q0 gvn la0 wf t0) (fun j => gft gvn gf m3 (nI j) (nI k)) t0)))), (7, .int (nI (cfi (fun c => decide (pw m0 32 (c + 1) 1 4 = (tm m0 (sb k) (pw m0 32 (p0 - 2) 1 (jgf m0 (wts m1 q0 gvn la0 wf t0) (fun j => gft gvn gf m3 (nI j) (nI k)) t0))))) c0)))]) hx hb dX8_tally_248 hl (k := 3) rfl rfl (by decide) rfl (fun ls hl => ?_)
                                        refine lv_goto (tgt := 89) hx hb dX8_tally_251 (by decide) ?_
                                        have hk := lp_lt hz hnb (by omega) h2 c_95
                                        exact ih3 (k + 1) (z + 1) _ (st_1 hz) (by omega) (by omega) (ct_none (ci := (fun i => cfi (fun c => decide (pw m0 32 (c + 1) 1 4 = (fun i => tm m0 (sb i) (pw m0 32 (p0 - 2) 1 (jgf m0 (wts m1 q0 gvn la0 wf t0) (fun j => gft gvn gf m3 (nI j) (nI i)) t0))) i)) c0)) hw) _ _ hP hD hS ls (lv_sub hl [2, 3, 1, 0] rfl)
                                      · skip
                                        refine lv_iconst (v := 1) hx hb dX8_tally_241 (by decide) ?_
                                        refine lv_goto (tgt := 246) hx hb dX8_tally_242 (by decide) ?_
                                        refine lv_topi (fun w8 e8 => ?_)
                                        have e9 : w8 = (if (cfi (fun c => decide (pw m0 32 (c + 1) 1 4 = (tm m0 (sb k) (pw m0 32 (p0 - 2) 1 (jgf m0 (wts m1 q0 gvn la0 wf t0) (fun j => gft gvn gf m3 (nI j) (nI k)) t0))))) c0) = c0 then 1 else 0) := (by rw [e8, if_pos (ta_c0 (cfi_le (fun c => decide (pw m0 32 (c + 1) 1 4 = (tm m0 (sb k) (pw m0 32 (p0 - 2) 1 (jgf m0 (wts m1 q0 gvn la0 wf t0) (fun j => gft gvn gf m3 (nI j) (nI k)) t0))))) c0) hc1 (c_238.trans hca))])
                                        clear e8
                                        subst e9
                                        refine lv_iadd hx hb dX8_tally_246 ?_
                                        refine lv_istore_n (lv' := [(3, .int (w + (if (cfi (fun c => decide (pw m0 32 (c + 1) 1 4 = (tm m0 (sb k) (pw m0 32 (p0 - 2) 1 (jgf m0 (wts m1 q0 gvn la0 wf t0) (fun j => gft gvn gf m3 (nI j) (nI k)) t0))))) c0) = c0 then 1 else 0))), (0, .ref h0), (1, .int (nI la0)), (4, .int z), (6, .int (tm m0 (sb k) (pw m0 32 (p0 - 2) 1 (jgf m0 (wts m1 q0 gvn la0 wf t0) (fun j => gft gvn gf m3 (nI j) (nI k)) t0)))), (7, .int (nI (cfi (fun c => decide (pw m0 32 (c + 1) 1 4 = (tm m0 (sb k) (pw m0 32 (p0 - 2) 1 (jgf m0 (wts m1 q0 gvn la0 wf t0) (fun j => gft gvn gf m3 (nI j) (nI k)) t0))))) c0)))]) hx hb dX8_tally_247 rfl hl (by decide) rfl (fun ls hl => ?_)
                                        refine lv_iinc (v := (z + 1)) (lv' := [(4, .int (z + 1)), (3, .int (w + (if (cfi (fun c => decide (pw m0 32 (c + 1) 1 4 = (tm m0 (sb k) (pw m0 32 (p0 - 2) 1 (jgf m0 (wts m1 q0 gvn la0 wf t0) (fun j => gft gvn gf m3 (nI j) (nI k)) t0))))) c0) = c0 then 1 else 0))), (0, .ref h0), (1, .int (nI la0)), (6, .int (tm m0 (sb k) (pw m0 32 (p0 - 2) 1 (jgf m0 (wts m1 q0 gvn la0 wf t0) (fun j => gft gvn gf m3 (nI j) (nI k)) t0)))), (7, .int (nI (cfi (fun c => decide (pw m0 32 (c + 1) 1 4 = (tm m0 (sb k) (pw m0 32 (p0 - 2) 1 (jgf m0 (wts m1 q0 gvn la0 wf t0) (fun j => gft gvn gf m3 (nI j) (nI k)) t0))))) c0)))]) hx hb dX8_tally_248 hl (k := 3) rfl rfl (by decide) rfl (fun ls hl => ?_)
                                        refine lv_goto (tgt := 89) hx hb dX8_tally_251 (by decide) ?_
                                        have hk := lp_lt hz hnb (by omega) h2 c_95
                                        exact ih3 (k + 1) (z + 1) _ (st_1 hz) (by omega) (by omega) (ct_none (ci := (fun i => cfi (fun c => decide (pw m0 32 (c + 1) 1 4 = (fun i => tm m0 (sb i) (pw m0 32 (p0 - 2) 1 (jgf m0 (wts m1 q0 gvn la0 wf t0) (fun j => gft gvn gf m3 (nI j) (nI i)) t0))) i)) c0)) hw) _ _ hP hD hS ls (lv_sub hl [2, 3, 1, 0] rfl)
                                    · skip
                                      refine lv_aload_n hx hb dX8_tally_203 rfl (lv_at hl 0 rfl) ?_
                                      refine lv_iload hx hb dX8_tally_204 (lv_at hl 5 rfl) ?_
                                      refine rq_call1 (v := .int (pw m0 32 (c3 + 1) 1 4)) (rn_V (As := [.int y3]) (rest := []) (ci := 7) (fs := [.int m0, .int m1, .int m2, .int m3, .int m4, .ref m5, .int m6, .int m7, .int m8, .ref m9, .ref m10, .ref m11, .int m12, .ref m13, .ref m14, .ref m15, .ref m16, .int m17, .ref m18, .ref m19, .ref m20, .ref m21, .ref m22, .ref m23, .ref m24, .ref m25, .int m26, .int m27, .int m28, .int m29, .int m30, .int m31, .ref m32, .ref m33, .ref m34, .ref m35, .int m36, .ref m37, .int m38, .ref m39, .ref m40, .ref m41, .ref m42, .ref m43]) ⟨hx, hb, hml, hown, hts⟩ (c_X8_mark l D cA h0 m0 m1 m2 m3 m4 m5 m6 m7 m8 m9 m10 m11 m12 m13 m14 m15 m16 m17 m18 m19 m20 m21 m22 m23 m24 m25 m26 m27 m28 m29 m30 m31 m32 m33 m34 m35 m36 m37 m38 m39 m40 m41 m42 m43 y3 c3 hy3 (by omega) (iv_p hgp hp1.1 hp1.2)) rfl (cwV 1 hts gX8_tally_X8_mark rfl rfl rfl (by decide +kernel) ⟨Nat.le_of_ble_eq_true rfl, Nat.le_of_ble_eq_true rfl⟩) hK hP [0] rfl rfl rfl hl.1 rfl (Nat.le_of_ble_eq_true rfl) dX8_tally_206 ⟨Nat.le_of_ble_eq_true rfl, Nat.le_of_ble_eq_true rfl⟩) ?_
                                      refine lv_iload hx hb dX8_tally_209 (lv_at hl 4 rfl) ?_
                                      refine lv_icmp_eq (tgt := 220) hx hb dX8_tally_211 (by decide) (fun c_211 => ?_) (fun c_211 => ?_)
                                      · skip
                                        have hcc : y3 = nI (cfi (fun c => decide (pw m0 32 (c + 1) 1 4 = (tm m0 (sb k) (pw m0 32 (p0 - 2) 1 (jgf m0 (wts m1 q0 gvn la0 wf t0) (fun j => gft gvn gf m3 (nI j) (nI k)) t0))))) c0) := by rw [hy3, cfi_at h3 (decide_eq_true c_211) c0 (lp_lt hy3 hca (by omega) k3 c_200)]
                                        clear hy3 h3 k3 c_200 c_211
                                        subst hcc
                                        refine lv_aload_n hx hb dX8_tally_220 rfl (lv_at hl 0 rfl) ?_
                                        refine va_get (D := D) (ci := 7) (v := .ref m37) (C := RX8) (T := TX8) (N := 44) hx hb hts hin_X8 hown hK hP 0 rfl rfl 37 (by decide) (w_RX8_71) (fun _ h9 => h9) rfl dX8_tally_221 ?_
                                        refine lv_iload hx hb dX8_tally_224 (lv_at hl 5 rfl) ?_
                                        refine lv_dup2_11 hx hb dX8_tally_226 rfl rfl ?_
                                        refine va_iald hx hb hK hP 4 0 rfl rfl (vp_in_nI (by have := (cfi_le (fun c => decide (pw m0 32 (c + 1) 1 4 = (tm m0 (sb k) (pw m0 32 (p0 - 2) 1 (jgf m0 (wts m1 q0 gvn la0 wf t0) (fun j => gft gvn gf m3 (nI j) (nI k)) t0))))) c0); omega) (by omega)) dX8_tally_227 ?_
                                        refine lv_iconst (v := 1) hx hb dX8_tally_228 (by decide) ?_
                                        refine lv_iadd hx hb dX8_tally_229 ?_
                                        refine va_iast hx hb hK hP hD hS 4 0 rfl rfl (vp_in_nI (by have := (cfi_le (fun c => decide (pw m0 32 (c + 1) 1 4 = (tm m0 (sb k) (pw m0 32 (p0 - 2) 1 (jgf m0 (wts m1 q0 gvn la0 wf t0) (fun j => gft gvn gf m3 (nI j) (nI k)) t0))))) c0); omega) (by omega)) dX8_tally_230 (fun H locs hP hD hS => ?_)
                                        have hP : va_P D vwCl [(h0, .inr (7, [.int m0, .int m1, .int m2, .int m3, .int m4, .ref m5, .int m6, .int m7, .int m8, .ref m9, .ref m10, .ref m11, .int m12, .ref m13, .ref m14, .ref m15, .ref m16, .int m17, .ref m18, .ref m19, .ref m20, .ref m21, .ref m22, .ref m23, .ref m24, .ref m25, .int m26, .int m27, .int m28, .int m29, .int m30, .int m31, .ref m32, .ref m33, .ref m34, .ref m35, .int m36, .ref m37, .int m38, .ref m39, .ref m40, .ref m41, .ref m42, .ref m43])), (m34, .inl (cA 1, 6, .inl gvn)), (m35, .inl (cA 0, 240, .inl gvf)), (m14, .inl (cA 0, 200, .inl lbf)), (m37, .inl (cA 0, 11, .inl (upd (cts (fun i => cfi (fun c => decide (pw m0 32 (c + 1) 1 4 = (fun i => tm m0 (sb i) (pw m0 32 (p0 - 2) 1 (jgf m0 (wts m1 q0 gvn la0 wf t0) (fun j => gft gvn gf m3 (nI j) (nI i)) t0))) i)) c0) ctf k) (nI (cfi (fun c => decide (pw m0 32 (c + 1) 1 4 = (tm m0 (sb k) (pw m0 32 (p0 - 2) 1 (jgf m0 (wts m1 q0 gvn la0 wf t0) (fun j => gft gvn gf m3 (nI j) (nI k)) t0))))) c0)).toNatClampNeg (((cts (fun i => cfi (fun c => decide (pw m0 32 (c + 1) 1 4 = (fun i => tm m0 (sb i) (pw m0 32 (p0 - 2) 1 (jgf m0 (wts m1 q0 gvn la0 wf t0) (fun j => gft gvn gf m3 (nI j) (nI i)) t0))) i)) c0) ctf k) (nI (cfi (fun c => decide (pw m0 32 (c + 1) 1 4 = (tm m0 (sb k) (pw m0 32 (p0 - 2) 1 (jgf m0 (wts m1 q0 gvn la0 wf t0) (fun j => gft gvn gf m3 (nI j) (nI k)) t0))))) c0)).toNatClampNeg) + 1)))), (m39, .inl (cA 0, 600, .inl kf)), (m40, .inl (cA 2, 600, .inr (.inl (fun i => (xf i).toInt64)))), (m41, .inl (cA 2, 600, .inr (.inl (fun i => (yf i).toInt64)))), (m42, .inl (cA 2, 600, .inr (.inl zf))), (m43, .inl (cA 2, 600, .inr (.inl cf)))] H := hP
                                        have hD : va_D A [(h0, .inr (7, [.int m0, .int m1, .int m2, .int m3, .int m4, .ref m5, .int m6, .int m7, .int m8, .ref m9, .ref m10, .ref m11, .int m12, .ref m13, .ref m14, .ref m15, .ref m16, .int m17, .ref m18, .ref m19, .ref m20, .ref m21, .ref m22, .ref m23, .ref m24, .ref m25, .int m26, .int m27, .int m28, .int m29, .int m30, .int m31, .ref m32, .ref m33, .ref m34, .ref m35, .int m36, .ref m37, .int m38, .ref m39, .ref m40, .ref m41, .ref m42, .ref m43])), (m34, .inl (cA 1, 6, .inl gvn)), (m35, .inl (cA 0, 240, .inl gvf)), (m14, .inl (cA 0, 200, .inl lbf)), (m37, .inl (cA 0, 11, .inl (upd (cts (fun i => cfi (fun c => decide (pw m0 32 (c + 1) 1 4 = (fun i => tm m0 (sb i) (pw m0 32 (p0 - 2) 1 (jgf m0 (wts m1 q0 gvn la0 wf t0) (fun j => gft gvn gf m3 (nI j) (nI i)) t0))) i)) c0) ctf k) (nI (cfi (fun c => decide (pw m0 32 (c + 1) 1 4 = (tm m0 (sb k) (pw m0 32 (p0 - 2) 1 (jgf m0 (wts m1 q0 gvn la0 wf t0) (fun j => gft gvn gf m3 (nI j) (nI k)) t0))))) c0)).toNatClampNeg (((cts (fun i => cfi (fun c => decide (pw m0 32 (c + 1) 1 4 = (fun i => tm m0 (sb i) (pw m0 32 (p0 - 2) 1 (jgf m0 (wts m1 q0 gvn la0 wf t0) (fun j => gft gvn gf m3 (nI j) (nI i)) t0))) i)) c0) ctf k) (nI (cfi (fun c => decide (pw m0 32 (c + 1) 1 4 = (tm m0 (sb k) (pw m0 32 (p0 - 2) 1 (jgf m0 (wts m1 q0 gvn la0 wf t0) (fun j => gft gvn gf m3 (nI j) (nI k)) t0))))) c0)).toNatClampNeg) + 1)))), (m39, .inl (cA 0, 600, .inl kf)), (m40, .inl (cA 2, 600, .inr (.inl (fun i => (xf i).toInt64)))), (m41, .inl (cA 2, 600, .inr (.inl (fun i => (yf i).toInt64)))), (m42, .inl (cA 2, 600, .inr (.inl zf))), (m43, .inl (cA 2, 600, .inr (.inl cf)))] := hD
                                        have e9 : (upd (cts (fun i => cfi (fun c => decide (pw m0 32 (c + 1) 1 4 = (fun i => tm m0 (sb i) (pw m0 32 (p0 - 2) 1 (jgf m0 (wts m1 q0 gvn la0 wf t0) (fun j => gft gvn gf m3 (nI j) (nI i)) t0))) i)) c0) ctf k) (nI (cfi (fun c => decide (pw m0 32 (c + 1) 1 4 = (tm m0 (sb k) (pw m0 32 (p0 - 2) 1 (jgf m0 (wts m1 q0 gvn la0 wf t0) (fun j => gft gvn gf m3 (nI j) (nI k)) t0))))) c0)).toNatClampNeg (((cts (fun i => cfi (fun c => decide (pw m0 32 (c + 1) 1 4 = (fun i => tm m0 (sb i) (pw m0 32 (p0 - 2) 1 (jgf m0 (wts m1 q0 gvn la0 wf t0) (fun j => gft gvn gf m3 (nI j) (nI i)) t0))) i)) c0) ctf k) (nI (cfi (fun c => decide (pw m0 32 (c + 1) 1 4 = (tm m0 (sb k) (pw m0 32 (p0 - 2) 1 (jgf m0 (wts m1 q0 gvn la0 wf t0) (fun j => gft gvn gf m3 (nI j) (nI k)) t0))))) c0)).toNatClampNeg) + 1)) = (cts (fun i => cfi (fun c => decide (pw m0 32 (c + 1) 1 4 = (fun i => tm m0 (sb i) (pw m0 32 (p0 - 2) 1 (jgf m0 (wts m1 q0 gvn la0 wf t0) (fun j => gft gvn gf m3 (nI j) (nI i)) t0))) i)) c0) ctf (k + 1)) := cb_step (ci := (fun i => cfi (fun c => decide (pw m0 32 (c + 1) 1 4 = (fun i => tm m0 (sb i) (pw m0 32 (p0 - 2) 1 (jgf m0 (wts m1 q0 gvn la0 wf t0) (fun j => gft gvn gf m3 (nI j) (nI i)) t0))) i)) c0)) (cfi_le _ c0) hc1
                                        have hP := va_P.arr (g' := (cts (fun i => cfi (fun c => decide (pw m0 32 (c + 1) 1 4 = (fun i => tm m0 (sb i) (pw m0 32 (p0 - 2) 1 (jgf m0 (wts m1 q0 gvn la0 wf t0) (fun j => gft gvn gf m3 (nI j) (nI i)) t0))) i)) c0) ctf (k + 1))) hP 4 rfl (fun j _ => congrFun e9 j)
                                        have hD := va_D.arr (g' := (cts (fun i => cfi (fun c => decide (pw m0 32 (c + 1) 1 4 = (fun i => tm m0 (sb i) (pw m0 32 (p0 - 2) 1 (jgf m0 (wts m1 q0 gvn la0 wf t0) (fun j => gft gvn gf m3 (nI j) (nI i)) t0))) i)) c0) ctf (k + 1))) hD 4 rfl
                                        clear e9
                                        have hP : va_P D vwCl [(h0, .inr (7, [.int m0, .int m1, .int m2, .int m3, .int m4, .ref m5, .int m6, .int m7, .int m8, .ref m9, .ref m10, .ref m11, .int m12, .ref m13, .ref m14, .ref m15, .ref m16, .int m17, .ref m18, .ref m19, .ref m20, .ref m21, .ref m22, .ref m23, .ref m24, .ref m25, .int m26, .int m27, .int m28, .int m29, .int m30, .int m31, .ref m32, .ref m33, .ref m34, .ref m35, .int m36, .ref m37, .int m38, .ref m39, .ref m40, .ref m41, .ref m42, .ref m43])), (m34, .inl (cA 1, 6, .inl gvn)), (m35, .inl (cA 0, 240, .inl gvf)), (m14, .inl (cA 0, 200, .inl lbf)), (m37, .inl (cA 0, 11, .inl (cts (fun i => cfi (fun c => decide (pw m0 32 (c + 1) 1 4 = (fun i => tm m0 (sb i) (pw m0 32 (p0 - 2) 1 (jgf m0 (wts m1 q0 gvn la0 wf t0) (fun j => gft gvn gf m3 (nI j) (nI i)) t0))) i)) c0) ctf (k + 1)))), (m39, .inl (cA 0, 600, .inl kf)), (m40, .inl (cA 2, 600, .inr (.inl (fun i => (xf i).toInt64)))), (m41, .inl (cA 2, 600, .inr (.inl (fun i => (yf i).toInt64)))), (m42, .inl (cA 2, 600, .inr (.inl zf))), (m43, .inl (cA 2, 600, .inr (.inl cf)))] H := hP
                                        have hD : va_D A [(h0, .inr (7, [.int m0, .int m1, .int m2, .int m3, .int m4, .ref m5, .int m6, .int m7, .int m8, .ref m9, .ref m10, .ref m11, .int m12, .ref m13, .ref m14, .ref m15, .ref m16, .int m17, .ref m18, .ref m19, .ref m20, .ref m21, .ref m22, .ref m23, .ref m24, .ref m25, .int m26, .int m27, .int m28, .int m29, .int m30, .int m31, .ref m32, .ref m33, .ref m34, .ref m35, .int m36, .ref m37, .int m38, .ref m39, .ref m40, .ref m41, .ref m42, .ref m43])), (m34, .inl (cA 1, 6, .inl gvn)), (m35, .inl (cA 0, 240, .inl gvf)), (m14, .inl (cA 0, 200, .inl lbf)), (m37, .inl (cA 0, 11, .inl (cts (fun i => cfi (fun c => decide (pw m0 32 (c + 1) 1 4 = (fun i => tm m0 (sb i) (pw m0 32 (p0 - 2) 1 (jgf m0 (wts m1 q0 gvn la0 wf t0) (fun j => gft gvn gf m3 (nI j) (nI i)) t0))) i)) c0) ctf (k + 1)))), (m39, .inl (cA 0, 600, .inl kf)), (m40, .inl (cA 2, 600, .inr (.inl (fun i => (xf i).toInt64)))), (m41, .inl (cA 2, 600, .inr (.inl (fun i => (yf i).toInt64)))), (m42, .inl (cA 2, 600, .inr (.inl zf))), (m43, .inl (cA 2, 600, .inr (.inl cf)))] := hD
                                        refine lv_iload_n hx hb dX8_tally_231 rfl (lv_at hl 2 rfl) ?_
                                        refine lv_iload hx hb dX8_tally_232 (lv_at hl 5 rfl) ?_
                                        refine lv_aload_n hx hb dX8_tally_234 rfl (lv_at hl 0 rfl) ?_
                                        refine va_get (D := D) (ci := 7) (v := .int m2) (C := RX8) (T := TX8) (N := 44) hx hb hts hin_X8 hown hK hP 0 rfl rfl 2 (by decide) (w_RX8_106) (fun _ h9 => h9) rfl dX8_tally_235 ?_
                                        refine lv_icmp_ne (tgt := 245) hx hb dX8_tally_238 (by decide) (fun c_238 => ?_) (fun c_238 => ?_)
                                        · skip
                                          refine lv_iconst (v := 0) hx hb dX8_tally_245 (by decide) ?_
                                          refine lv_topi (fun w8 e8 => ?_)
                                          have e9 : w8 = (if (cfi (fun c => decide (pw m0 32 (c + 1) 1 4 = (tm m0 (sb k) (pw m0 32 (p0 - 2) 1 (jgf m0 (wts m1 q0 gvn la0 wf t0) (fun j => gft gvn gf m3 (nI j) (nI k)) t0))))) c0) = c0 then 1 else 0) := (by rw [e8, if_neg (fun h => c_238 (by rw [hca, h]))])
                                          clear e8
                                          subst e9
                                          refine lv_iadd hx hb dX8_tally_246 ?_
                                          refine lv_istore_n (lv' := [(3, .int (w + (if (cfi (fun c => decide (pw m0 32 (c + 1) 1 4 = (tm m0 (sb k) (pw m0 32 (p0 - 2) 1 (jgf m0 (wts m1 q0 gvn la0 wf t0) (fun j => gft gvn gf m3 (nI j) (nI k)) t0))))) c0) = c0 then 1 else 0))), (0, .ref h0), (1, .int (nI la0)), (4, .int z), (6, .int (tm m0 (sb k) (pw m0 32 (p0 - 2) 1 (jgf m0 (wts m1 q0 gvn la0 wf t0) (fun j => gft gvn gf m3 (nI j) (nI k)) t0)))), (7, .int (nI (cfi (fun c => decide (pw m0 32 (c + 1) 1 4 = (tm m0 (sb k) (pw m0 32 (p0 - 2) 1 (jgf m0 (wts m1 q0 gvn la0 wf t0) (fun j => gft gvn gf m3 (nI j) (nI k)) t0))))) c0)))]) hx hb dX8_tally_247 rfl hl (by decide) rfl (fun ls hl => ?_)
                                          refine lv_iinc (v := (z + 1)) (lv' := [(4, .int (z + 1)), (3, .int (w + (if (cfi (fun c => decide (pw m0 32 (c + 1) 1 4 = (tm m0 (sb k) (pw m0 32 (p0 - 2) 1 (jgf m0 (wts m1 q0 gvn la0 wf t0) (fun j => gft gvn gf m3 (nI j) (nI k)) t0))))) c0) = c0 then 1 else 0))), (0, .ref h0), (1, .int (nI la0)), (6, .int (tm m0 (sb k) (pw m0 32 (p0 - 2) 1 (jgf m0 (wts m1 q0 gvn la0 wf t0) (fun j => gft gvn gf m3 (nI j) (nI k)) t0)))), (7, .int (nI (cfi (fun c => decide (pw m0 32 (c + 1) 1 4 = (tm m0 (sb k) (pw m0 32 (p0 - 2) 1 (jgf m0 (wts m1 q0 gvn la0 wf t0) (fun j => gft gvn gf m3 (nI j) (nI k)) t0))))) c0)))]) hx hb dX8_tally_248 hl (k := 3) rfl rfl (by decide) rfl (fun ls hl => ?_)
                                          refine lv_goto (tgt := 89) hx hb dX8_tally_251 (by decide) ?_
                                          have hk := lp_lt hz hnb (by omega) h2 c_95
                                          exact ih3 (k + 1) (z + 1) _ (st_1 hz) (by omega) (by omega) (ct_none (ci := (fun i => cfi (fun c => decide (pw m0 32 (c + 1) 1 4 = (fun i => tm m0 (sb i) (pw m0 32 (p0 - 2) 1 (jgf m0 (wts m1 q0 gvn la0 wf t0) (fun j => gft gvn gf m3 (nI j) (nI i)) t0))) i)) c0)) hw) _ _ hP hD hS ls (lv_sub hl [2, 3, 1, 0] rfl)
                                        · skip
                                          refine lv_iconst (v := 1) hx hb dX8_tally_241 (by decide) ?_
                                          refine lv_goto (tgt := 246) hx hb dX8_tally_242 (by decide) ?_
                                          refine lv_topi (fun w8 e8 => ?_)
                                          have e9 : w8 = (if (cfi (fun c => decide (pw m0 32 (c + 1) 1 4 = (tm m0 (sb k) (pw m0 32 (p0 - 2) 1 (jgf m0 (wts m1 q0 gvn la0 wf t0) (fun j => gft gvn gf m3 (nI j) (nI k)) t0))))) c0) = c0 then 1 else 0) := (by rw [e8, if_pos (ta_c0 (cfi_le (fun c => decide (pw m0 32 (c + 1) 1 4 = (tm m0 (sb k) (pw m0 32 (p0 - 2) 1 (jgf m0 (wts m1 q0 gvn la0 wf t0) (fun j => gft gvn gf m3 (nI j) (nI k)) t0))))) c0) hc1 (c_238.trans hca))])
                                          clear e8
                                          subst e9
                                          refine lv_iadd hx hb dX8_tally_246 ?_
                                          refine lv_istore_n (lv' := [(3, .int (w + (if (cfi (fun c => decide (pw m0 32 (c + 1) 1 4 = (tm m0 (sb k) (pw m0 32 (p0 - 2) 1 (jgf m0 (wts m1 q0 gvn la0 wf t0) (fun j => gft gvn gf m3 (nI j) (nI k)) t0))))) c0) = c0 then 1 else 0))), (0, .ref h0), (1, .int (nI la0)), (4, .int z), (6, .int (tm m0 (sb k) (pw m0 32 (p0 - 2) 1 (jgf m0 (wts m1 q0 gvn la0 wf t0) (fun j => gft gvn gf m3 (nI j) (nI k)) t0)))), (7, .int (nI (cfi (fun c => decide (pw m0 32 (c + 1) 1 4 = (tm m0 (sb k) (pw m0 32 (p0 - 2) 1 (jgf m0 (wts m1 q0 gvn la0 wf t0) (fun j => gft gvn gf m3 (nI j) (nI k)) t0))))) c0)))]) hx hb dX8_tally_247 rfl hl (by decide) rfl (fun ls hl => ?_)
                                          refine lv_iinc (v := (z + 1)) (lv' := [(4, .int (z + 1)), (3, .int (w + (if (cfi (fun c => decide (pw m0 32 (c + 1) 1 4 = (tm m0 (sb k) (pw m0 32 (p0 - 2) 1 (jgf m0 (wts m1 q0 gvn la0 wf t0) (fun j => gft gvn gf m3 (nI j) (nI k)) t0))))) c0) = c0 then 1 else 0))), (0, .ref h0), (1, .int (nI la0)), (6, .int (tm m0 (sb k) (pw m0 32 (p0 - 2) 1 (jgf m0 (wts m1 q0 gvn la0 wf t0) (fun j => gft gvn gf m3 (nI j) (nI k)) t0)))), (7, .int (nI (cfi (fun c => decide (pw m0 32 (c + 1) 1 4 = (tm m0 (sb k) (pw m0 32 (p0 - 2) 1 (jgf m0 (wts m1 q0 gvn la0 wf t0) (fun j => gft gvn gf m3 (nI j) (nI k)) t0))))) c0)))]) hx hb dX8_tally_248 hl (k := 3) rfl rfl (by decide) rfl (fun ls hl => ?_)
                                          refine lv_goto (tgt := 89) hx hb dX8_tally_251 (by decide) ?_
                                          have hk := lp_lt hz hnb (by omega) h2 c_95
                                          exact ih3 (k + 1) (z + 1) _ (st_1 hz) (by omega) (by omega) (ct_none (ci := (fun i => cfi (fun c => decide (pw m0 32 (c + 1) 1 4 = (fun i => tm m0 (sb i) (pw m0 32 (p0 - 2) 1 (jgf m0 (wts m1 q0 gvn la0 wf t0) (fun j => gft gvn gf m3 (nI j) (nI i)) t0))) i)) c0)) hw) _ _ hP hD hS ls (lv_sub hl [2, 3, 1, 0] rfl)
                                      · skip
                                        refine lv_iinc (v := (y3 + 1)) (lv' := [(7, .int (y3 + 1)), (0, .ref h0), (1, .int (nI la0)), (3, .int w), (4, .int z), (6, .int (tm m0 (sb k) (pw m0 32 (p0 - 2) 1 (jgf m0 (wts m1 q0 gvn la0 wf t0) (fun j => gft gvn gf m3 (nI j) (nI k)) t0))))]) hx hb dX8_tally_214 hl (k := 5) rfl rfl (by decide) rfl (fun ls hl => ?_)
                                        refine lv_goto (tgt := 194) hx hb dX8_tally_217 (by decide) ?_
                                        have hk3 := lp_lt hy3 hca (by omega) k3 c_200
                                        exact ih (c3 + 1) (y3 + 1) (st_1 hy3) (by omega) (by omega) (co_next h3 c_211) ls (lv_sub hl [1, 2, 3, 4, 5, 0] rfl)
                                exact loop194 (c0 + 1) 0 0 rfl (by omega) (by omega) (fun j h => by omega) ls (lv_sub hl [2, 3, 4, 5, 1, 0] rfl)
                              · skip
                                refine lv_aload_n hx hb dX8_tally_110 rfl (lv_at hl 0 rfl) ?_
                                refine va_get (D := D) (ci := 7) (v := .ref m34) (C := RX8) (T := TX8) (N := 44) hx hb hts hin_X8 hown hK hP 0 rfl rfl 34 (by decide) (w_RX8_65) (fun _ h9 => h9) rfl dX8_tally_111 ?_
                                refine lv_iload hx hb dX8_tally_114 (lv_at hl 5 rfl) ?_
                                refine va_zald hx hb hK hP 1 1 rfl rfl (by rw [hy]; exact vp_in_nI (by have := ja_le hy (by omega) (by omega) c_107; omega) (by omega)) dX8_tally_116 ?_
                                refine lv_if_eq (tgt := 152) hx hb dX8_tally_117 (by decide) (fun c_117 => ?_) (fun c_117 => ?_)
                                · skip
                                  refine lv_iinc (v := (y + 1)) (lv' := [(6, .int (y + 1)), (0, .ref h0), (1, .int (nI la0)), (3, .int w), (4, .int z), (5, .int sv)]) hx hb dX8_tally_152 hl (k := 5) rfl rfl (by decide) rfl (fun ls hl => ?_)
                                  refine lv_goto (tgt := 104) hx hb dX8_tally_155 (by decide) ?_
                                  have hi := ja_le hy (by omega) (by omega) c_107
                                  exact ih2 (i + 1) (y + 1) _ (st_1 hy) (by omega) (by omega) (ja_0 hy (by omega) (by omega) c_117 hs) hsr ls (lv_sub hl [1, 2, 3, 4, 5, 0] rfl)
                                · skip
                                  refine lv_aload_n hx hb dX8_tally_120 rfl (lv_at hl 0 rfl) ?_
                                  refine lv_iload hx hb dX8_tally_121 (lv_at hl 4 rfl) ?_
                                  refine lv_aload_n hx hb dX8_tally_123 rfl (lv_at hl 0 rfl) ?_
                                  refine lv_aload_n hx hb dX8_tally_124 rfl (lv_at hl 0 rfl) ?_
                                  refine va_get (D := D) (ci := 7) (v := .ref m35) (C := RX8) (T := TX8) (N := 44) hx hb hts hin_X8 hown hK hP 0 rfl rfl 35 (by decide) (w_RX8_68) (fun _ h9 => h9) rfl dX8_tally_125 ?_
                                  refine lv_bipush (v := 40) hx hb dX8_tally_128 (by decide) ?_
                                  refine lv_iload hx hb dX8_tally_130 (lv_at hl 5 rfl) ?_
                                  refine lv_imul hx hb dX8_tally_132 ?_
                                  refine lv_iload hx hb dX8_tally_133 (lv_at hl 3 rfl) ?_
                                  refine lv_iadd hx hb dX8_tally_135 ?_
                                  refine va_iald hx hb hK hP 2 0 rfl rfl (by rw [an_ix hy hz]; exact vp_in_nI (by have := ja_le hy (by omega) (by omega) c_107; have := (lp_lt hz hnb (by omega) h2 c_95); omega) (by omega)) dX8_tally_136 ?_
                                  rw [ja_gv hz hy hts0 ht5 (by have := ja_le hy (by omega) (by omega) c_107; omega) (by have := (lp_lt hz hnb (by omega) h2 c_95); omega) c_117 (hgi (i + 1) (by omega) (by have := ja_le hy (by omega) (by omega) c_107; omega) (ja_ne hy (by omega) c_117) k (lp_lt hz hnb (by omega) h2 c_95))]
                                  refine lv_aload_n hx hb dX8_tally_137 rfl (lv_at hl 0 rfl) ?_
                                  refine lv_iload hx hb dX8_tally_138 (lv_at hl 5 rfl) ?_
                                  refine lv_iload_n hx hb dX8_tally_140 rfl (lv_at hl 1 rfl) ?_
                                  refine rq_call1 (v := .int (wgt m1 q0 gvn la0 (i + 1))) (rn_V (As := [.int y, .int (nI la0)]) (rest := [.int (gft gvn gf m3 (nI (i + 1)) (nI k)), .ref h0, .int sv, .ref h0]) (ci := 7) (fs := [.int m0, .int m1, .int m2, .int m3, .int m4, .ref m5, .int m6, .int m7, .int m8, .ref m9, .ref m10, .ref m11, .int m12, .ref m13, .ref m14, .ref m15, .ref m16, .int m17, .ref m18, .ref m19, .ref m20, .ref m21, .ref m22, .ref m23, .ref m24, .ref m25, .int m26, .int m27, .int m28, .int m29, .int m30, .int m31, .ref m32, .ref m33, .ref m34, .ref m35, .int m36, .ref m37, .int m38, .ref m39, .ref m40, .ref m41, .ref m42, .ref m43]) ⟨hx, hb, hml, hown, hts⟩ (c_X8_weight l D cA h0 m0 m1 m2 m3 m4 m5 m6 m7 m8 m9 m10 m11 m12 m13 m14 m15 m16 m17 m18 m19 m20 m21 m22 m23 m24 m25 m26 m27 m28 m29 m30 m31 m32 m33 m34 m35 m36 m37 m38 m39 m40 m41 m42 m43 y (nI la0) (i + 1) la0 q0 gvn hy (by have := ja_le hy (by omega) (by omega) c_107; omega) rfl (by omega) hgq hq1) rfl (cwV 2 hts gX8_tally_X8_weight rfl rfl rfl (by decide +kernel) ⟨Nat.le_of_ble_eq_true rfl, Nat.le_of_ble_eq_true rfl⟩) hK hP [0, 1] rfl rfl rfl hl.1 rfl (Nat.le_of_ble_eq_true rfl) dX8_tally_141 ⟨Nat.le_of_ble_eq_true rfl, Nat.le_of_ble_eq_true rfl⟩) ?_
                                  refine rq_call1 (v := .int (pw m0 32 ((wgt m1 q0 gvn la0 (i + 1)).toNatClampNeg) 1 (gft gvn gf m3 (nI (i + 1)) (nI k)))) (rn_V (As := [.int (gft gvn gf m3 (nI (i + 1)) (nI k)), .int (wgt m1 q0 gvn la0 (i + 1))]) (rest := [.int sv, .ref h0]) (ci := 7) (fs := [.int m0, .int m1, .int m2, .int m3, .int m4, .ref m5, .int m6, .int m7, .int m8, .ref m9, .ref m10, .ref m11, .int m12, .ref m13, .ref m14, .ref m15, .ref m16, .int m17, .ref m18, .ref m19, .ref m20, .ref m21, .ref m22, .ref m23, .ref m24, .ref m25, .int m26, .int m27, .int m28, .int m29, .int m30, .int m31, .ref m32, .ref m33, .ref m34, .ref m35, .int m36, .ref m37, .int m38, .ref m39, .ref m40, .ref m41, .ref m42, .ref m43]) ⟨hx, hb, hml, hown, hts⟩ (c_X8_power l D cA h0 m0 m1 m2 m3 m4 m5 m6 m7 m8 m9 m10 m11 m12 m13 m14 m15 m16 m17 m18 m19 m20 m21 m22 m23 m24 m25 m26 m27 m28 m29 m30 m31 m32 m33 m34 m35 m36 m37 m38 m39 m40 m41 m42 m43 (gft gvn gf m3 (nI (i + 1)) (nI k)) (wgt m1 q0 gvn la0 (i + 1)) ((wgt m1 q0 gvn la0 (i + 1)).toNatClampNeg) (wg_nn hgq hq1 (by omega) (by have := ja_le hy (by omega) (by omega) c_107; omega)) (nn_lt _) (iv_p hgp hp1.1 hp1.2)) rfl (cwV 2 hts gX8_tally_X8_power rfl rfl rfl (by decide +kernel) ⟨Nat.le_of_ble_eq_true rfl, Nat.le_of_ble_eq_true rfl⟩) hK hP [0] rfl rfl rfl hl.1 rfl (Nat.le_of_ble_eq_true rfl) dX8_tally_144 ⟨Nat.le_of_ble_eq_true rfl, Nat.le_of_ble_eq_true rfl⟩) ?_
                                  refine rq_call1 (v := .int (tm m0 sv (pw m0 32 ((wgt m1 q0 gvn la0 (i + 1)).toNatClampNeg) 1 (gft gvn gf m3 (nI (i + 1)) (nI k))))) (rn_V (As := [.int sv, .int (pw m0 32 ((wgt m1 q0 gvn la0 (i + 1)).toNatClampNeg) 1 (gft gvn gf m3 (nI (i + 1)) (nI k)))]) (rest := []) (ci := 7) (fs := [.int m0, .int m1, .int m2, .int m3, .int m4, .ref m5, .int m6, .int m7, .int m8, .ref m9, .ref m10, .ref m11, .int m12, .ref m13, .ref m14, .ref m15, .ref m16, .int m17, .ref m18, .ref m19, .ref m20, .ref m21, .ref m22, .ref m23, .ref m24, .ref m25, .int m26, .int m27, .int m28, .int m29, .int m30, .int m31, .ref m32, .ref m33, .ref m34, .ref m35, .int m36, .ref m37, .int m38, .ref m39, .ref m40, .ref m41, .ref m42, .ref m43]) ⟨hx, hb, hml, hown, hts⟩ (c_X8_times l D cA h0 m0 m1 m2 m3 m4 m5 m6 m7 m8 m9 m10 m11 m12 m13 m14 m15 m16 m17 m18 m19 m20 m21 m22 m23 m24 m25 m26 m27 m28 m29 m30 m31 m32 m33 m34 m35 m36 m37 m38 m39 m40 m41 m42 m43 sv (pw m0 32 ((wgt m1 q0 gvn la0 (i + 1)).toNatClampNeg) 1 (gft gvn gf m3 (nI (i + 1)) (nI k))) (iv_p hgp hp1.1 hp1.2)) rfl (cwV 2 hts gX8_tally_X8_times rfl rfl rfl (by decide +kernel) ⟨Nat.le_of_ble_eq_true rfl, Nat.le_of_ble_eq_true rfl⟩) hK hP [0] rfl rfl rfl hl.1 rfl (Nat.le_of_ble_eq_true rfl) dX8_tally_147 ⟨Nat.le_of_ble_eq_true rfl, Nat.le_of_ble_eq_true rfl⟩) ?_
                                  refine lv_istore (lv' := [(5, .int (tm m0 sv (pw m0 32 ((wgt m1 q0 gvn la0 (i + 1)).toNatClampNeg) 1 (gft gvn gf m3 (nI (i + 1)) (nI k))))), (0, .ref h0), (1, .int (nI la0)), (3, .int w), (4, .int z), (6, .int y)]) hx hb dX8_tally_150 hl (by decide) rfl (fun ls hl => ?_)
                                  refine lv_iinc (v := (y + 1)) (lv' := [(6, .int (y + 1)), (5, .int (tm m0 sv (pw m0 32 ((wgt m1 q0 gvn la0 (i + 1)).toNatClampNeg) 1 (gft gvn gf m3 (nI (i + 1)) (nI k))))), (0, .ref h0), (1, .int (nI la0)), (3, .int w), (4, .int z)]) hx hb dX8_tally_152 hl (k := 5) rfl rfl (by decide) rfl (fun ls hl => ?_)
                                  refine lv_goto (tgt := 104) hx hb dX8_tally_155 (by decide) ?_
                                  have hi := ja_le hy (by omega) (by omega) c_107
                                  exact ih2 (i + 1) (y + 1) _ (st_1 hy) (by omega) (by omega) (ja_1 (gi := (fun j => gft gvn gf m3 (nI j) (nI k))) hi hL3 (ja_ne hy (by omega) c_117) hsr hs) (ja_r hgp hp1 hsr (gft_r hts0 ht5 (by omega) (by have := (lp_lt hz hnb (by omega) h2 c_95); omega) (ja_ne hy (by omega) c_117) (hgr (i + 1) (by omega) (by omega) (ja_ne hy (by omega) c_117) k (lp_lt hz hnb (by omega) h2 c_95)))) ls (lv_sub hl [2, 3, 4, 5, 1, 0] rfl)
                          exact loop104 (la0 + 1) 0 1 1 rfl (by omega) (by omega) rfl (rng_1 hgp hp1.1 hp1.2) ls (lv_sub hl [2, 3, 4, 5, 1, 0] rfl)
                    exact loop89 (b0 + 1) 0 0 0 rfl (by omega) (by omega) hct.symm _ _ hP hD hS ls (lv_sub hl [2, 3, 1, 0] rfl)
                  · skip
                    refine lv_iinc (v := (yk + 1)) (lv' := [(1, .int (yk + 1)), (0, .ref h0), (2, .int vk)]) hx hb dX8_tally_61 hl (k := 1) rfl rfl (by decide) rfl (fun ls hl => ?_)
                    refine lv_iload_n hx hb dX8_tally_64 rfl (lv_at hl 2 rfl) ?_
                    refine lv_aload_n hx hb dX8_tally_65 rfl (lv_at hl 1 rfl) ?_
                    refine va_get (D := D) (ci := 7) (v := .ref m34) (C := RX8) (T := TX8) (N := 44) hx hb hts hin_X8 hown hK hP 0 rfl rfl 34 (by decide) (w_RX8_65) (fun _ h9 => h9) rfl dX8_tally_66 ?_
                    refine lv_iload_n hx hb dX8_tally_69 rfl (lv_at hl 0 rfl) ?_
                    refine va_zald hx hb hK hP 1 1 rfl rfl (by rw [st_1 hyk]; exact vp_in_nI (by have := ta_lt hyk htk hk5 ht5 hL1 hL2 hL3 hk2 hvk c_58; omega) (by omega)) dX8_tally_70 ?_
                    refine lv_if_eq (tgt := 78) hx hb dX8_tally_71 (by decide) (fun c_71 => ?_) (fun c_71 => ?_)
                    · skip
                      refine lv_iconst (v := 0) hx hb dX8_tally_78 (by decide) ?_
                      refine lv_iadd hx hb dX8_tally_79 ?_
                      refine lv_istore_n (lv' := [(2, .int (vk + 0)), (1, .int (yk + 1)), (0, .ref h0)]) hx hb dX8_tally_80 rfl hl (by decide) rfl (fun ls hl => ?_)
                      refine lv_goto (tgt := 53) hx hb dX8_tally_81 (by decide) ?_
                      exact ih4 (k + 1) _ _ (st_1 hyk) (by have := ta_lt hyk htk hk5 ht5 hL1 hL2 hL3 hk2 hvk c_58; omega) (ta_lt hyk htk hk5 ht5 hL1 hL2 hL3 hk2 hvk c_58) (ta_0 (st_1 hyk) (by omega) hvk c_71) _ _ hP hD hS ls (lv_sub hl [2, 1, 0] rfl)
                    · skip
                      refine lv_iconst (v := 1) hx hb dX8_tally_74 (by decide) ?_
                      refine lv_goto (tgt := 79) hx hb dX8_tally_75 (by decide) ?_
                      refine lv_iadd hx hb dX8_tally_79 ?_
                      refine lv_istore_n (lv' := [(2, .int (vk + 1)), (1, .int (yk + 1)), (0, .ref h0)]) hx hb dX8_tally_80 rfl hl (by decide) rfl (fun ls hl => ?_)
                      refine lv_goto (tgt := 53) hx hb dX8_tally_81 (by decide) ?_
                      exact ih4 (k + 1) _ _ (st_1 hyk) (by have := ta_lt hyk htk hk5 ht5 hL1 hL2 hL3 hk2 hvk c_58; omega) (ta_lt hyk htk hk5 ht5 hL1 hL2 hL3 hk2 hvk c_58) (ta_1 (st_1 hyk) (by omega) hvk c_71) _ _ hP hD hS ls (lv_sub hl [2, 1, 0] rfl)
              exact loop53 (la0 + 1) 0 0 0 rfl (by omega) (by omega) rfl _ _ hP hD hS ls (lv_sub hl [2, 1, 0] rfl)
            · exact absurd hok.2.2.2.2.2 c_44
