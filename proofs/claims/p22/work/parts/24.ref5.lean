set_option maxRecDepth 20000 in
theorem ggX8_count_X8_in : GoodIn wsX8_count wsX8_in := goodIn_r _ [7] (by decide +kernel) (by decide +kernel)
set_option maxRecDepth 20000 in
theorem gX8_count_X8_in : GoodIn wsX8_count (va_wsS RX8 122 yX8_in wsX8_in) := goodIn_app (goodIn_of _ (by decide +kernel)) ggX8_count_X8_in
theorem dX8_count_0 : decode cX8_count 0 = .ok (.aload_n 0, 1) := by decide +kernel
theorem dX8_count_1 : decode cX8_count 1 = .ok (.getfield 140, 3) := by decide +kernel
theorem dX8_count_4 : decode cX8_count 4 = .ok (.iconst 3, 1) := by decide +kernel
theorem dX8_count_5 : decode cX8_count 5 = .ok (.if_icmp .ne 24, 3) := by decide +kernel
theorem dX8_count_8 : decode cX8_count 8 = .ok (.iload_n 1, 1) := by decide +kernel
theorem dX8_count_9 : decode cX8_count 9 = .ok (.iconst 0, 1) := by decide +kernel
theorem dX8_count_10 : decode cX8_count 10 = .ok (.aload_n 0, 1) := by decide +kernel
theorem dX8_count_11 : decode cX8_count 11 = .ok (.getfield 106, 3) := by decide +kernel
theorem dX8_count_14 : decode cX8_count 14 = .ok (.invokestatic 122, 3) := by decide +kernel
theorem dX8_count_17 : decode cX8_count 17 = .ok (.ifCond .eq 12, 3) := by decide +kernel
theorem dX8_count_20 : decode cX8_count 20 = .ok (.aload_n 0, 1) := by decide +kernel
theorem dX8_count_21 : decode cX8_count 21 = .ok (.getfield 71, 3) := by decide +kernel
theorem dX8_count_24 : decode cX8_count 24 = .ok (.iload_n 1, 1) := by decide +kernel
theorem dX8_count_25 : decode cX8_count 25 = .ok (.iaload, 1) := by decide +kernel
theorem dX8_count_26 : decode cX8_count 26 = .ok (.goto 4, 3) := by decide +kernel
theorem dX8_count_29 : decode cX8_count 29 = .ok (.iconst (-1), 1) := by decide +kernel
theorem dX8_count_30 : decode cX8_count 30 = .ok (.ireturn, 1) := by decide +kernel
set_option maxRecDepth 20000 in
theorem ggX8_about_X8_isWhole : GoodIn wsX8_about wsX8_isWhole := goodIn_r _ [20, 10, 21, 22, 23, 24, 25, 26, 27, 28, 29, 30, 31, 32, 33, 34, 35, 36, 37, 38, 39, 40, 41, 42, 43, 44, 45, 46, 47, 48, 49, 50, 51, 52, 53, 54, 55, 56, 57, 58, 59, 60, 61, 62, 63, 64, 65] (by decide +kernel) (by decide +kernel)
set_option maxRecDepth 20000 in
theorem gX8_about_X8_isWhole : GoodIn wsX8_about (wsV RX8 177 RX8 yX8_isWhole wsX8_isWhole) := goodIn_app (goodIn_of _ (by decide +kernel)) ggX8_about_X8_isWhole
theorem dX8_about_0 : decode cX8_about 0 = .ok (.iload_n 1, 1) := by decide +kernel
theorem dX8_about_1 : decode cX8_about 1 = .ok (.tableswitch 199 0 15 #[79, 84, 89, 94, 99, 104, 109, 114, 119, 124, 141, 146, 151, 156, 161, 174], 79) := by decide +kernel
theorem dX8_about_80 : decode cX8_about 80 = .ok (.aload_n 0, 1) := by decide +kernel
theorem dX8_about_81 : decode cX8_about 81 = .ok (.getfield 99, 3) := by decide +kernel
theorem dX8_about_84 : decode cX8_about 84 = .ok (.ireturn, 1) := by decide +kernel
theorem dX8_about_85 : decode cX8_about 85 = .ok (.aload_n 0, 1) := by decide +kernel
theorem dX8_about_86 : decode cX8_about 86 = .ok (.getfield 103, 3) := by decide +kernel
theorem dX8_about_89 : decode cX8_about 89 = .ok (.ireturn, 1) := by decide +kernel
theorem dX8_about_90 : decode cX8_about 90 = .ok (.aload_n 0, 1) := by decide +kernel
theorem dX8_about_91 : decode cX8_about 91 = .ok (.getfield 146, 3) := by decide +kernel
theorem dX8_about_94 : decode cX8_about 94 = .ok (.ireturn, 1) := by decide +kernel
theorem dX8_about_95 : decode cX8_about 95 = .ok (.aload_n 0, 1) := by decide +kernel
theorem dX8_about_96 : decode cX8_about 96 = .ok (.getfield 106, 3) := by decide +kernel
theorem dX8_about_99 : decode cX8_about 99 = .ok (.ireturn, 1) := by decide +kernel
theorem dX8_about_100 : decode cX8_about 100 = .ok (.aload_n 0, 1) := by decide +kernel
theorem dX8_about_101 : decode cX8_about 101 = .ok (.getfield 109, 3) := by decide +kernel
theorem dX8_about_104 : decode cX8_about 104 = .ok (.ireturn, 1) := by decide +kernel
theorem dX8_about_105 : decode cX8_about 105 = .ok (.aload_n 0, 1) := by decide +kernel
theorem dX8_about_106 : decode cX8_about 106 = .ok (.getfield 112, 3) := by decide +kernel
theorem dX8_about_109 : decode cX8_about 109 = .ok (.ireturn, 1) := by decide +kernel
theorem dX8_about_110 : decode cX8_about 110 = .ok (.aload_n 0, 1) := by decide +kernel
theorem dX8_about_111 : decode cX8_about 111 = .ok (.getfield 153, 3) := by decide +kernel
theorem dX8_about_114 : decode cX8_about 114 = .ok (.ireturn, 1) := by decide +kernel
theorem dX8_about_115 : decode cX8_about 115 = .ok (.aload_n 0, 1) := by decide +kernel
theorem dX8_about_116 : decode cX8_about 116 = .ok (.getfield 140, 3) := by decide +kernel
theorem dX8_about_119 : decode cX8_about 119 = .ok (.ireturn, 1) := by decide +kernel
theorem dX8_about_120 : decode cX8_about 120 = .ok (.aload_n 0, 1) := by decide +kernel
theorem dX8_about_121 : decode cX8_about 121 = .ok (.getfield 135, 3) := by decide +kernel
theorem dX8_about_124 : decode cX8_about 124 = .ok (.ireturn, 1) := by decide +kernel
theorem dX8_about_125 : decode cX8_about 125 = .ok (.aload_n 0, 1) := by decide +kernel
theorem dX8_about_126 : decode cX8_about 126 = .ok (.getfield 140, 3) := by decide +kernel
theorem dX8_about_129 : decode cX8_about 129 = .ok (.iconst 2, 1) := by decide +kernel
theorem dX8_about_130 : decode cX8_about 130 = .ok (.if_icmp .ge 7, 3) := by decide +kernel
theorem dX8_about_133 : decode cX8_about 133 = .ok (.iconst (-1), 1) := by decide +kernel
theorem dX8_about_134 : decode cX8_about 134 = .ok (.goto 7, 3) := by decide +kernel
theorem dX8_about_137 : decode cX8_about 137 = .ok (.aload_n 0, 1) := by decide +kernel
theorem dX8_about_138 : decode cX8_about 138 = .ok (.getfield 170, 3) := by decide +kernel
theorem dX8_about_141 : decode cX8_about 141 = .ok (.ireturn, 1) := by decide +kernel
theorem dX8_about_142 : decode cX8_about 142 = .ok (.aload_n 0, 1) := by decide +kernel
theorem dX8_about_143 : decode cX8_about 143 = .ok (.getfield 191, 3) := by decide +kernel
theorem dX8_about_146 : decode cX8_about 146 = .ok (.ireturn, 1) := by decide +kernel
theorem dX8_about_147 : decode cX8_about 147 = .ok (.aload_n 0, 1) := by decide +kernel
theorem dX8_about_148 : decode cX8_about 148 = .ok (.getfield 203, 3) := by decide +kernel
theorem dX8_about_151 : decode cX8_about 151 = .ok (.ireturn, 1) := by decide +kernel
theorem dX8_about_152 : decode cX8_about 152 = .ok (.aload_n 0, 1) := by decide +kernel
theorem dX8_about_153 : decode cX8_about 153 = .ok (.getfield 212, 3) := by decide +kernel
theorem dX8_about_156 : decode cX8_about 156 = .ok (.ireturn, 1) := by decide +kernel
theorem dX8_about_157 : decode cX8_about 157 = .ok (.aload_n 0, 1) := by decide +kernel
theorem dX8_about_158 : decode cX8_about 158 = .ok (.getfield 185, 3) := by decide +kernel
theorem dX8_about_161 : decode cX8_about 161 = .ok (.ireturn, 1) := by decide +kernel
theorem dX8_about_162 : decode cX8_about 162 = .ok (.aload_n 0, 1) := by decide +kernel
theorem dX8_about_163 : decode cX8_about 163 = .ok (.getfield 181, 3) := by decide +kernel
theorem dX8_about_166 : decode cX8_about 166 = .ok (.ifCond .eq 7, 3) := by decide +kernel
theorem dX8_about_169 : decode cX8_about 169 = .ok (.iconst 1, 1) := by decide +kernel
theorem dX8_about_170 : decode cX8_about 170 = .ok (.goto 4, 3) := by decide +kernel
theorem dX8_about_173 : decode cX8_about 173 = .ok (.iconst 0, 1) := by decide +kernel
theorem dX8_about_174 : decode cX8_about 174 = .ok (.ireturn, 1) := by decide +kernel
theorem dX8_about_175 : decode cX8_about 175 = .ok (.aload_n 0, 1) := by decide +kernel
theorem dX8_about_176 : decode cX8_about 176 = .ok (.getfield 140, 3) := by decide +kernel
theorem dX8_about_179 : decode cX8_about 179 = .ok (.iconst 2, 1) := by decide +kernel
theorem dX8_about_180 : decode cX8_about 180 = .ok (.if_icmp .eq 7, 3) := by decide +kernel
theorem dX8_about_183 : decode cX8_about 183 = .ok (.iconst (-1), 1) := by decide +kernel
theorem dX8_about_184 : decode cX8_about 184 = .ok (.goto 15, 3) := by decide +kernel
theorem dX8_about_187 : decode cX8_about 187 = .ok (.aload_n 0, 1) := by decide +kernel
theorem dX8_about_188 : decode cX8_about 188 = .ok (.invokevirtual 177, 3) := by decide +kernel
theorem dX8_about_191 : decode cX8_about 191 = .ok (.ifCond .eq 7, 3) := by decide +kernel
theorem dX8_about_194 : decode cX8_about 194 = .ok (.iconst 1, 1) := by decide +kernel
theorem dX8_about_195 : decode cX8_about 195 = .ok (.goto 4, 3) := by decide +kernel
theorem dX8_about_198 : decode cX8_about 198 = .ok (.iconst 0, 1) := by decide +kernel
theorem dX8_about_199 : decode cX8_about 199 = .ok (.ireturn, 1) := by decide +kernel
theorem dX8_about_200 : decode cX8_about 200 = .ok (.iconst (-1), 1) := by decide +kernel
theorem dX8_about_201 : decode cX8_about 201 = .ok (.ireturn, 1) := by decide +kernel
set_option maxRecDepth 20000 in
theorem ggX8_list_X8_in : GoodIn wsX8_list wsX8_in := goodIn_r _ [9] (by decide +kernel) (by decide +kernel)
set_option maxRecDepth 20000 in
theorem gX8_list_X8_in : GoodIn wsX8_list (va_wsS RX8 122 yX8_in wsX8_in) := goodIn_app (goodIn_of _ (by decide +kernel)) ggX8_list_X8_in
theorem dX8_list_0 : decode cX8_list 0 = .ok (.aload_n 0, 1) := by decide +kernel
theorem dX8_list_1 : decode cX8_list 1 = .ok (.getfield 140, 3) := by decide +kernel
theorem dX8_list_4 : decode cX8_list 4 = .ok (.iconst 2, 1) := by decide +kernel
theorem dX8_list_5 : decode cX8_list 5 = .ok (.if_icmp .lt 38, 3) := by decide +kernel
theorem dX8_list_8 : decode cX8_list 8 = .ok (.iload_n 1, 1) := by decide +kernel
theorem dX8_list_9 : decode cX8_list 9 = .ok (.iconst 0, 1) := by decide +kernel
theorem dX8_list_10 : decode cX8_list 10 = .ok (.aload_n 0, 1) := by decide +kernel
theorem dX8_list_11 : decode cX8_list 11 = .ok (.getfield 191, 3) := by decide +kernel
theorem dX8_list_14 : decode cX8_list 14 = .ok (.invokestatic 122, 3) := by decide +kernel
theorem dX8_list_17 : decode cX8_list 17 = .ok (.ifCond .eq 26, 3) := by decide +kernel
theorem dX8_list_20 : decode cX8_list 20 = .ok (.iload_n 2, 1) := by decide +kernel
theorem dX8_list_21 : decode cX8_list 21 = .ok (.iconst 0, 1) := by decide +kernel
theorem dX8_list_22 : decode cX8_list 22 = .ok (.aload_n 0, 1) := by decide +kernel
theorem dX8_list_23 : decode cX8_list 23 = .ok (.getfield 170, 3) := by decide +kernel
theorem dX8_list_26 : decode cX8_list 26 = .ok (.iconst 1, 1) := by decide +kernel
theorem dX8_list_27 : decode cX8_list 27 = .ok (.isub, 1) := by decide +kernel
theorem dX8_list_28 : decode cX8_list 28 = .ok (.invokestatic 122, 3) := by decide +kernel
theorem dX8_list_31 : decode cX8_list 31 = .ok (.ifCond .eq 12, 3) := by decide +kernel
theorem dX8_list_34 : decode cX8_list 34 = .ok (.iload_n 3, 1) := by decide +kernel
theorem dX8_list_35 : decode cX8_list 35 = .ok (.iconst 0, 1) := by decide +kernel
theorem dX8_list_36 : decode cX8_list 36 = .ok (.iconst 1, 1) := by decide +kernel
theorem dX8_list_37 : decode cX8_list 37 = .ok (.invokestatic 122, 3) := by decide +kernel
theorem dX8_list_40 : decode cX8_list 40 = .ok (.ifCond .ne 5, 3) := by decide +kernel
theorem dX8_list_43 : decode cX8_list 43 = .ok (.iconst (-1), 1) := by decide +kernel
theorem dX8_list_44 : decode cX8_list 44 = .ok (.ireturn, 1) := by decide +kernel
theorem dX8_list_45 : decode cX8_list 45 = .ok (.iload_n 3, 1) := by decide +kernel
theorem dX8_list_46 : decode cX8_list 46 = .ok (.ifCond .ne 17, 3) := by decide +kernel
theorem dX8_list_49 : decode cX8_list 49 = .ok (.aload_n 0, 1) := by decide +kernel
theorem dX8_list_50 : decode cX8_list 50 = .ok (.getfield 23, 3) := by decide +kernel
theorem dX8_list_53 : decode cX8_list 53 = .ok (.bipush 40, 2) := by decide +kernel
theorem dX8_list_55 : decode cX8_list 55 = .ok (.iload_n 1, 1) := by decide +kernel
theorem dX8_list_56 : decode cX8_list 56 = .ok (.imul, 1) := by decide +kernel
theorem dX8_list_57 : decode cX8_list 57 = .ok (.iload_n 2, 1) := by decide +kernel
theorem dX8_list_58 : decode cX8_list 58 = .ok (.iadd, 1) := by decide +kernel
theorem dX8_list_59 : decode cX8_list 59 = .ok (.iaload, 1) := by decide +kernel
theorem dX8_list_60 : decode cX8_list 60 = .ok (.goto 14, 3) := by decide +kernel
theorem dX8_list_63 : decode cX8_list 63 = .ok (.aload_n 0, 1) := by decide +kernel
theorem dX8_list_64 : decode cX8_list 64 = .ok (.getfield 26, 3) := by decide +kernel
theorem dX8_list_67 : decode cX8_list 67 = .ok (.bipush 40, 2) := by decide +kernel
theorem dX8_list_69 : decode cX8_list 69 = .ok (.iload_n 1, 1) := by decide +kernel
theorem dX8_list_70 : decode cX8_list 70 = .ok (.imul, 1) := by decide +kernel
theorem dX8_list_71 : decode cX8_list 71 = .ok (.iload_n 2, 1) := by decide +kernel
theorem dX8_list_72 : decode cX8_list 72 = .ok (.iadd, 1) := by decide +kernel
theorem dX8_list_73 : decode cX8_list 73 = .ok (.iaload, 1) := by decide +kernel
theorem dX8_list_74 : decode cX8_list 74 = .ok (.ireturn, 1) := by decide +kernel
set_option maxRecDepth 20000 in
theorem ggX8_shadowOf_X8_in : GoodIn wsX8_shadowOf wsX8_in := goodIn_r _ [8] (by decide +kernel) (by decide +kernel)
set_option maxRecDepth 20000 in
theorem gX8_shadowOf_X8_in : GoodIn wsX8_shadowOf (va_wsS RX8 122 yX8_in wsX8_in) := goodIn_app (goodIn_of _ (by decide +kernel)) ggX8_shadowOf_X8_in
theorem dX8_shadowOf_0 : decode cX8_shadowOf 0 = .ok (.aload_n 0, 1) := by decide +kernel
theorem dX8_shadowOf_1 : decode cX8_shadowOf 1 = .ok (.getfield 206, 3) := by decide +kernel
theorem dX8_shadowOf_4 : decode cX8_shadowOf 4 = .ok (.ifCond .eq 26, 3) := by decide +kernel
theorem dX8_shadowOf_7 : decode cX8_shadowOf 7 = .ok (.iload_n 1, 1) := by decide +kernel
theorem dX8_shadowOf_8 : decode cX8_shadowOf 8 = .ok (.iconst 0, 1) := by decide +kernel
theorem dX8_shadowOf_9 : decode cX8_shadowOf 9 = .ok (.aload_n 0, 1) := by decide +kernel
theorem dX8_shadowOf_10 : decode cX8_shadowOf 10 = .ok (.getfield 170, 3) := by decide +kernel
theorem dX8_shadowOf_13 : decode cX8_shadowOf 13 = .ok (.iconst 1, 1) := by decide +kernel
theorem dX8_shadowOf_14 : decode cX8_shadowOf 14 = .ok (.isub, 1) := by decide +kernel
theorem dX8_shadowOf_15 : decode cX8_shadowOf 15 = .ok (.invokestatic 122, 3) := by decide +kernel
theorem dX8_shadowOf_18 : decode cX8_shadowOf 18 = .ok (.ifCond .eq 12, 3) := by decide +kernel
theorem dX8_shadowOf_21 : decode cX8_shadowOf 21 = .ok (.iload_n 2, 1) := by decide +kernel
theorem dX8_shadowOf_22 : decode cX8_shadowOf 22 = .ok (.iconst 0, 1) := by decide +kernel
theorem dX8_shadowOf_23 : decode cX8_shadowOf 23 = .ok (.iconst 1, 1) := by decide +kernel
theorem dX8_shadowOf_24 : decode cX8_shadowOf 24 = .ok (.invokestatic 122, 3) := by decide +kernel
theorem dX8_shadowOf_27 : decode cX8_shadowOf 27 = .ok (.ifCond .ne 5, 3) := by decide +kernel
theorem dX8_shadowOf_30 : decode cX8_shadowOf 30 = .ok (.iconst (-1), 1) := by decide +kernel
theorem dX8_shadowOf_31 : decode cX8_shadowOf 31 = .ok (.ireturn, 1) := by decide +kernel
theorem dX8_shadowOf_32 : decode cX8_shadowOf 32 = .ok (.iload_n 2, 1) := by decide +kernel
theorem dX8_shadowOf_33 : decode cX8_shadowOf 33 = .ok (.ifCond .ne 12, 3) := by decide +kernel
theorem dX8_shadowOf_36 : decode cX8_shadowOf 36 = .ok (.aload_n 0, 1) := by decide +kernel
theorem dX8_shadowOf_37 : decode cX8_shadowOf 37 = .ok (.getfield 29, 3) := by decide +kernel
theorem dX8_shadowOf_40 : decode cX8_shadowOf 40 = .ok (.iload_n 1, 1) := by decide +kernel
theorem dX8_shadowOf_41 : decode cX8_shadowOf 41 = .ok (.iaload, 1) := by decide +kernel
theorem dX8_shadowOf_42 : decode cX8_shadowOf 42 = .ok (.goto 9, 3) := by decide +kernel
theorem dX8_shadowOf_45 : decode cX8_shadowOf 45 = .ok (.aload_n 0, 1) := by decide +kernel
theorem dX8_shadowOf_46 : decode cX8_shadowOf 46 = .ok (.getfield 32, 3) := by decide +kernel
theorem dX8_shadowOf_49 : decode cX8_shadowOf 49 = .ok (.iload_n 1, 1) := by decide +kernel
theorem dX8_shadowOf_50 : decode cX8_shadowOf 50 = .ok (.iaload, 1) := by decide +kernel
theorem dX8_shadowOf_51 : decode cX8_shadowOf 51 = .ok (.ireturn, 1) := by decide +kernel
set_option maxRecDepth 20000 in
theorem ggX8_shown_X8_in : GoodIn wsX8_shown wsX8_in := goodIn_r _ [8] (by decide +kernel) (by decide +kernel)
set_option maxRecDepth 20000 in
theorem gX8_shown_X8_in : GoodIn wsX8_shown (va_wsS RX8 122 yX8_in wsX8_in) := goodIn_app (goodIn_of _ (by decide +kernel)) ggX8_shown_X8_in
theorem dX8_shown_0 : decode cX8_shown 0 = .ok (.aload_n 0, 1) := by decide +kernel
theorem dX8_shown_1 : decode cX8_shown 1 = .ok (.getfield 209, 3) := by decide +kernel
theorem dX8_shown_4 : decode cX8_shown 4 = .ok (.ifCond .eq 26, 3) := by decide +kernel
theorem dX8_shown_7 : decode cX8_shown 7 = .ok (.iload_n 1, 1) := by decide +kernel
theorem dX8_shown_8 : decode cX8_shown 8 = .ok (.iconst 0, 1) := by decide +kernel
theorem dX8_shown_9 : decode cX8_shown 9 = .ok (.aload_n 0, 1) := by decide +kernel
theorem dX8_shown_10 : decode cX8_shown 10 = .ok (.getfield 170, 3) := by decide +kernel
theorem dX8_shown_13 : decode cX8_shown 13 = .ok (.iconst 1, 1) := by decide +kernel
theorem dX8_shown_14 : decode cX8_shown 14 = .ok (.isub, 1) := by decide +kernel
theorem dX8_shown_15 : decode cX8_shown 15 = .ok (.invokestatic 122, 3) := by decide +kernel
theorem dX8_shown_18 : decode cX8_shown 18 = .ok (.ifCond .eq 12, 3) := by decide +kernel
theorem dX8_shown_21 : decode cX8_shown 21 = .ok (.iload_n 2, 1) := by decide +kernel
theorem dX8_shown_22 : decode cX8_shown 22 = .ok (.iconst 0, 1) := by decide +kernel
theorem dX8_shown_23 : decode cX8_shown 23 = .ok (.iconst 1, 1) := by decide +kernel
theorem dX8_shown_24 : decode cX8_shown 24 = .ok (.invokestatic 122, 3) := by decide +kernel
theorem dX8_shown_27 : decode cX8_shown 27 = .ok (.ifCond .ne 5, 3) := by decide +kernel
theorem dX8_shown_30 : decode cX8_shown 30 = .ok (.iconst (-1), 1) := by decide +kernel
theorem dX8_shown_31 : decode cX8_shown 31 = .ok (.ireturn, 1) := by decide +kernel
theorem dX8_shown_32 : decode cX8_shown 32 = .ok (.iload_n 2, 1) := by decide +kernel
theorem dX8_shown_33 : decode cX8_shown 33 = .ok (.ifCond .ne 12, 3) := by decide +kernel
theorem dX8_shown_36 : decode cX8_shown 36 = .ok (.aload_n 0, 1) := by decide +kernel
theorem dX8_shown_37 : decode cX8_shown 37 = .ok (.getfield 59, 3) := by decide +kernel
theorem dX8_shown_40 : decode cX8_shown 40 = .ok (.iload_n 1, 1) := by decide +kernel
theorem dX8_shown_41 : decode cX8_shown 41 = .ok (.iaload, 1) := by decide +kernel
theorem dX8_shown_42 : decode cX8_shown 42 = .ok (.goto 9, 3) := by decide +kernel
theorem dX8_shown_45 : decode cX8_shown 45 = .ok (.aload_n 0, 1) := by decide +kernel
theorem dX8_shown_46 : decode cX8_shown 46 = .ok (.getfield 62, 3) := by decide +kernel
theorem dX8_shown_49 : decode cX8_shown 49 = .ok (.iload_n 1, 1) := by decide +kernel
theorem dX8_shown_50 : decode cX8_shown 50 = .ok (.iaload, 1) := by decide +kernel
theorem dX8_shown_51 : decode cX8_shown 51 = .ok (.ireturn, 1) := by decide +kernel
set_option maxRecDepth 20000 in
theorem ggX8_given_X8_in : GoodIn wsX8_given wsX8_in := goodIn_r _ [8] (by decide +kernel) (by decide +kernel)
set_option maxRecDepth 20000 in
theorem gX8_given_X8_in : GoodIn wsX8_given (va_wsS RX8 122 yX8_in wsX8_in) := goodIn_app (goodIn_of _ (by decide +kernel)) ggX8_given_X8_in
theorem dX8_given_0 : decode cX8_given 0 = .ok (.iload_n 1, 1) := by decide +kernel
theorem dX8_given_1 : decode cX8_given 1 = .ok (.iconst 1, 1) := by decide +kernel
theorem dX8_given_2 : decode cX8_given 2 = .ok (.aload_n 0, 1) := by decide +kernel
theorem dX8_given_3 : decode cX8_given 3 = .ok (.getfield 109, 3) := by decide +kernel
theorem dX8_given_6 : decode cX8_given 6 = .ok (.invokestatic 122, 3) := by decide +kernel
theorem dX8_given_9 : decode cX8_given 9 = .ok (.ifCond .eq 40, 3) := by decide +kernel
theorem dX8_given_12 : decode cX8_given 12 = .ok (.aload_n 0, 1) := by decide +kernel
theorem dX8_given_13 : decode cX8_given 13 = .ok (.getfield 65, 3) := by decide +kernel
theorem dX8_given_16 : decode cX8_given 16 = .ok (.iload_n 1, 1) := by decide +kernel
theorem dX8_given_17 : decode cX8_given 17 = .ok (.baload, 1) := by decide +kernel
theorem dX8_given_18 : decode cX8_given 18 = .ok (.ifCond .eq 31, 3) := by decide +kernel
theorem dX8_given_21 : decode cX8_given 21 = .ok (.iload_n 2, 1) := by decide +kernel
theorem dX8_given_22 : decode cX8_given 22 = .ok (.iconst 0, 1) := by decide +kernel
theorem dX8_given_23 : decode cX8_given 23 = .ok (.aload_n 0, 1) := by decide +kernel
theorem dX8_given_24 : decode cX8_given 24 = .ok (.getfield 170, 3) := by decide +kernel
theorem dX8_given_27 : decode cX8_given 27 = .ok (.iconst 1, 1) := by decide +kernel
theorem dX8_given_28 : decode cX8_given 28 = .ok (.isub, 1) := by decide +kernel
theorem dX8_given_29 : decode cX8_given 29 = .ok (.invokestatic 122, 3) := by decide +kernel
theorem dX8_given_32 : decode cX8_given 32 = .ok (.ifCond .eq 17, 3) := by decide +kernel
theorem dX8_given_35 : decode cX8_given 35 = .ok (.aload_n 0, 1) := by decide +kernel
theorem dX8_given_36 : decode cX8_given 36 = .ok (.getfield 68, 3) := by decide +kernel
theorem dX8_given_39 : decode cX8_given 39 = .ok (.bipush 40, 2) := by decide +kernel
theorem dX8_given_41 : decode cX8_given 41 = .ok (.iload_n 1, 1) := by decide +kernel
theorem dX8_given_42 : decode cX8_given 42 = .ok (.imul, 1) := by decide +kernel
theorem dX8_given_43 : decode cX8_given 43 = .ok (.iload_n 2, 1) := by decide +kernel
theorem dX8_given_44 : decode cX8_given 44 = .ok (.iadd, 1) := by decide +kernel
theorem dX8_given_45 : decode cX8_given 45 = .ok (.iaload, 1) := by decide +kernel
theorem dX8_given_46 : decode cX8_given 46 = .ok (.goto 4, 3) := by decide +kernel
theorem dX8_given_49 : decode cX8_given 49 = .ok (.iconst (-1), 1) := by decide +kernel
theorem dX8_given_50 : decode cX8_given 50 = .ok (.ireturn, 1) := by decide +kernel
set_option maxRecDepth 20000 in
theorem ggX8_entry_X8_in : GoodIn wsX8_entry wsX8_in := goodIn_r _ [9] (by decide +kernel) (by decide +kernel)
set_option maxRecDepth 20000 in
theorem gX8_entry_X8_in : GoodIn wsX8_entry (va_wsS RX8 122 yX8_in wsX8_in) := goodIn_app (goodIn_of _ (by decide +kernel)) ggX8_entry_X8_in
theorem dX8_entry_0 : decode cX8_entry 0 = .ok (.iload_n 1, 1) := by decide +kernel
theorem dX8_entry_1 : decode cX8_entry 1 = .ok (.iconst 0, 1) := by decide +kernel
theorem dX8_entry_2 : decode cX8_entry 2 = .ok (.aload_n 0, 1) := by decide +kernel
theorem dX8_entry_3 : decode cX8_entry 3 = .ok (.getfield 135, 3) := by decide +kernel
theorem dX8_entry_6 : decode cX8_entry 6 = .ok (.iconst 1, 1) := by decide +kernel
theorem dX8_entry_7 : decode cX8_entry 7 = .ok (.isub, 1) := by decide +kernel
theorem dX8_entry_8 : decode cX8_entry 8 = .ok (.invokestatic 122, 3) := by decide +kernel
theorem dX8_entry_11 : decode cX8_entry 11 = .ok (.ifCond .ne 5, 3) := by decide +kernel
theorem dX8_entry_14 : decode cX8_entry 14 = .ok (.lconst 0, 1) := by decide +kernel
theorem dX8_entry_15 : decode cX8_entry 15 = .ok (.lreturn, 1) := by decide +kernel
theorem dX8_entry_16 : decode cX8_entry 16 = .ok (.iload_n 2, 1) := by decide +kernel
theorem dX8_entry_17 : decode cX8_entry 17 = .ok (.tableswitch 60 0 3 #[31, 39, 46, 53], 31) := by decide +kernel
theorem dX8_entry_48 : decode cX8_entry 48 = .ok (.aload_n 0, 1) := by decide +kernel
theorem dX8_entry_49 : decode cX8_entry 49 = .ok (.getfield 74, 3) := by decide +kernel
theorem dX8_entry_52 : decode cX8_entry 52 = .ok (.iload_n 1, 1) := by decide +kernel
theorem dX8_entry_53 : decode cX8_entry 53 = .ok (.iaload, 1) := by decide +kernel
theorem dX8_entry_54 : decode cX8_entry 54 = .ok (.i2l, 1) := by decide +kernel
theorem dX8_entry_55 : decode cX8_entry 55 = .ok (.lreturn, 1) := by decide +kernel
theorem dX8_entry_56 : decode cX8_entry 56 = .ok (.aload_n 0, 1) := by decide +kernel
theorem dX8_entry_57 : decode cX8_entry 57 = .ok (.getfield 77, 3) := by decide +kernel
theorem dX8_entry_60 : decode cX8_entry 60 = .ok (.iload_n 1, 1) := by decide +kernel
theorem dX8_entry_61 : decode cX8_entry 61 = .ok (.laload, 1) := by decide +kernel
theorem dX8_entry_62 : decode cX8_entry 62 = .ok (.lreturn, 1) := by decide +kernel
theorem dX8_entry_63 : decode cX8_entry 63 = .ok (.aload_n 0, 1) := by decide +kernel
theorem dX8_entry_64 : decode cX8_entry 64 = .ok (.getfield 81, 3) := by decide +kernel
theorem dX8_entry_67 : decode cX8_entry 67 = .ok (.iload_n 1, 1) := by decide +kernel
theorem dX8_entry_68 : decode cX8_entry 68 = .ok (.laload, 1) := by decide +kernel
theorem dX8_entry_69 : decode cX8_entry 69 = .ok (.lreturn, 1) := by decide +kernel
theorem dX8_entry_70 : decode cX8_entry 70 = .ok (.aload_n 0, 1) := by decide +kernel
theorem dX8_entry_71 : decode cX8_entry 71 = .ok (.getfield 84, 3) := by decide +kernel
theorem dX8_entry_74 : decode cX8_entry 74 = .ok (.iload_n 1, 1) := by decide +kernel
theorem dX8_entry_75 : decode cX8_entry 75 = .ok (.laload, 1) := by decide +kernel
theorem dX8_entry_76 : decode cX8_entry 76 = .ok (.lreturn, 1) := by decide +kernel
theorem dX8_entry_77 : decode cX8_entry 77 = .ok (.lconst 0, 1) := by decide +kernel
theorem dX8_entry_78 : decode cX8_entry 78 = .ok (.lreturn, 1) := by decide +kernel
set_option maxRecDepth 20000 in
theorem ggX8_chain_X8_in : GoodIn wsX8_chain wsX8_in := goodIn_r _ [7] (by decide +kernel) (by decide +kernel)
set_option maxRecDepth 20000 in
theorem gX8_chain_X8_in : GoodIn wsX8_chain (va_wsS RX8 122 yX8_in wsX8_in) := goodIn_app (goodIn_of _ (by decide +kernel)) ggX8_chain_X8_in
theorem dX8_chain_0 : decode cX8_chain 0 = .ok (.iload_n 1, 1) := by decide +kernel
theorem dX8_chain_1 : decode cX8_chain 1 = .ok (.iconst (-1), 1) := by decide +kernel
theorem dX8_chain_2 : decode cX8_chain 2 = .ok (.if_icmp .ne 7, 3) := by decide +kernel
theorem dX8_chain_5 : decode cX8_chain 5 = .ok (.ldc2_w 138, 3) := by decide +kernel
theorem dX8_chain_8 : decode cX8_chain 8 = .ok (.lreturn, 1) := by decide +kernel
theorem dX8_chain_9 : decode cX8_chain 9 = .ok (.iload_n 1, 1) := by decide +kernel
theorem dX8_chain_10 : decode cX8_chain 10 = .ok (.iconst 0, 1) := by decide +kernel
theorem dX8_chain_11 : decode cX8_chain 11 = .ok (.aload_n 0, 1) := by decide +kernel
theorem dX8_chain_12 : decode cX8_chain 12 = .ok (.getfield 135, 3) := by decide +kernel
theorem dX8_chain_15 : decode cX8_chain 15 = .ok (.iconst 1, 1) := by decide +kernel
theorem dX8_chain_16 : decode cX8_chain 16 = .ok (.isub, 1) := by decide +kernel
theorem dX8_chain_17 : decode cX8_chain 17 = .ok (.invokestatic 122, 3) := by decide +kernel
theorem dX8_chain_20 : decode cX8_chain 20 = .ok (.ifCond .eq 12, 3) := by decide +kernel
theorem dX8_chain_23 : decode cX8_chain 23 = .ok (.aload_n 0, 1) := by decide +kernel
theorem dX8_chain_24 : decode cX8_chain 24 = .ok (.getfield 87, 3) := by decide +kernel
theorem dX8_chain_27 : decode cX8_chain 27 = .ok (.iload_n 1, 1) := by decide +kernel
theorem dX8_chain_28 : decode cX8_chain 28 = .ok (.laload, 1) := by decide +kernel
theorem dX8_chain_29 : decode cX8_chain 29 = .ok (.goto 4, 3) := by decide +kernel
theorem dX8_chain_32 : decode cX8_chain 32 = .ok (.lconst 0, 1) := by decide +kernel
theorem dX8_chain_33 : decode cX8_chain 33 = .ok (.lreturn, 1) := by decide +kernel
theorem ab_15 {a b c d g h i j k l m n o q r x y : Int32} (e : x = y) : x = abv 15 [a, b, c, d, g, h, i, j, k, l, m, n, o, q, r, y] := e
theorem le_c {x v : Int32} {c0 : Nat} (h : x = nI c0) (hc : c0 ≤ 10) : (0 ≤ v ∧ v ≤ x) ↔ (0 ≤ v ∧ v < nI (c0 + 1)) := by
  rw [h]
  have e : nI (c0 + 1) - 1 = nI c0 := nI_pred c0
  have := in_1 (i := v) (x := nI (c0 + 1)) (n := c0 + 1) rfl (by omega)
  rw [e] at this
  exact this
theorem bx_n {i x : Int32} {b0 : Nat} (h : 0 ≤ i ∧ i < x) (hb : x = nI b0) (hb4 : b0 ≤ 40) : ∃ k : Nat, k < b0 ∧ i = nI k := by
  obtain ⟨k, hk, e⟩ := nI_of (x := i) (Int32.not_lt.mpr h.1)
  have h2 := h.2
  rw [e, hb, nI_ltI hk (by omega)] at h2
  exact ⟨k, h2, e⟩
theorem li_in {v i x : Int32} {mx0 b0 : Nat} (hv : v = nI mx0) (h5 : mx0 ≤ 4) (hi : 0 ≤ i ∧ i < x) (hb : x = nI b0) (hb4 : b0 ≤ 40) : vp_in (40 * v + i) 200 := by
  obtain ⟨k, hk, e⟩ := bx_n hi hb hb4
  rw [an_ix hv e]
  exact vp_in_nI (by omega) (by omega)
theorem g40_k {w : Nat → Int32} {i : Int32} {k : Nat} (e : i = nI k) (hk : k < 40) : g40 w i = w k := g40_n e hk
theorem li_at {v i x : Int32} {mx0 b0 : Nat} {g w : Nat → Int32} (hv : v = nI mx0) (h5 : mx0 ≤ 4) (hi : 0 ≤ i ∧ i < x) (hb : x = nI b0) (hb4 : b0 ≤ 40) (h : ∀ i : Nat, i < b0 → g (40 * mx0 + i) = w i) : g (40 * v + i).toNatClampNeg = g40 w i := by
  obtain ⟨k, hk, e⟩ := bx_n hi hb hb4
  rw [an_at (g := g) hv e h5 (by omega), h k hk, g40_k e (by omega)]
theorem sn_0 {i w x : Int32} {b0 : Nat} {wt we : Nat → Int32} (hb : x = nI b0) (hb4 : b0 ≤ 40) (h : ∀ i : Nat, i < b0 → wt i = -1 ∧ we i = -1) : (-1 : Int32) = if 0 ≤ i ∧ i < x then prt wt we i w else -1 := by
  by_cases hi : 0 ≤ i ∧ i < x
  · obtain ⟨k, hk, e⟩ := bx_n hi hb hb4
    rw [if_pos hi, prt, g40_k e (by omega), g40_k e (by omega), (h k hk).1, (h k hk).2]
    split
    · rfl
    · split <;> rfl
  · rw [if_neg hi]
theorem sn_w {i w x : Int32} {wt we : Nat → Int32} (c : ¬ (0 ≤ w ∧ w ≤ 1)) : (-1 : Int32) = if 0 ≤ i ∧ i < x then prt wt we i w else -1 := by
  have h0 : ¬ w = 0 := fun h => c (by rw [h]; decide)
  have h1 : ¬ w = 1 := fun h => c (by rw [h]; decide)
  split
  · rw [prt, if_neg h0, if_neg h1]
  · rfl
theorem sn_2 {i w x : Int32} {b0 : Nat} {wt we wtf wyf : Nat → Int32} (hb : x = nI b0) (hb4 : b0 ≤ 40) (hi : 0 ≤ i ∧ i < x) (h : ∀ i : Nat, i < b0 → wtf i = wt i ∧ wyf i = we i) (c : w = 0) : wtf i.toNatClampNeg = if 0 ≤ i ∧ i < x then prt wt we i w else -1 := by
  obtain ⟨k, hk, e⟩ := bx_n hi hb hb4
  rw [if_pos hi, prt, if_pos c, g40_k e (by omega), i8_k e (by omega), (h k hk).1]
theorem sn_1 {i w x : Int32} {b0 : Nat} {wt we wtf wyf : Nat → Int32} (hb : x = nI b0) (hb4 : b0 ≤ 40) (hi : 0 ≤ i ∧ i < x) (h : ∀ i : Nat, i < b0 → wtf i = wt i ∧ wyf i = we i) (c : w = 1) : wyf i.toNatClampNeg = if 0 ≤ i ∧ i < x then prt wt we i w else -1 := by
  obtain ⟨k, hk, e⟩ := bx_n hi hb hb4
  have c0 : ¬ w = 0 := by rw [c]; decide
  rw [if_pos hi, prt, if_neg c0, if_pos c, g40_k e (by omega), i8_k e (by omega), (h k hk).2]
theorem gv_n1 {gv : Nat → Int32} {gf : Nat → Nat → Int32} {ts j i x : Int32} (h : ¬ ((1 ≤ j ∧ j ≤ ts) ∧ ¬ gv j.toNatClampNeg = 0)) : (-1 : Int32) = if 0 ≤ i ∧ i < x then gft gv gf ts j i else -1 := by
  split
  · rw [gft, if_neg (fun q => h q.1)]
  · rfl
theorem jx_n {j x : Int32} {t0 : Nat} (h : 1 ≤ j ∧ j ≤ x) (hx : x = nI t0) (ht5 : t0 ≤ 5) : ∃ k : Nat, 1 ≤ k ∧ k ≤ t0 ∧ j = nI k := by
  obtain ⟨k, hk, e⟩ := nI_of (x := j) (Int32.not_lt.mpr (Int32.le_trans (by decide) h.1))
  have h1 := h.1
  have h2 := h.2
  rw [e, show (1 : Int32) = nI 1 from rfl, nI_leI (by omega) hk] at h1
  rw [e, hx, nI_leI hk (by omega)] at h2
  exact ⟨k, h1, h2, e⟩
theorem gv_x {i j x ts : Int32} {b0 t0 : Nat} (hb : x = nI b0) (hb4 : b0 ≤ 40) (hts : ts = nI t0) (ht5 : t0 ≤ 5) (hi : 0 ≤ i ∧ i < x) (hj : 1 ≤ j ∧ j ≤ ts) : vp_in (40 * j + i) 240 := by
  obtain ⟨k, hk, e⟩ := bx_n hi hb hb4
  obtain ⟨a, _, ha, e2⟩ := jx_n hj hts ht5
  rw [an_ix e2 e]
  exact vp_in_nI (by omega) (by omega)
theorem gv_y {gv gvf : Nat → Int32} {gf : Nat → Nat → Int32} {i j x ts : Int32} {b0 t0 : Nat} (hb : x = nI b0) (hb4 : b0 ≤ 40) (hts : ts = nI t0) (ht5 : t0 ≤ 5) (hi : 0 ≤ i ∧ i < x) (hj : 1 ≤ j ∧ j ≤ ts) (c : ¬ gv j.toNatClampNeg = 0) (h : ∀ j : Nat, 1 ≤ j → j ≤ t0 → ¬ gv j = 0 → ∀ i : Nat, i < b0 → gvf (40 * j + i) = gf j i) : gvf (40 * j + i).toNatClampNeg = if 0 ≤ i ∧ i < x then gft gv gf ts j i else -1 := by
  obtain ⟨k, hk, e⟩ := bx_n hi hb hb4
  obtain ⟨a, ha1, ha, e2⟩ := jx_n hj hts ht5
  rw [if_pos hi, gft_n (k := k) ⟨hj, c⟩ e (by omega)]
  rw [i8_k e2 (by omega)] at c ⊢
  rw [an_ix e2 e, nI_clamp (by omega), h a ha1 ha c k hk]
set_option maxHeartbeats 4000000 in
set_option maxRecDepth 100000 in
theorem c_X8_count (l : Launch) (D : va_G) (cA : Nat → ClassId) (h0 : Nat) (m0 : Int32) (m1 : Int32) (m2 : Int32) (m3 : Int32) (m4 : Int32) (m5 : Nat) (m6 : Int32) (m7 : Int32) (m8 : Int32) (m9 : Nat) (m10 : Nat) (m11 : Nat) (m12 : Int32) (m13 : Nat) (m14 : Nat) (m15 : Nat) (m16 : Nat) (m17 : Int32) (m18 : Nat) (m19 : Nat) (m20 : Nat) (m21 : Nat) (m22 : Nat) (m23 : Nat) (m24 : Nat) (m25 : Nat) (m26 : Int32) (m27 : Int32) (m28 : Int32) (m29 : Int32) (m30 : Int32) (m31 : Int32) (m32 : Nat) (m33 : Nat) (m34 : Nat) (m35 : Nat) (m36 : Int32) (m37 : Nat) (m38 : Int32) (m39 : Nat) (m40 : Nat) (m41 : Nat) (m42 : Nat) (m43 : Nat) (v : Int32) (ctf : Nat → Int32) (c0 : Nat) (hca : m2 = nI c0) (hc1 : c0 ≤ 10) : Met l yX8_count wsX8_count ({ frames := 1, cells := 0, slots := 0, locals := 22 }) (rPc vwCl D cA [(h0, .inr (7, [.int m0, .int m1, .int m2, .int m3, .int m4, .ref m5, .int m6, .int m7, .int m8, .ref m9, .ref m10, .ref m11, .int m12, .ref m13, .ref m14, .ref m15, .ref m16, .int m17, .ref m18, .ref m19, .ref m20, .ref m21, .ref m22, .ref m23, .ref m24, .ref m25, .int m26, .int m27, .int m28, .int m29, .int m30, .int m31, .ref m32, .ref m33, .ref m34, .ref m35, .int m36, .ref m37, .int m38, .ref m39, .ref m40, .ref m41, .ref m42, .ref m43])), (m37, .inl (cA 0, 11, .inl ctf))] [.ref h0, .int v]) (rq_x (some (.int (if m6 = 3 ∧ 0 ≤ v ∧ v < nI (c0 + 1) then ctf v.toNatClampNeg else -1)))) 0 0 (fun _ => False) := by
  refine Met.ofW (cc := cX8_count) (maxL := 2) (ret := (some .int)) (by decide) rfl ?_
  intro p e s m args below meth c s₁ B hml hv
  obtain ⟨rfl, hP, hK⟩ := hv
  have hx := B.exec
  have hb := B.bytes
  have hr := B.returns
  have hts := atoms_spec (ws := wsX8_count) B.pre
  have hown : s.vm.findClass RX8 = some m.cls := findClass_of_methodNamed B.named
  have hlocks := B.notSynchronized
  have hin_X8 : ∀ w ∈ wsX80, w ∈ wsX8_count := fun w h => List.mem_cons_of_mem _ (List.mem_append_right _ h)
  have w_RX8_140 := hts (.fieldLink RX8 140 "MixElectionModel" "stage" "I") (by decide +kernel)
  have w_RX8_106 := hts (.fieldLink RX8 106 "MixElectionModel" "candidates" "I") (by decide +kernel)
  have w_RX8_71 := hts (.fieldLink RX8 71 "MixElectionModel" "count" "[I") (by decide +kernel)
  have hl := lv_entry ([.ref h0, .int v]) (n := 2) (Nat.le_of_ble_eq_true rfl)
  rw [lg_entry_eq]
  generalize (lg_sl ([.ref h0, .int v]) ++ List.replicate (2 - (lg_sl ([.ref h0, .int v])).length) Slot.unset).toArray = ls at hl ⊢
  have hl : lv_has ls 2 [(0, .ref h0), (1, .int v)] := hl
  refine lv_aload_n hx hb dX8_count_0 rfl (lv_at hl 0 rfl) ?_
  refine va_get (D := D) (ci := 7) (v := .int m6) (C := RX8) (T := TX8) (N := 44) hx hb hts hin_X8 hown hK hP 0 rfl rfl 6 (by decide) (w_RX8_140) (fun _ h9 => h9) rfl dX8_count_1 ?_
  refine lv_iconst (v := 3) hx hb dX8_count_4 (by decide) ?_
  refine lv_icmp_ne (tgt := 29) hx hb dX8_count_5 (by decide) (fun c_5 => ?_) (fun c_5 => ?_)
  · skip
    refine lv_iconst (v := (-1)) hx hb dX8_count_29 (by decide) ?_
    exact W.iret (v := (-1)) hx hb hr (fun t ht hW => ⟨congrArg (fun z => Outcome.returned (some (Value.int z))) ((by rw [if_neg (fun h => c_5 h.1)])), ht⟩) (fun _ h => by cases h) dX8_count_30
  · skip
    refine lv_iload_n hx hb dX8_count_8 rfl (lv_at hl 1 rfl) ?_
    refine lv_iconst (v := 0) hx hb dX8_count_9 (by decide) ?_
    refine lv_aload_n hx hb dX8_count_10 rfl (lv_at hl 0 rfl) ?_
    refine va_get (D := D) (ci := 7) (v := .int m2) (C := RX8) (T := TX8) (N := 44) hx hb hts hin_X8 hown hK hP 0 rfl rfl 2 (by decide) (w_RX8_106) (fun _ h9 => h9) rfl dX8_count_11 ?_
    refine rq_call1 (v := .int (bI (0 ≤ v ∧ v ≤ m2))) (rn_S (As := [.int v, .int 0, .int m2]) (rest := []) ⟨hx, hb, hml, hown, hts⟩ (c_X8_in l D cA v 0 m2) (va_cwS 3 hts gX8_count_X8_in rfl rfl rfl (by decide +kernel) ⟨Nat.le_of_ble_eq_true rfl, Nat.le_of_ble_eq_true rfl⟩) hK hP [] rfl rfl hl.1 rfl (Nat.le_of_ble_eq_true rfl) dX8_count_14 ⟨Nat.le_of_ble_eq_true rfl, Nat.le_of_ble_eq_true rfl⟩) ?_
    refine lv_if_eq (tgt := 29) hx hb dX8_count_17 (by decide) (fun c_17 => ?_) (fun c_17 => ?_)
    · skip
      refine lv_iconst (v := (-1)) hx hb dX8_count_29 (by decide) ?_
      exact W.iret (v := (-1)) hx hb hr (fun t ht hW => ⟨congrArg (fun z => Outcome.returned (some (Value.int z))) ((by rw [if_neg (fun h => bI_0 c_17 ((le_c hca hc1).mpr h.2))])), ht⟩) (fun _ h => by cases h) dX8_count_30
    · skip
      refine lv_aload_n hx hb dX8_count_20 rfl (lv_at hl 0 rfl) ?_
      refine va_get (D := D) (ci := 7) (v := .ref m37) (C := RX8) (T := TX8) (N := 44) hx hb hts hin_X8 hown hK hP 0 rfl rfl 37 (by decide) (w_RX8_71) (fun _ h9 => h9) rfl dX8_count_21 ?_
      refine lv_iload_n hx hb dX8_count_24 rfl (lv_at hl 1 rfl) ?_
      refine va_iald hx hb hK hP 1 0 rfl rfl (ix_in ((le_c hca hc1).mp (bI_1 c_17)) (rfl : nI (c0 + 1) = nI (c0 + 1)) (by omega)) dX8_count_25 ?_
      refine lv_goto (tgt := 30) hx hb dX8_count_26 (by decide) ?_
      exact W.iret (v := (ctf v.toNatClampNeg)) hx hb hr (fun t ht hW => ⟨congrArg (fun z => Outcome.returned (some (Value.int z))) ((by rw [if_pos ⟨c_5, (le_c hca hc1).mp (bI_1 c_17)⟩])), ht⟩) (fun _ h => by cases h) dX8_count_30

set_option maxHeartbeats 4000000 in
set_option maxRecDepth 100000 in
theorem c_X8_about (l : Launch) (D : va_G) (cA : Nat → ClassId) (h0 : Nat) (m0 : Int32) (m1 : Int32) (m2 : Int32) (m3 : Int32) (m4 : Int32) (m5 : Nat) (m6 : Int32) (m7 : Int32) (m8 : Int32) (m9 : Nat) (m10 : Nat) (m11 : Nat) (m12 : Int32) (m13 : Nat) (m14 : Nat) (m15 : Nat) (m16 : Nat) (m17 : Int32) (m18 : Nat) (m19 : Nat) (m20 : Nat) (m21 : Nat) (m22 : Nat) (m23 : Nat) (m24 : Nat) (m25 : Nat) (m26 : Int32) (m27 : Int32) (m28 : Int32) (m29 : Int32) (m30 : Int32) (m31 : Int32) (m32 : Nat) (m33 : Nat) (m34 : Nat) (m35 : Nat) (m36 : Int32) (m37 : Nat) (m38 : Int32) (m39 : Nat) (m40 : Nat) (m41 : Nat) (m42 : Nat) (m43 : Nat) (wh : Int32) (tof : Nat → Int32) (b0 : Nat) (hnb : m12 = nI b0) (hb4 : b0 ≤ 40) : Met l yX8_about wsX8_about ({ frames := 1, cells := 0, slots := 0, locals := 22 }) (rPc vwCl D cA [(h0, .inr (7, [.int m0, .int m1, .int m2, .int m3, .int m4, .ref m5, .int m6, .int m7, .int m8, .ref m9, .ref m10, .ref m11, .int m12, .ref m13, .ref m14, .ref m15, .ref m16, .int m17, .ref m18, .ref m19, .ref m20, .ref m21, .ref m22, .ref m23, .ref m24, .ref m25, .int m26, .int m27, .int m28, .int m29, .int m30, .int m31, .ref m32, .ref m33, .ref m34, .ref m35, .int m36, .ref m37, .int m38, .ref m39, .ref m40, .ref m41, .ref m42, .ref m43])), (m18, .inl (cA 0, 40, .inl tof))] [.ref h0, .int wh]) (rq_x (some (.int (abv wh [m0, m1, m7, m2, m3, m4, m8, m6, m38, (if m6 < 2 then -1 else m12), m26, m27, m29, m36, (if m28 = 0 then 0 else 1), (if m6 = 2 then bI (whl tof b0) else -1)])))) 0 0 (fun _ => False) := by
  refine Met.ofW (cc := cX8_about) (maxL := 2) (ret := (some .int)) (by decide) rfl ?_
  intro p e s m args below meth c s₁ B hml hv
  obtain ⟨rfl, hP, hK⟩ := hv
  have hx := B.exec
  have hb := B.bytes
  have hr := B.returns
  have hts := atoms_spec (ws := wsX8_about) B.pre
  have hown : s.vm.findClass RX8 = some m.cls := findClass_of_methodNamed B.named
  have hlocks := B.notSynchronized
  have hin_X8 : ∀ w ∈ wsX80, w ∈ wsX8_about := fun w h => List.mem_cons_of_mem _ (List.mem_append_right _ h)
  have w_RX8_99 := hts (.fieldLink RX8 99 "MixElectionModel" "p" "I") (by decide +kernel)
  have w_RX8_103 := hts (.fieldLink RX8 103 "MixElectionModel" "q" "I") (by decide +kernel)
  have w_RX8_146 := hts (.fieldLink RX8 146 "MixElectionModel" "h" "I") (by decide +kernel)
  have w_RX8_106 := hts (.fieldLink RX8 106 "MixElectionModel" "candidates" "I") (by decide +kernel)
  have w_RX8_109 := hts (.fieldLink RX8 109 "MixElectionModel" "trustees" "I") (by decide +kernel)
  have w_RX8_112 := hts (.fieldLink RX8 112 "MixElectionModel" "threshold" "I") (by decide +kernel)
  have w_RX8_153 := hts (.fieldLink RX8 153 "MixElectionModel" "voters" "I") (by decide +kernel)
  have w_RX8_140 := hts (.fieldLink RX8 140 "MixElectionModel" "stage" "I") (by decide +kernel)
  have w_RX8_135 := hts (.fieldLink RX8 135 "MixElectionModel" "entries" "I") (by decide +kernel)
  have w_RX8_170 := hts (.fieldLink RX8 170 "MixElectionModel" "many" "I") (by decide +kernel)
  have w_RX8_191 := hts (.fieldLink RX8 191 "MixElectionModel" "mixes" "I") (by decide +kernel)
  have w_RX8_203 := hts (.fieldLink RX8 203 "MixElectionModel" "rounds" "I") (by decide +kernel)
  have w_RX8_212 := hts (.fieldLink RX8 212 "MixElectionModel" "rejected" "I") (by decide +kernel)
  have w_RX8_185 := hts (.fieldLink RX8 185 "MixElectionModel" "shares" "I") (by decide +kernel)
  have w_RX8_181 := hts (.fieldLink RX8 181 "MixElectionModel" "isDue" "Z") (by decide +kernel)
  have hl := lv_entry ([.ref h0, .int wh]) (n := 2) (Nat.le_of_ble_eq_true rfl)
  rw [lg_entry_eq]
  generalize (lg_sl ([.ref h0, .int wh]) ++ List.replicate (2 - (lg_sl ([.ref h0, .int wh])).length) Slot.unset).toArray = ls at hl ⊢
  have hl : lv_has ls 2 [(0, .ref h0), (1, .int wh)] := hl
  refine lv_iload_n hx hb dX8_about_0 rfl (lv_at hl 1 rfl) ?_
  rcases sw_16 wh with rfl | rfl | rfl | rfl | rfl | rfl | rfl | rfl | rfl | rfl | rfl | rfl | rfl | rfl | rfl | rfl | hsw
  · refine lv_tableIn (off := 79) (tgt := 80) hx hb dX8_about_1 (by decide) (by decide) (by decide) (by decide) ?_
    refine lv_aload_n hx hb dX8_about_80 rfl (lv_at hl 0 rfl) ?_
    refine va_get (D := D) (ci := 7) (v := .int m0) (C := RX8) (T := TX8) (N := 44) hx hb hts hin_X8 hown hK hP 0 rfl rfl 0 (by decide) (w_RX8_99) (fun _ h9 => h9) rfl dX8_about_81 ?_
    exact W.iret (v := m0) hx hb hr (fun t ht hW => ⟨congrArg (fun z => Outcome.returned (some (Value.int z))) (rfl), ht⟩) (fun _ h => by cases h) dX8_about_84
  · refine lv_tableIn (off := 84) (tgt := 85) hx hb dX8_about_1 (by decide) (by decide) (by decide) (by decide) ?_
    refine lv_aload_n hx hb dX8_about_85 rfl (lv_at hl 0 rfl) ?_
    refine va_get (D := D) (ci := 7) (v := .int m1) (C := RX8) (T := TX8) (N := 44) hx hb hts hin_X8 hown hK hP 0 rfl rfl 1 (by decide) (w_RX8_103) (fun _ h9 => h9) rfl dX8_about_86 ?_
    exact W.iret (v := m1) hx hb hr (fun t ht hW => ⟨congrArg (fun z => Outcome.returned (some (Value.int z))) (rfl), ht⟩) (fun _ h => by cases h) dX8_about_89
  · refine lv_tableIn (off := 89) (tgt := 90) hx hb dX8_about_1 (by decide) (by decide) (by decide) (by decide) ?_
    refine lv_aload_n hx hb dX8_about_90 rfl (lv_at hl 0 rfl) ?_
    refine va_get (D := D) (ci := 7) (v := .int m7) (C := RX8) (T := TX8) (N := 44) hx hb hts hin_X8 hown hK hP 0 rfl rfl 7 (by decide) (w_RX8_146) (fun _ h9 => h9) rfl dX8_about_91 ?_
    exact W.iret (v := m7) hx hb hr (fun t ht hW => ⟨congrArg (fun z => Outcome.returned (some (Value.int z))) (rfl), ht⟩) (fun _ h => by cases h) dX8_about_94
  · refine lv_tableIn (off := 94) (tgt := 95) hx hb dX8_about_1 (by decide) (by decide) (by decide) (by decide) ?_
    refine lv_aload_n hx hb dX8_about_95 rfl (lv_at hl 0 rfl) ?_
    refine va_get (D := D) (ci := 7) (v := .int m2) (C := RX8) (T := TX8) (N := 44) hx hb hts hin_X8 hown hK hP 0 rfl rfl 2 (by decide) (w_RX8_106) (fun _ h9 => h9) rfl dX8_about_96 ?_
    exact W.iret (v := m2) hx hb hr (fun t ht hW => ⟨congrArg (fun z => Outcome.returned (some (Value.int z))) (rfl), ht⟩) (fun _ h => by cases h) dX8_about_99
  · refine lv_tableIn (off := 99) (tgt := 100) hx hb dX8_about_1 (by decide) (by decide) (by decide) (by decide) ?_
    refine lv_aload_n hx hb dX8_about_100 rfl (lv_at hl 0 rfl) ?_
    refine va_get (D := D) (ci := 7) (v := .int m3) (C := RX8) (T := TX8) (N := 44) hx hb hts hin_X8 hown hK hP 0 rfl rfl 3 (by decide) (w_RX8_109) (fun _ h9 => h9) rfl dX8_about_101 ?_
    exact W.iret (v := m3) hx hb hr (fun t ht hW => ⟨congrArg (fun z => Outcome.returned (some (Value.int z))) (rfl), ht⟩) (fun _ h => by cases h) dX8_about_104
  · refine lv_tableIn (off := 104) (tgt := 105) hx hb dX8_about_1 (by decide) (by decide) (by decide) (by decide) ?_
    refine lv_aload_n hx hb dX8_about_105 rfl (lv_at hl 0 rfl) ?_
    refine va_get (D := D) (ci := 7) (v := .int m4) (C := RX8) (T := TX8) (N := 44) hx hb hts hin_X8 hown hK hP 0 rfl rfl 4 (by decide) (w_RX8_112) (fun _ h9 => h9) rfl dX8_about_106 ?_
    exact W.iret (v := m4) hx hb hr (fun t ht hW => ⟨congrArg (fun z => Outcome.returned (some (Value.int z))) (rfl), ht⟩) (fun _ h => by cases h) dX8_about_109
  · refine lv_tableIn (off := 109) (tgt := 110) hx hb dX8_about_1 (by decide) (by decide) (by decide) (by decide) ?_
    refine lv_aload_n hx hb dX8_about_110 rfl (lv_at hl 0 rfl) ?_
    refine va_get (D := D) (ci := 7) (v := .int m8) (C := RX8) (T := TX8) (N := 44) hx hb hts hin_X8 hown hK hP 0 rfl rfl 8 (by decide) (w_RX8_153) (fun _ h9 => h9) rfl dX8_about_111 ?_
    exact W.iret (v := m8) hx hb hr (fun t ht hW => ⟨congrArg (fun z => Outcome.returned (some (Value.int z))) (rfl), ht⟩) (fun _ h => by cases h) dX8_about_114
  · refine lv_tableIn (off := 114) (tgt := 115) hx hb dX8_about_1 (by decide) (by decide) (by decide) (by decide) ?_
    refine lv_aload_n hx hb dX8_about_115 rfl (lv_at hl 0 rfl) ?_
    refine va_get (D := D) (ci := 7) (v := .int m6) (C := RX8) (T := TX8) (N := 44) hx hb hts hin_X8 hown hK hP 0 rfl rfl 6 (by decide) (w_RX8_140) (fun _ h9 => h9) rfl dX8_about_116 ?_
    exact W.iret (v := m6) hx hb hr (fun t ht hW => ⟨congrArg (fun z => Outcome.returned (some (Value.int z))) (rfl), ht⟩) (fun _ h => by cases h) dX8_about_119
  · refine lv_tableIn (off := 119) (tgt := 120) hx hb dX8_about_1 (by decide) (by decide) (by decide) (by decide) ?_
    refine lv_aload_n hx hb dX8_about_120 rfl (lv_at hl 0 rfl) ?_
    refine va_get (D := D) (ci := 7) (v := .int m38) (C := RX8) (T := TX8) (N := 44) hx hb hts hin_X8 hown hK hP 0 rfl rfl 38 (by decide) (w_RX8_135) (fun _ h9 => h9) rfl dX8_about_121 ?_
    exact W.iret (v := m38) hx hb hr (fun t ht hW => ⟨congrArg (fun z => Outcome.returned (some (Value.int z))) (rfl), ht⟩) (fun _ h => by cases h) dX8_about_124
  · refine lv_tableIn (off := 124) (tgt := 125) hx hb dX8_about_1 (by decide) (by decide) (by decide) (by decide) ?_
    refine lv_aload_n hx hb dX8_about_125 rfl (lv_at hl 0 rfl) ?_
    refine va_get (D := D) (ci := 7) (v := .int m6) (C := RX8) (T := TX8) (N := 44) hx hb hts hin_X8 hown hK hP 0 rfl rfl 6 (by decide) (w_RX8_140) (fun _ h9 => h9) rfl dX8_about_126 ?_
    refine lv_iconst (v := 2) hx hb dX8_about_129 (by decide) ?_
    refine lv_icmp_ge (tgt := 137) hx hb dX8_about_130 (by decide) (fun c_130 => ?_) (fun c_130 => ?_)
    · skip
      refine lv_aload_n hx hb dX8_about_137 rfl (lv_at hl 0 rfl) ?_
      refine va_get (D := D) (ci := 7) (v := .int m12) (C := RX8) (T := TX8) (N := 44) hx hb hts hin_X8 hown hK hP 0 rfl rfl 12 (by decide) (w_RX8_170) (fun _ h9 => h9) rfl dX8_about_138 ?_
      exact W.iret (v := m12) hx hb hr (fun t ht hW => ⟨congrArg (fun z => Outcome.returned (some (Value.int z))) (ab_9 ((if_neg (Int32.not_lt.mpr c_130)).symm)), ht⟩) (fun _ h => by cases h) dX8_about_141
    · skip
      refine lv_iconst (v := (-1)) hx hb dX8_about_133 (by decide) ?_
      refine lv_goto (tgt := 141) hx hb dX8_about_134 (by decide) ?_
      exact W.iret (v := (-1)) hx hb hr (fun t ht hW => ⟨congrArg (fun z => Outcome.returned (some (Value.int z))) (ab_9 ((if_pos (Int32.not_le.mp c_130)).symm)), ht⟩) (fun _ h => by cases h) dX8_about_141
  · refine lv_tableIn (off := 141) (tgt := 142) hx hb dX8_about_1 (by decide) (by decide) (by decide) (by decide) ?_
    refine lv_aload_n hx hb dX8_about_142 rfl (lv_at hl 0 rfl) ?_
    refine va_get (D := D) (ci := 7) (v := .int m26) (C := RX8) (T := TX8) (N := 44) hx hb hts hin_X8 hown hK hP 0 rfl rfl 26 (by decide) (w_RX8_191) (fun _ h9 => h9) rfl dX8_about_143 ?_
    exact W.iret (v := m26) hx hb hr (fun t ht hW => ⟨congrArg (fun z => Outcome.returned (some (Value.int z))) (rfl), ht⟩) (fun _ h => by cases h) dX8_about_146
  · refine lv_tableIn (off := 146) (tgt := 147) hx hb dX8_about_1 (by decide) (by decide) (by decide) (by decide) ?_
    refine lv_aload_n hx hb dX8_about_147 rfl (lv_at hl 0 rfl) ?_
    refine va_get (D := D) (ci := 7) (v := .int m27) (C := RX8) (T := TX8) (N := 44) hx hb hts hin_X8 hown hK hP 0 rfl rfl 27 (by decide) (w_RX8_203) (fun _ h9 => h9) rfl dX8_about_148 ?_
    exact W.iret (v := m27) hx hb hr (fun t ht hW => ⟨congrArg (fun z => Outcome.returned (some (Value.int z))) (rfl), ht⟩) (fun _ h => by cases h) dX8_about_151
  · refine lv_tableIn (off := 151) (tgt := 152) hx hb dX8_about_1 (by decide) (by decide) (by decide) (by decide) ?_
    refine lv_aload_n hx hb dX8_about_152 rfl (lv_at hl 0 rfl) ?_
    refine va_get (D := D) (ci := 7) (v := .int m29) (C := RX8) (T := TX8) (N := 44) hx hb hts hin_X8 hown hK hP 0 rfl rfl 29 (by decide) (w_RX8_212) (fun _ h9 => h9) rfl dX8_about_153 ?_
    exact W.iret (v := m29) hx hb hr (fun t ht hW => ⟨congrArg (fun z => Outcome.returned (some (Value.int z))) (rfl), ht⟩) (fun _ h => by cases h) dX8_about_156
  · refine lv_tableIn (off := 156) (tgt := 157) hx hb dX8_about_1 (by decide) (by decide) (by decide) (by decide) ?_
    refine lv_aload_n hx hb dX8_about_157 rfl (lv_at hl 0 rfl) ?_
    refine va_get (D := D) (ci := 7) (v := .int m36) (C := RX8) (T := TX8) (N := 44) hx hb hts hin_X8 hown hK hP 0 rfl rfl 36 (by decide) (w_RX8_185) (fun _ h9 => h9) rfl dX8_about_158 ?_
    exact W.iret (v := m36) hx hb hr (fun t ht hW => ⟨congrArg (fun z => Outcome.returned (some (Value.int z))) (rfl), ht⟩) (fun _ h => by cases h) dX8_about_161
  · refine lv_tableIn (off := 161) (tgt := 162) hx hb dX8_about_1 (by decide) (by decide) (by decide) (by decide) ?_
    refine lv_aload_n hx hb dX8_about_162 rfl (lv_at hl 0 rfl) ?_
    refine va_get (D := D) (ci := 7) (v := .int m28) (C := RX8) (T := TX8) (N := 44) hx hb hts hin_X8 hown hK hP 0 rfl rfl 28 (by decide) (w_RX8_181) (fun _ h9 => h9) rfl dX8_about_163 ?_
    refine lv_if_eq (tgt := 173) hx hb dX8_about_166 (by decide) (fun c_166 => ?_) (fun c_166 => ?_)
    · skip
      refine lv_iconst (v := 0) hx hb dX8_about_173 (by decide) ?_
      exact W.iret (v := 0) hx hb hr (fun t ht hW => ⟨congrArg (fun z => Outcome.returned (some (Value.int z))) (ab_14 ((if_pos c_166).symm)), ht⟩) (fun _ h => by cases h) dX8_about_174
    · skip
      refine lv_iconst (v := 1) hx hb dX8_about_169 (by decide) ?_
      refine lv_goto (tgt := 174) hx hb dX8_about_170 (by decide) ?_
      exact W.iret (v := 1) hx hb hr (fun t ht hW => ⟨congrArg (fun z => Outcome.returned (some (Value.int z))) (ab_14 ((if_neg c_166).symm)), ht⟩) (fun _ h => by cases h) dX8_about_174
  · refine lv_tableIn (off := 174) (tgt := 175) hx hb dX8_about_1 (by decide) (by decide) (by decide) (by decide) ?_
    refine lv_aload_n hx hb dX8_about_175 rfl (lv_at hl 0 rfl) ?_
    refine va_get (D := D) (ci := 7) (v := .int m6) (C := RX8) (T := TX8) (N := 44) hx hb hts hin_X8 hown hK hP 0 rfl rfl 6 (by decide) (w_RX8_140) (fun _ h9 => h9) rfl dX8_about_176 ?_
    refine lv_iconst (v := 2) hx hb dX8_about_179 (by decide) ?_
    refine lv_icmp_eq (tgt := 187) hx hb dX8_about_180 (by decide) (fun c_180 => ?_) (fun c_180 => ?_)
    · skip
      refine lv_aload_n hx hb dX8_about_187 rfl (lv_at hl 0 rfl) ?_
      refine rq_call1 (v := .int (bI (whl tof b0))) (rn_V (As := []) (rest := []) (ci := 7) (fs := [.int m0, .int m1, .int m2, .int m3, .int m4, .ref m5, .int m6, .int m7, .int m8, .ref m9, .ref m10, .ref m11, .int m12, .ref m13, .ref m14, .ref m15, .ref m16, .int m17, .ref m18, .ref m19, .ref m20, .ref m21, .ref m22, .ref m23, .ref m24, .ref m25, .int m26, .int m27, .int m28, .int m29, .int m30, .int m31, .ref m32, .ref m33, .ref m34, .ref m35, .int m36, .ref m37, .int m38, .ref m39, .ref m40, .ref m41, .ref m42, .ref m43]) ⟨hx, hb, hml, hown, hts⟩ (c_X8_isWhole l D cA h0 m0 m1 m2 m3 m4 m5 m6 m7 m8 m9 m10 m11 m12 m13 m14 m15 m16 m17 m18 m19 m20 m21 m22 m23 m24 m25 m26 m27 m28 m29 m30 m31 m32 m33 m34 m35 m36 m37 m38 m39 m40 m41 m42 m43 tof b0 hnb hb4) rfl (cwV 0 hts gX8_about_X8_isWhole rfl rfl rfl (by decide +kernel) ⟨Nat.le_of_ble_eq_true rfl, Nat.le_of_ble_eq_true rfl⟩) hK hP [0, 1] rfl rfl rfl hl.1 rfl (Nat.le_of_ble_eq_true rfl) dX8_about_188 ⟨Nat.le_of_ble_eq_true rfl, Nat.le_of_ble_eq_true rfl⟩) ?_
      refine lv_if_eq (tgt := 198) hx hb dX8_about_191 (by decide) (fun c_191 => ?_) (fun c_191 => ?_)
      · skip
        refine lv_iconst (v := 0) hx hb dX8_about_198 (by decide) ?_
        exact W.iret (v := 0) hx hb hr (fun t ht hW => ⟨congrArg (fun z => Outcome.returned (some (Value.int z))) (ab_15 (by rw [if_pos c_180]; exact c_191.symm)), ht⟩) (fun _ h => by cases h) dX8_about_199
      · skip
        refine lv_iconst (v := 1) hx hb dX8_about_194 (by decide) ?_
        refine lv_goto (tgt := 199) hx hb dX8_about_195 (by decide) ?_
        exact W.iret (v := 1) hx hb hr (fun t ht hW => ⟨congrArg (fun z => Outcome.returned (some (Value.int z))) (ab_15 (by rw [if_pos c_180]; exact (bI_is1 c_191).symm)), ht⟩) (fun _ h => by cases h) dX8_about_199
    · skip
      refine lv_iconst (v := (-1)) hx hb dX8_about_183 (by decide) ?_
      refine lv_goto (tgt := 199) hx hb dX8_about_184 (by decide) ?_
      exact W.iret (v := (-1)) hx hb hr (fun t ht hW => ⟨congrArg (fun z => Outcome.returned (some (Value.int z))) (ab_15 ((if_neg c_180).symm)), ht⟩) (fun _ h => by cases h) dX8_about_199
  · refine lv_tableOut (tgt := 200) hx hb dX8_about_1 hsw (by decide) ?_
    refine lv_iconst (v := (-1)) hx hb dX8_about_200 (by decide) ?_
    exact W.iret (v := (-1)) hx hb hr (fun t ht hW => ⟨congrArg (fun z => Outcome.returned (some (Value.int z))) (abv_out hsw rfl), ht⟩) (fun _ h => by cases h) dX8_about_201

set_option maxHeartbeats 4000000 in
set_option maxRecDepth 100000 in
theorem c_X8_list_no (l : Launch) (D : va_G) (cA : Nat → ClassId) (h0 : Nat) (m0 : Int32) (m1 : Int32) (m2 : Int32) (m3 : Int32) (m4 : Int32) (m5 : Nat) (m6 : Int32) (m7 : Int32) (m8 : Int32) (m9 : Nat) (m10 : Nat) (m11 : Nat) (m12 : Int32) (m13 : Nat) (m14 : Nat) (m15 : Nat) (m16 : Nat) (m17 : Int32) (m18 : Nat) (m19 : Nat) (m20 : Nat) (m21 : Nat) (m22 : Nat) (m23 : Nat) (m24 : Nat) (m25 : Nat) (m26 : Int32) (m27 : Int32) (m28 : Int32) (m29 : Int32) (m30 : Int32) (m31 : Int32) (m32 : Nat) (m33 : Nat) (m34 : Nat) (m35 : Nat) (m36 : Int32) (m37 : Nat) (m38 : Int32) (m39 : Nat) (m40 : Nat) (m41 : Nat) (m42 : Nat) (m43 : Nat) (v : Int32) (i : Int32) (w : Int32) (b0 : Nat) (hno : ¬ ((0 ≤ v ∧ v ≤ m26) ∧ (0 ≤ i ∧ i < m12))) (hnb : m12 = nI b0) (hb4 : b0 ≤ 40) : Met l yX8_list wsX8_list ({ frames := 1, cells := 0, slots := 0, locals := 22 }) (rPc vwCl D cA [(h0, .inr (7, [.int m0, .int m1, .int m2, .int m3, .int m4, .ref m5, .int m6, .int m7, .int m8, .ref m9, .ref m10, .ref m11, .int m12, .ref m13, .ref m14, .ref m15, .ref m16, .int m17, .ref m18, .ref m19, .ref m20, .ref m21, .ref m22, .ref m23, .ref m24, .ref m25, .int m26, .int m27, .int m28, .int m29, .int m30, .int m31, .ref m32, .ref m33, .ref m34, .ref m35, .int m36, .ref m37, .int m38, .ref m39, .ref m40, .ref m41, .ref m42, .ref m43]))] [.ref h0, .int v, .int i, .int w]) (rq_x (some (.int (-1)))) 0 0 (fun _ => False) := by
  refine Met.ofW (cc := cX8_list) (maxL := 4) (ret := (some .int)) (by decide) rfl ?_
  intro p e s m args below meth c s₁ B hml hv
  obtain ⟨rfl, hP, hK⟩ := hv
  have hx := B.exec
  have hb := B.bytes
  have hr := B.returns
  have hts := atoms_spec (ws := wsX8_list) B.pre
  have hown : s.vm.findClass RX8 = some m.cls := findClass_of_methodNamed B.named
  have hlocks := B.notSynchronized
  have hin_X8 : ∀ w ∈ wsX80, w ∈ wsX8_list := fun w h => List.mem_cons_of_mem _ (List.mem_append_right _ h)
  have w_RX8_140 := hts (.fieldLink RX8 140 "MixElectionModel" "stage" "I") (by decide +kernel)
  have w_RX8_191 := hts (.fieldLink RX8 191 "MixElectionModel" "mixes" "I") (by decide +kernel)
  have w_RX8_170 := hts (.fieldLink RX8 170 "MixElectionModel" "many" "I") (by decide +kernel)
  have hl := lv_entry ([.ref h0, .int v, .int i, .int w]) (n := 4) (Nat.le_of_ble_eq_true rfl)
  rw [lg_entry_eq]
  generalize (lg_sl ([.ref h0, .int v, .int i, .int w]) ++ List.replicate (4 - (lg_sl ([.ref h0, .int v, .int i, .int w])).length) Slot.unset).toArray = ls at hl ⊢
  have hl : lv_has ls 4 [(0, .ref h0), (1, .int v), (2, .int i), (3, .int w)] := hl
  refine lv_aload_n hx hb dX8_list_0 rfl (lv_at hl 0 rfl) ?_
  refine va_get (D := D) (ci := 7) (v := .int m6) (C := RX8) (T := TX8) (N := 44) hx hb hts hin_X8 hown hK hP 0 rfl rfl 6 (by decide) (w_RX8_140) (fun _ h9 => h9) rfl dX8_list_1 ?_
  refine lv_iconst (v := 2) hx hb dX8_list_4 (by decide) ?_
  refine lv_icmp_lt (tgt := 43) hx hb dX8_list_5 (by decide) (fun c_5 => ?_) (fun c_5 => ?_)
  · skip
    refine lv_iconst (v := (-1)) hx hb dX8_list_43 (by decide) ?_
    exact W.iret (v := (-1)) hx hb hr (fun t ht hW => ⟨congrArg (fun z => Outcome.returned (some (Value.int z))) (rfl), ht⟩) (fun _ h => by cases h) dX8_list_44
  · skip
    refine lv_iload_n hx hb dX8_list_8 rfl (lv_at hl 1 rfl) ?_
    refine lv_iconst (v := 0) hx hb dX8_list_9 (by decide) ?_
    refine lv_aload_n hx hb dX8_list_10 rfl (lv_at hl 0 rfl) ?_
    refine va_get (D := D) (ci := 7) (v := .int m26) (C := RX8) (T := TX8) (N := 44) hx hb hts hin_X8 hown hK hP 0 rfl rfl 26 (by decide) (w_RX8_191) (fun _ h9 => h9) rfl dX8_list_11 ?_
    refine rq_call1 (v := .int (bI (0 ≤ v ∧ v ≤ m26))) (rn_S (As := [.int v, .int 0, .int m26]) (rest := []) ⟨hx, hb, hml, hown, hts⟩ (c_X8_in l D cA v 0 m26) (va_cwS 3 hts gX8_list_X8_in rfl rfl rfl (by decide +kernel) ⟨Nat.le_of_ble_eq_true rfl, Nat.le_of_ble_eq_true rfl⟩) hK hP [] rfl rfl hl.1 rfl (Nat.le_of_ble_eq_true rfl) dX8_list_14 ⟨Nat.le_of_ble_eq_true rfl, Nat.le_of_ble_eq_true rfl⟩) ?_
    refine lv_if_eq (tgt := 43) hx hb dX8_list_17 (by decide) (fun c_17 => ?_) (fun c_17 => ?_)
    · skip
      refine lv_iconst (v := (-1)) hx hb dX8_list_43 (by decide) ?_
      exact W.iret (v := (-1)) hx hb hr (fun t ht hW => ⟨congrArg (fun z => Outcome.returned (some (Value.int z))) (rfl), ht⟩) (fun _ h => by cases h) dX8_list_44
    · skip
      refine lv_iload_n hx hb dX8_list_20 rfl (lv_at hl 2 rfl) ?_
      refine lv_iconst (v := 0) hx hb dX8_list_21 (by decide) ?_
      refine lv_aload_n hx hb dX8_list_22 rfl (lv_at hl 0 rfl) ?_
      refine va_get (D := D) (ci := 7) (v := .int m12) (C := RX8) (T := TX8) (N := 44) hx hb hts hin_X8 hown hK hP 0 rfl rfl 12 (by decide) (w_RX8_170) (fun _ h9 => h9) rfl dX8_list_23 ?_
      refine lv_iconst (v := 1) hx hb dX8_list_26 (by decide) ?_
      refine lv_isub hx hb dX8_list_27 ?_
      refine rq_call1 (v := .int (bI (0 ≤ i ∧ i ≤ (m12 - 1)))) (rn_S (As := [.int i, .int 0, .int (m12 - 1)]) (rest := []) ⟨hx, hb, hml, hown, hts⟩ (c_X8_in l D cA i 0 (m12 - 1)) (va_cwS 3 hts gX8_list_X8_in rfl rfl rfl (by decide +kernel) ⟨Nat.le_of_ble_eq_true rfl, Nat.le_of_ble_eq_true rfl⟩) hK hP [] rfl rfl hl.1 rfl (Nat.le_of_ble_eq_true rfl) dX8_list_28 ⟨Nat.le_of_ble_eq_true rfl, Nat.le_of_ble_eq_true rfl⟩) ?_
      refine lv_if_eq (tgt := 43) hx hb dX8_list_31 (by decide) (fun c_31 => ?_) (fun c_31 => ?_)
      · skip
        refine lv_iconst (v := (-1)) hx hb dX8_list_43 (by decide) ?_
        exact W.iret (v := (-1)) hx hb hr (fun t ht hW => ⟨congrArg (fun z => Outcome.returned (some (Value.int z))) (rfl), ht⟩) (fun _ h => by cases h) dX8_list_44
      · skip
        refine lv_iload_n hx hb dX8_list_34 rfl (lv_at hl 3 rfl) ?_
        refine lv_iconst (v := 0) hx hb dX8_list_35 (by decide) ?_
        refine lv_iconst (v := 1) hx hb dX8_list_36 (by decide) ?_
        refine rq_call1 (v := .int (bI (0 ≤ w ∧ w ≤ 1))) (rn_S (As := [.int w, .int 0, .int 1]) (rest := []) ⟨hx, hb, hml, hown, hts⟩ (c_X8_in l D cA w 0 1) (va_cwS 3 hts gX8_list_X8_in rfl rfl rfl (by decide +kernel) ⟨Nat.le_of_ble_eq_true rfl, Nat.le_of_ble_eq_true rfl⟩) hK hP [] rfl rfl hl.1 rfl (Nat.le_of_ble_eq_true rfl) dX8_list_37 ⟨Nat.le_of_ble_eq_true rfl, Nat.le_of_ble_eq_true rfl⟩) ?_
        refine lv_if_ne (tgt := 45) hx hb dX8_list_40 (by decide) (fun c_40 => ?_) (fun c_40 => ?_)
        · skip
          exact absurd ⟨bI_1 c_17, (in_1 hnb (by omega)).mp (bI_1 c_31)⟩ hno
        · skip
          refine lv_iconst (v := (-1)) hx hb dX8_list_43 (by decide) ?_
          exact W.iret (v := (-1)) hx hb hr (fun t ht hW => ⟨congrArg (fun z => Outcome.returned (some (Value.int z))) (rfl), ht⟩) (fun _ h => by cases h) dX8_list_44

set_option maxHeartbeats 4000000 in
set_option maxRecDepth 100000 in
theorem c_X8_list_ok (l : Launch) (D : va_G) (cA : Nat → ClassId) (h0 : Nat) (m0 : Int32) (m1 : Int32) (m2 : Int32) (m3 : Int32) (m4 : Int32) (m5 : Nat) (m6 : Int32) (m7 : Int32) (m8 : Int32) (m9 : Nat) (m10 : Nat) (m11 : Nat) (m12 : Int32) (m13 : Nat) (m14 : Nat) (m15 : Nat) (m16 : Nat) (m17 : Int32) (m18 : Nat) (m19 : Nat) (m20 : Nat) (m21 : Nat) (m22 : Nat) (m23 : Nat) (m24 : Nat) (m25 : Nat) (m26 : Int32) (m27 : Int32) (m28 : Int32) (m29 : Int32) (m30 : Int32) (m31 : Int32) (m32 : Nat) (m33 : Nat) (m34 : Nat) (m35 : Nat) (m36 : Int32) (m37 : Nat) (m38 : Int32) (m39 : Nat) (m40 : Nat) (m41 : Nat) (m42 : Nat) (m43 : Nat) (v : Int32) (i : Int32) (w : Int32) (b0 : Nat) (mx0 : Nat) (laf : Nat → Int32) (lbf : Nat → Int32) (sa : Nat → Int32) (sb : Nat → Int32) (hok : (0 ≤ v ∧ v ≤ m26) ∧ (0 ≤ i ∧ i < m12)) (hst2 : ¬ m6 < 2) (hvm : v = nI mx0) (hmx5 : mx0 ≤ 4) (hnb : m12 = nI b0) (hb4 : b0 ≤ 40) (hsa : ∀ i : Nat, i < b0 → laf (40 * mx0 + i) = sa i ∧ lbf (40 * mx0 + i) = sb i) : Met l yX8_list wsX8_list ({ frames := 1, cells := 0, slots := 0, locals := 22 }) (rPc vwCl D cA [(h0, .inr (7, [.int m0, .int m1, .int m2, .int m3, .int m4, .ref m5, .int m6, .int m7, .int m8, .ref m9, .ref m10, .ref m11, .int m12, .ref m13, .ref m14, .ref m15, .ref m16, .int m17, .ref m18, .ref m19, .ref m20, .ref m21, .ref m22, .ref m23, .ref m24, .ref m25, .int m26, .int m27, .int m28, .int m29, .int m30, .int m31, .ref m32, .ref m33, .ref m34, .ref m35, .int m36, .ref m37, .int m38, .ref m39, .ref m40, .ref m41, .ref m42, .ref m43])), (m13, .inl (cA 0, 200, .inl laf)), (m14, .inl (cA 0, 200, .inl lbf))] [.ref h0, .int v, .int i, .int w]) (rq_x (some (.int (prt sa sb i w)))) 0 0 (fun _ => False) := by
  refine Met.ofW (cc := cX8_list) (maxL := 4) (ret := (some .int)) (by decide) rfl ?_
  intro p e s m args below meth c s₁ B hml hv
  obtain ⟨rfl, hP, hK⟩ := hv
  have hx := B.exec
  have hb := B.bytes
  have hr := B.returns
  have hts := atoms_spec (ws := wsX8_list) B.pre
  have hown : s.vm.findClass RX8 = some m.cls := findClass_of_methodNamed B.named
  have hlocks := B.notSynchronized
  have hin_X8 : ∀ w ∈ wsX80, w ∈ wsX8_list := fun w h => List.mem_cons_of_mem _ (List.mem_append_right _ h)
  have w_RX8_140 := hts (.fieldLink RX8 140 "MixElectionModel" "stage" "I") (by decide +kernel)
  have w_RX8_191 := hts (.fieldLink RX8 191 "MixElectionModel" "mixes" "I") (by decide +kernel)
  have w_RX8_170 := hts (.fieldLink RX8 170 "MixElectionModel" "many" "I") (by decide +kernel)
  have w_RX8_26 := hts (.fieldLink RX8 26 "MixElectionModel" "listB" "[I") (by decide +kernel)
  have w_RX8_23 := hts (.fieldLink RX8 23 "MixElectionModel" "listA" "[I") (by decide +kernel)
  have hl := lv_entry ([.ref h0, .int v, .int i, .int w]) (n := 4) (Nat.le_of_ble_eq_true rfl)
  rw [lg_entry_eq]
  generalize (lg_sl ([.ref h0, .int v, .int i, .int w]) ++ List.replicate (4 - (lg_sl ([.ref h0, .int v, .int i, .int w])).length) Slot.unset).toArray = ls at hl ⊢
  have hl : lv_has ls 4 [(0, .ref h0), (1, .int v), (2, .int i), (3, .int w)] := hl
  refine lv_aload_n hx hb dX8_list_0 rfl (lv_at hl 0 rfl) ?_
  refine va_get (D := D) (ci := 7) (v := .int m6) (C := RX8) (T := TX8) (N := 44) hx hb hts hin_X8 hown hK hP 0 rfl rfl 6 (by decide) (w_RX8_140) (fun _ h9 => h9) rfl dX8_list_1 ?_
  refine lv_iconst (v := 2) hx hb dX8_list_4 (by decide) ?_
  refine lv_icmp_lt (tgt := 43) hx hb dX8_list_5 (by decide) (fun c_5 => ?_) (fun c_5 => ?_)
  · exact absurd c_5 hst2
  · skip
    refine lv_iload_n hx hb dX8_list_8 rfl (lv_at hl 1 rfl) ?_
    refine lv_iconst (v := 0) hx hb dX8_list_9 (by decide) ?_
    refine lv_aload_n hx hb dX8_list_10 rfl (lv_at hl 0 rfl) ?_
    refine va_get (D := D) (ci := 7) (v := .int m26) (C := RX8) (T := TX8) (N := 44) hx hb hts hin_X8 hown hK hP 0 rfl rfl 26 (by decide) (w_RX8_191) (fun _ h9 => h9) rfl dX8_list_11 ?_
    refine rq_call1 (v := .int (bI (0 ≤ v ∧ v ≤ m26))) (rn_S (As := [.int v, .int 0, .int m26]) (rest := []) ⟨hx, hb, hml, hown, hts⟩ (c_X8_in l D cA v 0 m26) (va_cwS 3 hts gX8_list_X8_in rfl rfl rfl (by decide +kernel) ⟨Nat.le_of_ble_eq_true rfl, Nat.le_of_ble_eq_true rfl⟩) hK hP [] rfl rfl hl.1 rfl (Nat.le_of_ble_eq_true rfl) dX8_list_14 ⟨Nat.le_of_ble_eq_true rfl, Nat.le_of_ble_eq_true rfl⟩) ?_
    refine lv_if_eq (tgt := 43) hx hb dX8_list_17 (by decide) (fun c_17 => ?_) (fun c_17 => ?_)
    · exact absurd hok.1 (bI_0 c_17)
    · skip
      refine lv_iload_n hx hb dX8_list_20 rfl (lv_at hl 2 rfl) ?_
      refine lv_iconst (v := 0) hx hb dX8_list_21 (by decide) ?_
      refine lv_aload_n hx hb dX8_list_22 rfl (lv_at hl 0 rfl) ?_
      refine va_get (D := D) (ci := 7) (v := .int m12) (C := RX8) (T := TX8) (N := 44) hx hb hts hin_X8 hown hK hP 0 rfl rfl 12 (by decide) (w_RX8_170) (fun _ h9 => h9) rfl dX8_list_23 ?_
      refine lv_iconst (v := 1) hx hb dX8_list_26 (by decide) ?_
      refine lv_isub hx hb dX8_list_27 ?_
      refine rq_call1 (v := .int (bI (0 ≤ i ∧ i ≤ (m12 - 1)))) (rn_S (As := [.int i, .int 0, .int (m12 - 1)]) (rest := []) ⟨hx, hb, hml, hown, hts⟩ (c_X8_in l D cA i 0 (m12 - 1)) (va_cwS 3 hts gX8_list_X8_in rfl rfl rfl (by decide +kernel) ⟨Nat.le_of_ble_eq_true rfl, Nat.le_of_ble_eq_true rfl⟩) hK hP [] rfl rfl hl.1 rfl (Nat.le_of_ble_eq_true rfl) dX8_list_28 ⟨Nat.le_of_ble_eq_true rfl, Nat.le_of_ble_eq_true rfl⟩) ?_
      refine lv_if_eq (tgt := 43) hx hb dX8_list_31 (by decide) (fun c_31 => ?_) (fun c_31 => ?_)
      · exact absurd ((in_1 hnb (by omega)).mpr hok.2) (bI_0 c_31)
      · skip
        refine lv_iload_n hx hb dX8_list_34 rfl (lv_at hl 3 rfl) ?_
        refine lv_iconst (v := 0) hx hb dX8_list_35 (by decide) ?_
        refine lv_iconst (v := 1) hx hb dX8_list_36 (by decide) ?_
        refine rq_call1 (v := .int (bI (0 ≤ w ∧ w ≤ 1))) (rn_S (As := [.int w, .int 0, .int 1]) (rest := []) ⟨hx, hb, hml, hown, hts⟩ (c_X8_in l D cA w 0 1) (va_cwS 3 hts gX8_list_X8_in rfl rfl rfl (by decide +kernel) ⟨Nat.le_of_ble_eq_true rfl, Nat.le_of_ble_eq_true rfl⟩) hK hP [] rfl rfl hl.1 rfl (Nat.le_of_ble_eq_true rfl) dX8_list_37 ⟨Nat.le_of_ble_eq_true rfl, Nat.le_of_ble_eq_true rfl⟩) ?_
        refine lv_if_ne (tgt := 45) hx hb dX8_list_40 (by decide) (fun c_40 => ?_) (fun c_40 => ?_)
        · skip
          refine lv_iload_n hx hb dX8_list_45 rfl (lv_at hl 3 rfl) ?_
          refine lv_if_ne (tgt := 63) hx hb dX8_list_46 (by decide) (fun c_46 => ?_) (fun c_46 => ?_)
          · skip
            refine lv_aload_n hx hb dX8_list_63 rfl (lv_at hl 0 rfl) ?_
            refine va_get (D := D) (ci := 7) (v := .ref m14) (C := RX8) (T := TX8) (N := 44) hx hb hts hin_X8 hown hK hP 0 rfl rfl 14 (by decide) (w_RX8_26) (fun _ h9 => h9) rfl dX8_list_64 ?_
            refine lv_bipush (v := 40) hx hb dX8_list_67 (by decide) ?_
            refine lv_iload_n hx hb dX8_list_69 rfl (lv_at hl 1 rfl) ?_
            refine lv_imul hx hb dX8_list_70 ?_
            refine lv_iload_n hx hb dX8_list_71 rfl (lv_at hl 2 rfl) ?_
            refine lv_iadd hx hb dX8_list_72 ?_
            refine va_iald hx hb hK hP 2 0 rfl rfl (li_in hvm hmx5 hok.2 hnb hb4) dX8_list_73 ?_
            exact W.iret (v := (lbf ((40 * v) + i).toNatClampNeg)) hx hb hr (fun t ht hW => ⟨congrArg (fun z => Outcome.returned (some (Value.int z))) ((by rw [prt, if_neg c_46, if_pos ((in_01 (bI_1 c_40)).resolve_left c_46)]; exact li_at hvm hmx5 hok.2 hnb hb4 (fun i hi => (hsa i hi).2))), ht⟩) (fun _ h => by cases h) dX8_list_74
          · skip
            refine lv_aload_n hx hb dX8_list_49 rfl (lv_at hl 0 rfl) ?_
            refine va_get (D := D) (ci := 7) (v := .ref m13) (C := RX8) (T := TX8) (N := 44) hx hb hts hin_X8 hown hK hP 0 rfl rfl 13 (by decide) (w_RX8_23) (fun _ h9 => h9) rfl dX8_list_50 ?_
            refine lv_bipush (v := 40) hx hb dX8_list_53 (by decide) ?_
            refine lv_iload_n hx hb dX8_list_55 rfl (lv_at hl 1 rfl) ?_
            refine lv_imul hx hb dX8_list_56 ?_
            refine lv_iload_n hx hb dX8_list_57 rfl (lv_at hl 2 rfl) ?_
            refine lv_iadd hx hb dX8_list_58 ?_
            refine va_iald hx hb hK hP 1 0 rfl rfl (li_in hvm hmx5 hok.2 hnb hb4) dX8_list_59 ?_
            refine lv_goto (tgt := 74) hx hb dX8_list_60 (by decide) ?_
            exact W.iret (v := (laf ((40 * v) + i).toNatClampNeg)) hx hb hr (fun t ht hW => ⟨congrArg (fun z => Outcome.returned (some (Value.int z))) ((by rw [prt, if_pos c_46]; exact li_at hvm hmx5 hok.2 hnb hb4 (fun i hi => (hsa i hi).1))), ht⟩) (fun _ h => by cases h) dX8_list_74
        · skip
          refine lv_iconst (v := (-1)) hx hb dX8_list_43 (by decide) ?_
          exact W.iret (v := (-1)) hx hb hr (fun t ht hW => ⟨congrArg (fun z => Outcome.returned (some (Value.int z))) ((by rw [prt, if_neg (fun h => bI_0 c_40 (by rw [h]; decide)), if_neg (fun h => bI_0 c_40 (by rw [h]; decide))])), ht⟩) (fun _ h => by cases h) dX8_list_44

set_option maxHeartbeats 4000000 in
set_option maxRecDepth 100000 in
theorem c_X8_shadowOf (l : Launch) (D : va_G) (cA : Nat → ClassId) (h0 : Nat) (m0 : Int32) (m1 : Int32) (m2 : Int32) (m3 : Int32) (m4 : Int32) (m5 : Nat) (m6 : Int32) (m7 : Int32) (m8 : Int32) (m9 : Nat) (m10 : Nat) (m11 : Nat) (m12 : Int32) (m13 : Nat) (m14 : Nat) (m15 : Nat) (m16 : Nat) (m17 : Int32) (m18 : Nat) (m19 : Nat) (m20 : Nat) (m21 : Nat) (m22 : Nat) (m23 : Nat) (m24 : Nat) (m25 : Nat) (m26 : Int32) (m27 : Int32) (m28 : Int32) (m29 : Int32) (m30 : Int32) (m31 : Int32) (m32 : Nat) (m33 : Nat) (m34 : Nat) (m35 : Nat) (m36 : Int32) (m37 : Nat) (m38 : Int32) (m39 : Nat) (m40 : Nat) (m41 : Nat) (m42 : Nat) (m43 : Nat) (i : Int32) (w : Int32) (b0 : Nat) (saf : Nat → Int32) (sbf : Nat → Int32) (hnb : m12 = nI b0) (hb4 : b0 ≤ 40) : Met l yX8_shadowOf wsX8_shadowOf ({ frames := 1, cells := 0, slots := 0, locals := 22 }) (rPc vwCl D cA [(h0, .inr (7, [.int m0, .int m1, .int m2, .int m3, .int m4, .ref m5, .int m6, .int m7, .int m8, .ref m9, .ref m10, .ref m11, .int m12, .ref m13, .ref m14, .ref m15, .ref m16, .int m17, .ref m18, .ref m19, .ref m20, .ref m21, .ref m22, .ref m23, .ref m24, .ref m25, .int m26, .int m27, .int m28, .int m29, .int m30, .int m31, .ref m32, .ref m33, .ref m34, .ref m35, .int m36, .ref m37, .int m38, .ref m39, .ref m40, .ref m41, .ref m42, .ref m43])), (m15, .inl (cA 0, 40, .inl saf)), (m16, .inl (cA 0, 40, .inl sbf))] [.ref h0, .int i, .int w]) (rq_x (some (.int (if ¬ m17 = 0 ∧ (0 ≤ i ∧ i < m12) ∧ (0 ≤ w ∧ w ≤ 1) then (if w = 0 then saf i.toNatClampNeg else sbf i.toNatClampNeg) else -1)))) 0 0 (fun _ => False) := by
  refine Met.ofW (cc := cX8_shadowOf) (maxL := 3) (ret := (some .int)) (by decide) rfl ?_
  intro p e s m args below meth c s₁ B hml hv
  obtain ⟨rfl, hP, hK⟩ := hv
  have hx := B.exec
  have hb := B.bytes
  have hr := B.returns
  have hts := atoms_spec (ws := wsX8_shadowOf) B.pre
  have hown : s.vm.findClass RX8 = some m.cls := findClass_of_methodNamed B.named
  have hlocks := B.notSynchronized
  have hin_X8 : ∀ w ∈ wsX80, w ∈ wsX8_shadowOf := fun w h => List.mem_cons_of_mem _ (List.mem_append_right _ h)
  have w_RX8_206 := hts (.fieldLink RX8 206 "MixElectionModel" "hasShadow" "Z") (by decide +kernel)
  have w_RX8_170 := hts (.fieldLink RX8 170 "MixElectionModel" "many" "I") (by decide +kernel)
  have w_RX8_32 := hts (.fieldLink RX8 32 "MixElectionModel" "shadowB" "[I") (by decide +kernel)
  have w_RX8_29 := hts (.fieldLink RX8 29 "MixElectionModel" "shadowA" "[I") (by decide +kernel)
  have hl := lv_entry ([.ref h0, .int i, .int w]) (n := 3) (Nat.le_of_ble_eq_true rfl)
  rw [lg_entry_eq]
  generalize (lg_sl ([.ref h0, .int i, .int w]) ++ List.replicate (3 - (lg_sl ([.ref h0, .int i, .int w])).length) Slot.unset).toArray = ls at hl ⊢
  have hl : lv_has ls 3 [(0, .ref h0), (1, .int i), (2, .int w)] := hl
  refine lv_aload_n hx hb dX8_shadowOf_0 rfl (lv_at hl 0 rfl) ?_
  refine va_get (D := D) (ci := 7) (v := .int m17) (C := RX8) (T := TX8) (N := 44) hx hb hts hin_X8 hown hK hP 0 rfl rfl 17 (by decide) (w_RX8_206) (fun _ h9 => h9) rfl dX8_shadowOf_1 ?_
  refine lv_if_eq (tgt := 30) hx hb dX8_shadowOf_4 (by decide) (fun c_4 => ?_) (fun c_4 => ?_)
  · skip
    refine lv_iconst (v := (-1)) hx hb dX8_shadowOf_30 (by decide) ?_
    exact W.iret (v := (-1)) hx hb hr (fun t ht hW => ⟨congrArg (fun z => Outcome.returned (some (Value.int z))) ((by rw [if_neg (fun h => h.1 c_4)])), ht⟩) (fun _ h => by cases h) dX8_shadowOf_31
  · skip
    refine lv_iload_n hx hb dX8_shadowOf_7 rfl (lv_at hl 1 rfl) ?_
    refine lv_iconst (v := 0) hx hb dX8_shadowOf_8 (by decide) ?_
    refine lv_aload_n hx hb dX8_shadowOf_9 rfl (lv_at hl 0 rfl) ?_
    refine va_get (D := D) (ci := 7) (v := .int m12) (C := RX8) (T := TX8) (N := 44) hx hb hts hin_X8 hown hK hP 0 rfl rfl 12 (by decide) (w_RX8_170) (fun _ h9 => h9) rfl dX8_shadowOf_10 ?_
    refine lv_iconst (v := 1) hx hb dX8_shadowOf_13 (by decide) ?_
    refine lv_isub hx hb dX8_shadowOf_14 ?_
    refine rq_call1 (v := .int (bI (0 ≤ i ∧ i ≤ (m12 - 1)))) (rn_S (As := [.int i, .int 0, .int (m12 - 1)]) (rest := []) ⟨hx, hb, hml, hown, hts⟩ (c_X8_in l D cA i 0 (m12 - 1)) (va_cwS 3 hts gX8_shadowOf_X8_in rfl rfl rfl (by decide +kernel) ⟨Nat.le_of_ble_eq_true rfl, Nat.le_of_ble_eq_true rfl⟩) hK hP [] rfl rfl hl.1 rfl (Nat.le_of_ble_eq_true rfl) dX8_shadowOf_15 ⟨Nat.le_of_ble_eq_true rfl, Nat.le_of_ble_eq_true rfl⟩) ?_
    refine lv_if_eq (tgt := 30) hx hb dX8_shadowOf_18 (by decide) (fun c_18 => ?_) (fun c_18 => ?_)
    · skip
      refine lv_iconst (v := (-1)) hx hb dX8_shadowOf_30 (by decide) ?_
      exact W.iret (v := (-1)) hx hb hr (fun t ht hW => ⟨congrArg (fun z => Outcome.returned (some (Value.int z))) ((by rw [if_neg (fun h => bI_0 c_18 ((in_1 hnb (by omega)).mpr h.2.1))])), ht⟩) (fun _ h => by cases h) dX8_shadowOf_31
    · skip
      refine lv_iload_n hx hb dX8_shadowOf_21 rfl (lv_at hl 2 rfl) ?_
      refine lv_iconst (v := 0) hx hb dX8_shadowOf_22 (by decide) ?_
      refine lv_iconst (v := 1) hx hb dX8_shadowOf_23 (by decide) ?_
      refine rq_call1 (v := .int (bI (0 ≤ w ∧ w ≤ 1))) (rn_S (As := [.int w, .int 0, .int 1]) (rest := []) ⟨hx, hb, hml, hown, hts⟩ (c_X8_in l D cA w 0 1) (va_cwS 3 hts gX8_shadowOf_X8_in rfl rfl rfl (by decide +kernel) ⟨Nat.le_of_ble_eq_true rfl, Nat.le_of_ble_eq_true rfl⟩) hK hP [] rfl rfl hl.1 rfl (Nat.le_of_ble_eq_true rfl) dX8_shadowOf_24 ⟨Nat.le_of_ble_eq_true rfl, Nat.le_of_ble_eq_true rfl⟩) ?_
      refine lv_if_ne (tgt := 32) hx hb dX8_shadowOf_27 (by decide) (fun c_27 => ?_) (fun c_27 => ?_)
      · skip
        refine lv_iload_n hx hb dX8_shadowOf_32 rfl (lv_at hl 2 rfl) ?_
        refine lv_if_ne (tgt := 45) hx hb dX8_shadowOf_33 (by decide) (fun c_33 => ?_) (fun c_33 => ?_)
        · skip
          refine lv_aload_n hx hb dX8_shadowOf_45 rfl (lv_at hl 0 rfl) ?_
          refine va_get (D := D) (ci := 7) (v := .ref m16) (C := RX8) (T := TX8) (N := 44) hx hb hts hin_X8 hown hK hP 0 rfl rfl 16 (by decide) (w_RX8_32) (fun _ h9 => h9) rfl dX8_shadowOf_46 ?_
          refine lv_iload_n hx hb dX8_shadowOf_49 rfl (lv_at hl 1 rfl) ?_
          refine va_iald hx hb hK hP 2 0 rfl rfl (ix_in ((in_1 hnb (by omega)).mp (bI_1 c_18)) hnb hb4) dX8_shadowOf_50 ?_
          exact W.iret (v := (sbf i.toNatClampNeg)) hx hb hr (fun t ht hW => ⟨congrArg (fun z => Outcome.returned (some (Value.int z))) ((by rw [if_pos ⟨c_4, (in_1 hnb (by omega)).mp (bI_1 c_18), bI_1 c_27⟩, if_neg c_33])), ht⟩) (fun _ h => by cases h) dX8_shadowOf_51
        · skip
          refine lv_aload_n hx hb dX8_shadowOf_36 rfl (lv_at hl 0 rfl) ?_
          refine va_get (D := D) (ci := 7) (v := .ref m15) (C := RX8) (T := TX8) (N := 44) hx hb hts hin_X8 hown hK hP 0 rfl rfl 15 (by decide) (w_RX8_29) (fun _ h9 => h9) rfl dX8_shadowOf_37 ?_
          refine lv_iload_n hx hb dX8_shadowOf_40 rfl (lv_at hl 1 rfl) ?_
          refine va_iald hx hb hK hP 1 0 rfl rfl (ix_in ((in_1 hnb (by omega)).mp (bI_1 c_18)) hnb hb4) dX8_shadowOf_41 ?_
          refine lv_goto (tgt := 51) hx hb dX8_shadowOf_42 (by decide) ?_
          exact W.iret (v := (saf i.toNatClampNeg)) hx hb hr (fun t ht hW => ⟨congrArg (fun z => Outcome.returned (some (Value.int z))) ((by rw [if_pos ⟨c_4, (in_1 hnb (by omega)).mp (bI_1 c_18), bI_1 c_27⟩, if_pos c_33])), ht⟩) (fun _ h => by cases h) dX8_shadowOf_51
      · skip
        refine lv_iconst (v := (-1)) hx hb dX8_shadowOf_30 (by decide) ?_
        exact W.iret (v := (-1)) hx hb hr (fun t ht hW => ⟨congrArg (fun z => Outcome.returned (some (Value.int z))) ((by rw [if_neg (fun h => bI_0 c_27 h.2.2)])), ht⟩) (fun _ h => by cases h) dX8_shadowOf_31

set_option maxHeartbeats 4000000 in
set_option maxRecDepth 100000 in
theorem c_X8_shown (l : Launch) (D : va_G) (cA : Nat → ClassId) (h0 : Nat) (m0 : Int32) (m1 : Int32) (m2 : Int32) (m3 : Int32) (m4 : Int32) (m5 : Nat) (m6 : Int32) (m7 : Int32) (m8 : Int32) (m9 : Nat) (m10 : Nat) (m11 : Nat) (m12 : Int32) (m13 : Nat) (m14 : Nat) (m15 : Nat) (m16 : Nat) (m17 : Int32) (m18 : Nat) (m19 : Nat) (m20 : Nat) (m21 : Nat) (m22 : Nat) (m23 : Nat) (m24 : Nat) (m25 : Nat) (m26 : Int32) (m27 : Int32) (m28 : Int32) (m29 : Int32) (m30 : Int32) (m31 : Int32) (m32 : Nat) (m33 : Nat) (m34 : Nat) (m35 : Nat) (m36 : Int32) (m37 : Nat) (m38 : Int32) (m39 : Nat) (m40 : Nat) (m41 : Nat) (m42 : Nat) (m43 : Nat) (i : Int32) (w : Int32) (b0 : Nat) (wtf : Nat → Int32) (wyf : Nat → Int32) (wt : Nat → Int32) (we : Nat → Int32) (hnb : m12 = nI b0) (hb4 : b0 ≤ 40) (hn0 : m31 = 0 → ∀ i : Nat, i < b0 → wt i = -1 ∧ we i = -1) (hn1 : ¬ m31 = 0 → ∀ i : Nat, i < b0 → wtf i = wt i ∧ wyf i = we i) : Met l yX8_shown wsX8_shown ({ frames := 1, cells := 0, slots := 0, locals := 22 }) (rPc vwCl D cA [(h0, .inr (7, [.int m0, .int m1, .int m2, .int m3, .int m4, .ref m5, .int m6, .int m7, .int m8, .ref m9, .ref m10, .ref m11, .int m12, .ref m13, .ref m14, .ref m15, .ref m16, .int m17, .ref m18, .ref m19, .ref m20, .ref m21, .ref m22, .ref m23, .ref m24, .ref m25, .int m26, .int m27, .int m28, .int m29, .int m30, .int m31, .ref m32, .ref m33, .ref m34, .ref m35, .int m36, .ref m37, .int m38, .ref m39, .ref m40, .ref m41, .ref m42, .ref m43])), (m32, .inl (cA 0, 40, .inl wtf)), (m33, .inl (cA 0, 40, .inl wyf))] [.ref h0, .int i, .int w]) (rq_x (some (.int (if 0 ≤ i ∧ i < m12 then prt wt we i w else -1)))) 0 0 (fun _ => False) := by
  refine Met.ofW (cc := cX8_shown) (maxL := 3) (ret := (some .int)) (by decide) rfl ?_
  intro p e s m args below meth c s₁ B hml hv
  obtain ⟨rfl, hP, hK⟩ := hv
  have hx := B.exec
  have hb := B.bytes
  have hr := B.returns
  have hts := atoms_spec (ws := wsX8_shown) B.pre
  have hown : s.vm.findClass RX8 = some m.cls := findClass_of_methodNamed B.named
  have hlocks := B.notSynchronized
  have hin_X8 : ∀ w ∈ wsX80, w ∈ wsX8_shown := fun w h => List.mem_cons_of_mem _ (List.mem_append_right _ h)
  have w_RX8_209 := hts (.fieldLink RX8 209 "MixElectionModel" "hasShown" "Z") (by decide +kernel)
  have w_RX8_170 := hts (.fieldLink RX8 170 "MixElectionModel" "many" "I") (by decide +kernel)
  have w_RX8_62 := hts (.fieldLink RX8 62 "MixElectionModel" "shownBy" "[I") (by decide +kernel)
  have w_RX8_59 := hts (.fieldLink RX8 59 "MixElectionModel" "shownTo" "[I") (by decide +kernel)
  have hl := lv_entry ([.ref h0, .int i, .int w]) (n := 3) (Nat.le_of_ble_eq_true rfl)
  rw [lg_entry_eq]
  generalize (lg_sl ([.ref h0, .int i, .int w]) ++ List.replicate (3 - (lg_sl ([.ref h0, .int i, .int w])).length) Slot.unset).toArray = ls at hl ⊢
  have hl : lv_has ls 3 [(0, .ref h0), (1, .int i), (2, .int w)] := hl
  refine lv_aload_n hx hb dX8_shown_0 rfl (lv_at hl 0 rfl) ?_
  refine va_get (D := D) (ci := 7) (v := .int m31) (C := RX8) (T := TX8) (N := 44) hx hb hts hin_X8 hown hK hP 0 rfl rfl 31 (by decide) (w_RX8_209) (fun _ h9 => h9) rfl dX8_shown_1 ?_
  refine lv_if_eq (tgt := 30) hx hb dX8_shown_4 (by decide) (fun c_4 => ?_) (fun c_4 => ?_)
  · skip
    refine lv_iconst (v := (-1)) hx hb dX8_shown_30 (by decide) ?_
    exact W.iret (v := (-1)) hx hb hr (fun t ht hW => ⟨congrArg (fun z => Outcome.returned (some (Value.int z))) (sn_0 hnb hb4 (hn0 c_4)), ht⟩) (fun _ h => by cases h) dX8_shown_31
  · skip
    refine lv_iload_n hx hb dX8_shown_7 rfl (lv_at hl 1 rfl) ?_
    refine lv_iconst (v := 0) hx hb dX8_shown_8 (by decide) ?_
    refine lv_aload_n hx hb dX8_shown_9 rfl (lv_at hl 0 rfl) ?_
    refine va_get (D := D) (ci := 7) (v := .int m12) (C := RX8) (T := TX8) (N := 44) hx hb hts hin_X8 hown hK hP 0 rfl rfl 12 (by decide) (w_RX8_170) (fun _ h9 => h9) rfl dX8_shown_10 ?_
    refine lv_iconst (v := 1) hx hb dX8_shown_13 (by decide) ?_
    refine lv_isub hx hb dX8_shown_14 ?_
    refine rq_call1 (v := .int (bI (0 ≤ i ∧ i ≤ (m12 - 1)))) (rn_S (As := [.int i, .int 0, .int (m12 - 1)]) (rest := []) ⟨hx, hb, hml, hown, hts⟩ (c_X8_in l D cA i 0 (m12 - 1)) (va_cwS 3 hts gX8_shown_X8_in rfl rfl rfl (by decide +kernel) ⟨Nat.le_of_ble_eq_true rfl, Nat.le_of_ble_eq_true rfl⟩) hK hP [] rfl rfl hl.1 rfl (Nat.le_of_ble_eq_true rfl) dX8_shown_15 ⟨Nat.le_of_ble_eq_true rfl, Nat.le_of_ble_eq_true rfl⟩) ?_
    refine lv_if_eq (tgt := 30) hx hb dX8_shown_18 (by decide) (fun c_18 => ?_) (fun c_18 => ?_)
    · skip
      refine lv_iconst (v := (-1)) hx hb dX8_shown_30 (by decide) ?_
      exact W.iret (v := (-1)) hx hb hr (fun t ht hW => ⟨congrArg (fun z => Outcome.returned (some (Value.int z))) ((by rw [if_neg (fun h => bI_0 c_18 ((in_1 hnb (by omega)).mpr h))])), ht⟩) (fun _ h => by cases h) dX8_shown_31
    · skip
      refine lv_iload_n hx hb dX8_shown_21 rfl (lv_at hl 2 rfl) ?_
      refine lv_iconst (v := 0) hx hb dX8_shown_22 (by decide) ?_
      refine lv_iconst (v := 1) hx hb dX8_shown_23 (by decide) ?_
      refine rq_call1 (v := .int (bI (0 ≤ w ∧ w ≤ 1))) (rn_S (As := [.int w, .int 0, .int 1]) (rest := []) ⟨hx, hb, hml, hown, hts⟩ (c_X8_in l D cA w 0 1) (va_cwS 3 hts gX8_shown_X8_in rfl rfl rfl (by decide +kernel) ⟨Nat.le_of_ble_eq_true rfl, Nat.le_of_ble_eq_true rfl⟩) hK hP [] rfl rfl hl.1 rfl (Nat.le_of_ble_eq_true rfl) dX8_shown_24 ⟨Nat.le_of_ble_eq_true rfl, Nat.le_of_ble_eq_true rfl⟩) ?_
      refine lv_if_ne (tgt := 32) hx hb dX8_shown_27 (by decide) (fun c_27 => ?_) (fun c_27 => ?_)
      · skip
        refine lv_iload_n hx hb dX8_shown_32 rfl (lv_at hl 2 rfl) ?_
        refine lv_if_ne (tgt := 45) hx hb dX8_shown_33 (by decide) (fun c_33 => ?_) (fun c_33 => ?_)
        · skip
          refine lv_aload_n hx hb dX8_shown_45 rfl (lv_at hl 0 rfl) ?_
          refine va_get (D := D) (ci := 7) (v := .ref m33) (C := RX8) (T := TX8) (N := 44) hx hb hts hin_X8 hown hK hP 0 rfl rfl 33 (by decide) (w_RX8_62) (fun _ h9 => h9) rfl dX8_shown_46 ?_
          refine lv_iload_n hx hb dX8_shown_49 rfl (lv_at hl 1 rfl) ?_
          refine va_iald hx hb hK hP 2 0 rfl rfl (ix_in ((in_1 hnb (by omega)).mp (bI_1 c_18)) hnb hb4) dX8_shown_50 ?_
          exact W.iret (v := (wyf i.toNatClampNeg)) hx hb hr (fun t ht hW => ⟨congrArg (fun z => Outcome.returned (some (Value.int z))) (sn_1 hnb hb4 ((in_1 hnb (by omega)).mp (bI_1 c_18)) (hn1 c_4) ((in_01 (bI_1 c_27)).resolve_left c_33)), ht⟩) (fun _ h => by cases h) dX8_shown_51
        · skip
          refine lv_aload_n hx hb dX8_shown_36 rfl (lv_at hl 0 rfl) ?_
          refine va_get (D := D) (ci := 7) (v := .ref m32) (C := RX8) (T := TX8) (N := 44) hx hb hts hin_X8 hown hK hP 0 rfl rfl 32 (by decide) (w_RX8_59) (fun _ h9 => h9) rfl dX8_shown_37 ?_
          refine lv_iload_n hx hb dX8_shown_40 rfl (lv_at hl 1 rfl) ?_
          refine va_iald hx hb hK hP 1 0 rfl rfl (ix_in ((in_1 hnb (by omega)).mp (bI_1 c_18)) hnb hb4) dX8_shown_41 ?_
          refine lv_goto (tgt := 51) hx hb dX8_shown_42 (by decide) ?_
          exact W.iret (v := (wtf i.toNatClampNeg)) hx hb hr (fun t ht hW => ⟨congrArg (fun z => Outcome.returned (some (Value.int z))) (sn_2 hnb hb4 ((in_1 hnb (by omega)).mp (bI_1 c_18)) (hn1 c_4) c_33), ht⟩) (fun _ h => by cases h) dX8_shown_51
      · skip
        refine lv_iconst (v := (-1)) hx hb dX8_shown_30 (by decide) ?_
        exact W.iret (v := (-1)) hx hb hr (fun t ht hW => ⟨congrArg (fun z => Outcome.returned (some (Value.int z))) (sn_w (bI_0 c_27)), ht⟩) (fun _ h => by cases h) dX8_shown_31

set_option maxHeartbeats 4000000 in
set_option maxRecDepth 100000 in
theorem c_X8_given (l : Launch) (D : va_G) (cA : Nat → ClassId) (h0 : Nat) (m0 : Int32) (m1 : Int32) (m2 : Int32) (m3 : Int32) (m4 : Int32) (m5 : Nat) (m6 : Int32) (m7 : Int32) (m8 : Int32) (m9 : Nat) (m10 : Nat) (m11 : Nat) (m12 : Int32) (m13 : Nat) (m14 : Nat) (m15 : Nat) (m16 : Nat) (m17 : Int32) (m18 : Nat) (m19 : Nat) (m20 : Nat) (m21 : Nat) (m22 : Nat) (m23 : Nat) (m24 : Nat) (m25 : Nat) (m26 : Int32) (m27 : Int32) (m28 : Int32) (m29 : Int32) (m30 : Int32) (m31 : Int32) (m32 : Nat) (m33 : Nat) (m34 : Nat) (m35 : Nat) (m36 : Int32) (m37 : Nat) (m38 : Int32) (m39 : Nat) (m40 : Nat) (m41 : Nat) (m42 : Nat) (m43 : Nat) (j : Int32) (i : Int32) (b0 : Nat) (t0 : Nat) (gvn : Nat → Int32) (gvf : Nat → Int32) (gf : Nat → Nat → Int32) (hnb : m12 = nI b0) (hb4 : b0 ≤ 40) (hts0 : m3 = nI t0) (ht5 : t0 ≤ 5) (hgi : ∀ j : Nat, 1 ≤ j → j ≤ t0 → ¬ gvn j = 0 → ∀ i : Nat, i < b0 → gvf (40 * j + i) = gf j i) : Met l yX8_given wsX8_given ({ frames := 1, cells := 0, slots := 0, locals := 22 }) (rPc vwCl D cA [(h0, .inr (7, [.int m0, .int m1, .int m2, .int m3, .int m4, .ref m5, .int m6, .int m7, .int m8, .ref m9, .ref m10, .ref m11, .int m12, .ref m13, .ref m14, .ref m15, .ref m16, .int m17, .ref m18, .ref m19, .ref m20, .ref m21, .ref m22, .ref m23, .ref m24, .ref m25, .int m26, .int m27, .int m28, .int m29, .int m30, .int m31, .ref m32, .ref m33, .ref m34, .ref m35, .int m36, .ref m37, .int m38, .ref m39, .ref m40, .ref m41, .ref m42, .ref m43])), (m34, .inl (cA 1, 6, .inl gvn)), (m35, .inl (cA 0, 240, .inl gvf))] [.ref h0, .int j, .int i]) (rq_x (some (.int (if 0 ≤ i ∧ i < m12 then gft gvn gf m3 j i else -1)))) 0 0 (fun _ => False) := by
  refine Met.ofW (cc := cX8_given) (maxL := 3) (ret := (some .int)) (by decide) rfl ?_
  intro p e s m args below meth c s₁ B hml hv
  obtain ⟨rfl, hP, hK⟩ := hv
  have hx := B.exec
  have hb := B.bytes
  have hr := B.returns
  have hts := atoms_spec (ws := wsX8_given) B.pre
  have hown : s.vm.findClass RX8 = some m.cls := findClass_of_methodNamed B.named
  have hlocks := B.notSynchronized
  have hin_X8 : ∀ w ∈ wsX80, w ∈ wsX8_given := fun w h => List.mem_cons_of_mem _ (List.mem_append_right _ h)
  have w_RX8_109 := hts (.fieldLink RX8 109 "MixElectionModel" "trustees" "I") (by decide +kernel)
  have w_RX8_65 := hts (.fieldLink RX8 65 "MixElectionModel" "hasGiven" "[Z") (by decide +kernel)
  have w_RX8_170 := hts (.fieldLink RX8 170 "MixElectionModel" "many" "I") (by decide +kernel)
  have w_RX8_68 := hts (.fieldLink RX8 68 "MixElectionModel" "given" "[I") (by decide +kernel)
  have hl := lv_entry ([.ref h0, .int j, .int i]) (n := 3) (Nat.le_of_ble_eq_true rfl)
  rw [lg_entry_eq]
  generalize (lg_sl ([.ref h0, .int j, .int i]) ++ List.replicate (3 - (lg_sl ([.ref h0, .int j, .int i])).length) Slot.unset).toArray = ls at hl ⊢
  have hl : lv_has ls 3 [(0, .ref h0), (1, .int j), (2, .int i)] := hl
  refine lv_iload_n hx hb dX8_given_0 rfl (lv_at hl 1 rfl) ?_
  refine lv_iconst (v := 1) hx hb dX8_given_1 (by decide) ?_
  refine lv_aload_n hx hb dX8_given_2 rfl (lv_at hl 0 rfl) ?_
  refine va_get (D := D) (ci := 7) (v := .int m3) (C := RX8) (T := TX8) (N := 44) hx hb hts hin_X8 hown hK hP 0 rfl rfl 3 (by decide) (w_RX8_109) (fun _ h9 => h9) rfl dX8_given_3 ?_
  refine rq_call1 (v := .int (bI (1 ≤ j ∧ j ≤ m3))) (rn_S (As := [.int j, .int 1, .int m3]) (rest := []) ⟨hx, hb, hml, hown, hts⟩ (c_X8_in l D cA j 1 m3) (va_cwS 3 hts gX8_given_X8_in rfl rfl rfl (by decide +kernel) ⟨Nat.le_of_ble_eq_true rfl, Nat.le_of_ble_eq_true rfl⟩) hK hP [] rfl rfl hl.1 rfl (Nat.le_of_ble_eq_true rfl) dX8_given_6 ⟨Nat.le_of_ble_eq_true rfl, Nat.le_of_ble_eq_true rfl⟩) ?_
  refine lv_if_eq (tgt := 49) hx hb dX8_given_9 (by decide) (fun c_9 => ?_) (fun c_9 => ?_)
  · skip
    refine lv_iconst (v := (-1)) hx hb dX8_given_49 (by decide) ?_
    exact W.iret (v := (-1)) hx hb hr (fun t ht hW => ⟨congrArg (fun z => Outcome.returned (some (Value.int z))) (gv_n1 (fun h => bI_0 c_9 h.1)), ht⟩) (fun _ h => by cases h) dX8_given_50
  · skip
    refine lv_aload_n hx hb dX8_given_12 rfl (lv_at hl 0 rfl) ?_
    refine va_get (D := D) (ci := 7) (v := .ref m34) (C := RX8) (T := TX8) (N := 44) hx hb hts hin_X8 hown hK hP 0 rfl rfl 34 (by decide) (w_RX8_65) (fun _ h9 => h9) rfl dX8_given_13 ?_
    refine lv_iload_n hx hb dX8_given_16 rfl (lv_at hl 1 rfl) ?_
    refine va_zald hx hb hK hP 1 1 rfl rfl (gv_in (bI_1 c_9) hts0 ht5) dX8_given_17 ?_
    refine lv_if_eq (tgt := 49) hx hb dX8_given_18 (by decide) (fun c_18 => ?_) (fun c_18 => ?_)
    · skip
      refine lv_iconst (v := (-1)) hx hb dX8_given_49 (by decide) ?_
      exact W.iret (v := (-1)) hx hb hr (fun t ht hW => ⟨congrArg (fun z => Outcome.returned (some (Value.int z))) (gv_n1 (fun h => h.2 c_18)), ht⟩) (fun _ h => by cases h) dX8_given_50
    · skip
      refine lv_iload_n hx hb dX8_given_21 rfl (lv_at hl 2 rfl) ?_
      refine lv_iconst (v := 0) hx hb dX8_given_22 (by decide) ?_
      refine lv_aload_n hx hb dX8_given_23 rfl (lv_at hl 0 rfl) ?_
      refine va_get (D := D) (ci := 7) (v := .int m12) (C := RX8) (T := TX8) (N := 44) hx hb hts hin_X8 hown hK hP 0 rfl rfl 12 (by decide) (w_RX8_170) (fun _ h9 => h9) rfl dX8_given_24 ?_
      refine lv_iconst (v := 1) hx hb dX8_given_27 (by decide) ?_
      refine lv_isub hx hb dX8_given_28 ?_
      refine rq_call1 (v := .int (bI (0 ≤ i ∧ i ≤ (m12 - 1)))) (rn_S (As := [.int i, .int 0, .int (m12 - 1)]) (rest := []) ⟨hx, hb, hml, hown, hts⟩ (c_X8_in l D cA i 0 (m12 - 1)) (va_cwS 3 hts gX8_given_X8_in rfl rfl rfl (by decide +kernel) ⟨Nat.le_of_ble_eq_true rfl, Nat.le_of_ble_eq_true rfl⟩) hK hP [] rfl rfl hl.1 rfl (Nat.le_of_ble_eq_true rfl) dX8_given_29 ⟨Nat.le_of_ble_eq_true rfl, Nat.le_of_ble_eq_true rfl⟩) ?_
      refine lv_if_eq (tgt := 49) hx hb dX8_given_32 (by decide) (fun c_32 => ?_) (fun c_32 => ?_)
      · skip
        refine lv_iconst (v := (-1)) hx hb dX8_given_49 (by decide) ?_
        exact W.iret (v := (-1)) hx hb hr (fun t ht hW => ⟨congrArg (fun z => Outcome.returned (some (Value.int z))) ((by rw [if_neg (fun h => bI_0 c_32 ((in_1 hnb (by omega)).mpr h))])), ht⟩) (fun _ h => by cases h) dX8_given_50
      · skip
        refine lv_aload_n hx hb dX8_given_35 rfl (lv_at hl 0 rfl) ?_
        refine va_get (D := D) (ci := 7) (v := .ref m35) (C := RX8) (T := TX8) (N := 44) hx hb hts hin_X8 hown hK hP 0 rfl rfl 35 (by decide) (w_RX8_68) (fun _ h9 => h9) rfl dX8_given_36 ?_
        refine lv_bipush (v := 40) hx hb dX8_given_39 (by decide) ?_
        refine lv_iload_n hx hb dX8_given_41 rfl (lv_at hl 1 rfl) ?_
        refine lv_imul hx hb dX8_given_42 ?_
        refine lv_iload_n hx hb dX8_given_43 rfl (lv_at hl 2 rfl) ?_
        refine lv_iadd hx hb dX8_given_44 ?_
        refine va_iald hx hb hK hP 2 0 rfl rfl (gv_x hnb hb4 hts0 ht5 ((in_1 hnb (by omega)).mp (bI_1 c_32)) (bI_1 c_9)) dX8_given_45 ?_
        refine lv_goto (tgt := 50) hx hb dX8_given_46 (by decide) ?_
        exact W.iret (v := (gvf ((40 * j) + i).toNatClampNeg)) hx hb hr (fun t ht hW => ⟨congrArg (fun z => Outcome.returned (some (Value.int z))) (gv_y hnb hb4 hts0 ht5 ((in_1 hnb (by omega)).mp (bI_1 c_32)) (bI_1 c_9) c_18 hgi), ht⟩) (fun _ h => by cases h) dX8_given_50

set_option maxHeartbeats 4000000 in
set_option maxRecDepth 100000 in
theorem c_X8_entry (l : Launch) (D : va_G) (cA : Nat → ClassId) (h0 : Nat) (m0 : Int32) (m1 : Int32) (m2 : Int32) (m3 : Int32) (m4 : Int32) (m5 : Nat) (m6 : Int32) (m7 : Int32) (m8 : Int32) (m9 : Nat) (m10 : Nat) (m11 : Nat) (m12 : Int32) (m13 : Nat) (m14 : Nat) (m15 : Nat) (m16 : Nat) (m17 : Int32) (m18 : Nat) (m19 : Nat) (m20 : Nat) (m21 : Nat) (m22 : Nat) (m23 : Nat) (m24 : Nat) (m25 : Nat) (m26 : Int32) (m27 : Int32) (m28 : Int32) (m29 : Int32) (m30 : Int32) (m31 : Int32) (m32 : Nat) (m33 : Nat) (m34 : Nat) (m35 : Nat) (m36 : Int32) (m37 : Nat) (m38 : Int32) (m39 : Nat) (m40 : Nat) (m41 : Nat) (m42 : Nat) (m43 : Nat) (i : Int32) (w : Int32) (n0 : Nat) (kf : Nat → Int32) (xf : Nat → Int32) (yf : Nat → Int32) (zf : Nat → Int64) (hn : m38 = nI n0) (h6 : n0 ≤ 600) : Met l yX8_entry wsX8_entry ({ frames := 1, cells := 0, slots := 0, locals := 22 }) (rPc vwCl D cA [(h0, .inr (7, [.int m0, .int m1, .int m2, .int m3, .int m4, .ref m5, .int m6, .int m7, .int m8, .ref m9, .ref m10, .ref m11, .int m12, .ref m13, .ref m14, .ref m15, .ref m16, .int m17, .ref m18, .ref m19, .ref m20, .ref m21, .ref m22, .ref m23, .ref m24, .ref m25, .int m26, .int m27, .int m28, .int m29, .int m30, .int m31, .ref m32, .ref m33, .ref m34, .ref m35, .int m36, .ref m37, .int m38, .ref m39, .ref m40, .ref m41, .ref m42, .ref m43])), (m39, .inl (cA 0, 600, .inl kf)), (m40, .inl (cA 2, 600, .inr (.inl (fun i => (xf i).toInt64)))), (m41, .inl (cA 2, 600, .inr (.inl (fun i => (yf i).toInt64)))), (m42, .inl (cA 2, 600, .inr (.inl zf)))] [.ref h0, .int i, .int w]) (rq_x (some (.long (fldv kf xf yf zf m38 i w)))) 0 0 (fun _ => False) := by
  refine Met.ofW (cc := cX8_entry) (maxL := 3) (ret := (some .long)) (by decide) rfl ?_
  intro p e s m args below meth c s₁ B hml hv
  obtain ⟨rfl, hP, hK⟩ := hv
  have hx := B.exec
  have hb := B.bytes
  have hr := B.returns
  have hts := atoms_spec (ws := wsX8_entry) B.pre
  have hown : s.vm.findClass RX8 = some m.cls := findClass_of_methodNamed B.named
  have hlocks := B.notSynchronized
  have hin_X8 : ∀ w ∈ wsX80, w ∈ wsX8_entry := fun w h => List.mem_cons_of_mem _ (List.mem_append_right _ h)
  have w_RX8_135 := hts (.fieldLink RX8 135 "MixElectionModel" "entries" "I") (by decide +kernel)
  have w_RX8_74 := hts (.fieldLink RX8 74 "MixElectionModel" "entryKind" "[I") (by decide +kernel)
  have w_RX8_77 := hts (.fieldLink RX8 77 "MixElectionModel" "entryX" "[J") (by decide +kernel)
  have w_RX8_81 := hts (.fieldLink RX8 81 "MixElectionModel" "entryY" "[J") (by decide +kernel)
  have w_RX8_84 := hts (.fieldLink RX8 84 "MixElectionModel" "entryZ" "[J") (by decide +kernel)
  have hl := lv_entry ([.ref h0, .int i, .int w]) (n := 3) (Nat.le_of_ble_eq_true rfl)
  rw [lg_entry_eq]
  generalize (lg_sl ([.ref h0, .int i, .int w]) ++ List.replicate (3 - (lg_sl ([.ref h0, .int i, .int w])).length) Slot.unset).toArray = ls at hl ⊢
  have hl : lv_has ls 3 [(0, .ref h0), (1, .int i), (2, .int w)] := hl
  refine lv_iload_n hx hb dX8_entry_0 rfl (lv_at hl 1 rfl) ?_
  refine lv_iconst (v := 0) hx hb dX8_entry_1 (by decide) ?_
  refine lv_aload_n hx hb dX8_entry_2 rfl (lv_at hl 0 rfl) ?_
  refine va_get (D := D) (ci := 7) (v := .int m38) (C := RX8) (T := TX8) (N := 44) hx hb hts hin_X8 hown hK hP 0 rfl rfl 38 (by decide) (w_RX8_135) (fun _ h9 => h9) rfl dX8_entry_3 ?_
  refine lv_iconst (v := 1) hx hb dX8_entry_6 (by decide) ?_
  refine lv_isub hx hb dX8_entry_7 ?_
  refine rq_call1 (v := .int (bI (0 ≤ i ∧ i ≤ (m38 - 1)))) (rn_S (As := [.int i, .int 0, .int (m38 - 1)]) (rest := []) ⟨hx, hb, hml, hown, hts⟩ (c_X8_in l D cA i 0 (m38 - 1)) (va_cwS 3 hts gX8_entry_X8_in rfl rfl rfl (by decide +kernel) ⟨Nat.le_of_ble_eq_true rfl, Nat.le_of_ble_eq_true rfl⟩) hK hP [] rfl rfl hl.1 rfl (Nat.le_of_ble_eq_true rfl) dX8_entry_8 ⟨Nat.le_of_ble_eq_true rfl, Nat.le_of_ble_eq_true rfl⟩) ?_
  refine lv_if_ne (tgt := 16) hx hb dX8_entry_11 (by decide) (fun c_11 => ?_) (fun c_11 => ?_)
  · skip
    refine lv_iload_n hx hb dX8_entry_16 rfl (lv_at hl 2 rfl) ?_
    rcases sw_4 w with rfl | rfl | rfl | rfl | hsw
    · refine lv_tableIn (off := 31) (tgt := 48) hx hb dX8_entry_17 (by decide) (by decide) (by decide) (by decide) ?_
      refine lv_aload_n hx hb dX8_entry_48 rfl (lv_at hl 0 rfl) ?_
      refine va_get (D := D) (ci := 7) (v := .ref m39) (C := RX8) (T := TX8) (N := 44) hx hb hts hin_X8 hown hK hP 0 rfl rfl 39 (by decide) (w_RX8_74) (fun _ h9 => h9) rfl dX8_entry_49 ?_
      refine lv_iload_n hx hb dX8_entry_52 rfl (lv_at hl 1 rfl) ?_
      refine va_iald hx hb hK hP 1 0 rfl rfl (ix_in ((in_1 hn (by omega)).mp (bI_1 c_11)) hn h6) dX8_entry_53 ?_
      refine lv_i2l hx hb dX8_entry_54 rfl ?_
      exact W.lret (v := (kf i.toNatClampNeg).toInt64) hx hb hr (fun t ht hW => ⟨congrArg (fun z => Outcome.returned (some (Value.long z))) ((by rw [fldv, if_pos ((in_1 hn (by omega)).mp (bI_1 c_11))]; rfl)), ht⟩) (fun _ h => by cases h) dX8_entry_55
    · refine lv_tableIn (off := 39) (tgt := 56) hx hb dX8_entry_17 (by decide) (by decide) (by decide) (by decide) ?_
      refine lv_aload_n hx hb dX8_entry_56 rfl (lv_at hl 0 rfl) ?_
      refine va_get (D := D) (ci := 7) (v := .ref m40) (C := RX8) (T := TX8) (N := 44) hx hb hts hin_X8 hown hK hP 0 rfl rfl 40 (by decide) (w_RX8_77) (fun _ h9 => h9) rfl dX8_entry_57 ?_
      refine lv_iload_n hx hb dX8_entry_60 rfl (lv_at hl 1 rfl) ?_
      refine va_lald hx hb hK hP 2 2 rfl rfl (ix_in ((in_1 hn (by omega)).mp (bI_1 c_11)) hn h6) dX8_entry_61 ?_
      exact W.lret (v := ((fun i => (xf i).toInt64) i.toNatClampNeg)) hx hb hr (fun t ht hW => ⟨congrArg (fun z => Outcome.returned (some (Value.long z))) ((by rw [fldv, if_pos ((in_1 hn (by omega)).mp (bI_1 c_11))]; rfl)), ht⟩) (fun _ h => by cases h) dX8_entry_62
    · refine lv_tableIn (off := 46) (tgt := 63) hx hb dX8_entry_17 (by decide) (by decide) (by decide) (by decide) ?_
      refine lv_aload_n hx hb dX8_entry_63 rfl (lv_at hl 0 rfl) ?_
      refine va_get (D := D) (ci := 7) (v := .ref m41) (C := RX8) (T := TX8) (N := 44) hx hb hts hin_X8 hown hK hP 0 rfl rfl 41 (by decide) (w_RX8_81) (fun _ h9 => h9) rfl dX8_entry_64 ?_
      refine lv_iload_n hx hb dX8_entry_67 rfl (lv_at hl 1 rfl) ?_
      refine va_lald hx hb hK hP 3 2 rfl rfl (ix_in ((in_1 hn (by omega)).mp (bI_1 c_11)) hn h6) dX8_entry_68 ?_
      exact W.lret (v := ((fun i => (yf i).toInt64) i.toNatClampNeg)) hx hb hr (fun t ht hW => ⟨congrArg (fun z => Outcome.returned (some (Value.long z))) ((by rw [fldv, if_pos ((in_1 hn (by omega)).mp (bI_1 c_11))]; rfl)), ht⟩) (fun _ h => by cases h) dX8_entry_69
    · refine lv_tableIn (off := 53) (tgt := 70) hx hb dX8_entry_17 (by decide) (by decide) (by decide) (by decide) ?_
      refine lv_aload_n hx hb dX8_entry_70 rfl (lv_at hl 0 rfl) ?_
      refine va_get (D := D) (ci := 7) (v := .ref m42) (C := RX8) (T := TX8) (N := 44) hx hb hts hin_X8 hown hK hP 0 rfl rfl 42 (by decide) (w_RX8_84) (fun _ h9 => h9) rfl dX8_entry_71 ?_
      refine lv_iload_n hx hb dX8_entry_74 rfl (lv_at hl 1 rfl) ?_
      refine va_lald hx hb hK hP 4 2 rfl rfl (ix_in ((in_1 hn (by omega)).mp (bI_1 c_11)) hn h6) dX8_entry_75 ?_
      exact W.lret (v := (zf i.toNatClampNeg)) hx hb hr (fun t ht hW => ⟨congrArg (fun z => Outcome.returned (some (Value.long z))) ((by rw [fldv, if_pos ((in_1 hn (by omega)).mp (bI_1 c_11))]; rfl)), ht⟩) (fun _ h => by cases h) dX8_entry_76
    · refine lv_tableOut (tgt := 77) hx hb dX8_entry_17 hsw (by decide) ?_
      refine lv_lconst (v := 0) hx hb dX8_entry_77 (by decide) ?_
      exact W.lret (v := 0) hx hb hr (fun t ht hW => ⟨congrArg (fun z => Outcome.returned (some (Value.long z))) ((by rw [fldv, if_pos ((in_1 hn (by omega)).mp (bI_1 c_11))]; exact (fl_out hsw).symm)), ht⟩) (fun _ h => by cases h) dX8_entry_78
  · skip
    refine lv_lconst (v := 0) hx hb dX8_entry_14 (by decide) ?_
    exact W.lret (v := 0) hx hb hr (fun t ht hW => ⟨congrArg (fun z => Outcome.returned (some (Value.long z))) ((by rw [fldv, if_neg (fun h => bI_0 c_11 ((in_1 hn (by omega)).mpr h))])), ht⟩) (fun _ h => by cases h) dX8_entry_15

set_option maxHeartbeats 4000000 in
set_option maxRecDepth 100000 in
theorem c_X8_chain (l : Launch) (D : va_G) (cA : Nat → ClassId) (h0 : Nat) (m0 : Int32) (m1 : Int32) (m2 : Int32) (m3 : Int32) (m4 : Int32) (m5 : Nat) (m6 : Int32) (m7 : Int32) (m8 : Int32) (m9 : Nat) (m10 : Nat) (m11 : Nat) (m12 : Int32) (m13 : Nat) (m14 : Nat) (m15 : Nat) (m16 : Nat) (m17 : Int32) (m18 : Nat) (m19 : Nat) (m20 : Nat) (m21 : Nat) (m22 : Nat) (m23 : Nat) (m24 : Nat) (m25 : Nat) (m26 : Int32) (m27 : Int32) (m28 : Int32) (m29 : Int32) (m30 : Int32) (m31 : Int32) (m32 : Nat) (m33 : Nat) (m34 : Nat) (m35 : Nat) (m36 : Int32) (m37 : Nat) (m38 : Int32) (m39 : Nat) (m40 : Nat) (m41 : Nat) (m42 : Nat) (m43 : Nat) (i : Int32) (cf : Nat → Int64) (n0 : Nat) (hn : m38 = nI n0) (h6 : n0 ≤ 600) : Met l yX8_chain wsX8_chain ({ frames := 1, cells := 0, slots := 0, locals := 22 }) (rPc vwCl D cA [(h0, .inr (7, [.int m0, .int m1, .int m2, .int m3, .int m4, .ref m5, .int m6, .int m7, .int m8, .ref m9, .ref m10, .ref m11, .int m12, .ref m13, .ref m14, .ref m15, .ref m16, .int m17, .ref m18, .ref m19, .ref m20, .ref m21, .ref m22, .ref m23, .ref m24, .ref m25, .int m26, .int m27, .int m28, .int m29, .int m30, .int m31, .ref m32, .ref m33, .ref m34, .ref m35, .int m36, .ref m37, .int m38, .ref m39, .ref m40, .ref m41, .ref m42, .ref m43])), (m43, .inl (cA 2, 600, .inr (.inl cf)))] [.ref h0, .int i]) (rq_x (some (.long (cho cf m38 i)))) 0 0 (fun _ => False) := by
  refine Met.ofW (cc := cX8_chain) (maxL := 2) (ret := (some .long)) (by decide) rfl ?_
  intro p e s m args below meth c s₁ B hml hv
  obtain ⟨rfl, hP, hK⟩ := hv
  have hx := B.exec
  have hb := B.bytes
  have hr := B.returns
  have hts := atoms_spec (ws := wsX8_chain) B.pre
  have hown : s.vm.findClass RX8 = some m.cls := findClass_of_methodNamed B.named
  have hlocks := B.notSynchronized
  have hin_X8 : ∀ w ∈ wsX80, w ∈ wsX8_chain := fun w h => List.mem_cons_of_mem _ (List.mem_append_right _ h)
  have w_RX8_135 := hts (.fieldLink RX8 135 "MixElectionModel" "entries" "I") (by decide +kernel)
  have w_RX8_87 := hts (.fieldLink RX8 87 "MixElectionModel" "chain" "[J") (by decide +kernel)
  have hl := lv_entry ([.ref h0, .int i]) (n := 2) (Nat.le_of_ble_eq_true rfl)
  rw [lg_entry_eq]
  generalize (lg_sl ([.ref h0, .int i]) ++ List.replicate (2 - (lg_sl ([.ref h0, .int i])).length) Slot.unset).toArray = ls at hl ⊢
  have hl : lv_has ls 2 [(0, .ref h0), (1, .int i)] := hl
  refine lv_iload_n hx hb dX8_chain_0 rfl (lv_at hl 1 rfl) ?_
  refine lv_iconst (v := (-1)) hx hb dX8_chain_1 (by decide) ?_
  refine lv_icmp_ne (tgt := 9) hx hb dX8_chain_2 (by decide) (fun c_2 => ?_) (fun c_2 => ?_)
  · skip
    refine lv_iload_n hx hb dX8_chain_9 rfl (lv_at hl 1 rfl) ?_
    refine lv_iconst (v := 0) hx hb dX8_chain_10 (by decide) ?_
    refine lv_aload_n hx hb dX8_chain_11 rfl (lv_at hl 0 rfl) ?_
    refine va_get (D := D) (ci := 7) (v := .int m38) (C := RX8) (T := TX8) (N := 44) hx hb hts hin_X8 hown hK hP 0 rfl rfl 38 (by decide) (w_RX8_135) (fun _ h9 => h9) rfl dX8_chain_12 ?_
    refine lv_iconst (v := 1) hx hb dX8_chain_15 (by decide) ?_
    refine lv_isub hx hb dX8_chain_16 ?_
    refine rq_call1 (v := .int (bI (0 ≤ i ∧ i ≤ (m38 - 1)))) (rn_S (As := [.int i, .int 0, .int (m38 - 1)]) (rest := []) ⟨hx, hb, hml, hown, hts⟩ (c_X8_in l D cA i 0 (m38 - 1)) (va_cwS 3 hts gX8_chain_X8_in rfl rfl rfl (by decide +kernel) ⟨Nat.le_of_ble_eq_true rfl, Nat.le_of_ble_eq_true rfl⟩) hK hP [] rfl rfl hl.1 rfl (Nat.le_of_ble_eq_true rfl) dX8_chain_17 ⟨Nat.le_of_ble_eq_true rfl, Nat.le_of_ble_eq_true rfl⟩) ?_
    refine lv_if_eq (tgt := 32) hx hb dX8_chain_20 (by decide) (fun c_20 => ?_) (fun c_20 => ?_)
    · skip
      refine lv_lconst (v := 0) hx hb dX8_chain_32 (by decide) ?_
      exact W.lret (v := 0) hx hb hr (fun t ht hW => ⟨congrArg (fun z => Outcome.returned (some (Value.long z))) ((by rw [cho, if_neg c_2, if_neg (fun h => bI_0 c_20 ((in_1 hn (by omega)).mpr h))])), ht⟩) (fun _ h => by cases h) dX8_chain_33
    · skip
      refine lv_aload_n hx hb dX8_chain_23 rfl (lv_at hl 0 rfl) ?_
      refine va_get (D := D) (ci := 7) (v := .ref m43) (C := RX8) (T := TX8) (N := 44) hx hb hts hin_X8 hown hK hP 0 rfl rfl 43 (by decide) (w_RX8_87) (fun _ h9 => h9) rfl dX8_chain_24 ?_
      refine lv_iload_n hx hb dX8_chain_27 rfl (lv_at hl 1 rfl) ?_
      refine va_lald hx hb hK hP 1 2 rfl rfl (ix_in ((in_1 hn (by omega)).mp (bI_1 c_20)) hn h6) dX8_chain_28 ?_
      refine lv_goto (tgt := 33) hx hb dX8_chain_29 (by decide) ?_
      exact W.lret (v := (cf i.toNatClampNeg)) hx hb hr (fun t ht hW => ⟨congrArg (fun z => Outcome.returned (some (Value.long z))) ((by rw [cho, if_neg c_2, if_pos ((in_1 hn (by omega)).mp (bI_1 c_20))])), ht⟩) (fun _ h => by cases h) dX8_chain_33
  · skip
    refine lv_ldc2 (v := (-3750763034362895579)) hx hb hown (hts (.constantLong RX8 138 (-3750763034362895579)) (by decide +kernel)) dX8_chain_5 ?_
    exact W.lret (v := (-3750763034362895579)) hx hb hr (fun t ht hW => ⟨congrArg (fun z => Outcome.returned (some (Value.long z))) ((by rw [cho, if_pos c_2])), ht⟩) (fun _ h => by cases h) dX8_chain_8
