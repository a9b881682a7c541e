theorem dX8_shareOf_0 : decode cX8_shareOf 0 = .ok (.lconst 0, 1) := by decide +kernel
theorem dX8_shareOf_1 : decode cX8_shareOf 1 = .ok (.lstore_n 2, 1) := by decide +kernel
theorem dX8_shareOf_2 : decode cX8_shareOf 2 = .ok (.aload_n 0, 1) := by decide +kernel
theorem dX8_shareOf_3 : decode cX8_shareOf 3 = .ok (.getfield 112, 3) := by decide +kernel
theorem dX8_shareOf_6 : decode cX8_shareOf 6 = .ok (.iconst 1, 1) := by decide +kernel
theorem dX8_shareOf_7 : decode cX8_shareOf 7 = .ok (.isub, 1) := by decide +kernel
theorem dX8_shareOf_8 : decode cX8_shareOf 8 = .ok (.istore 4, 2) := by decide +kernel
theorem dX8_shareOf_10 : decode cX8_shareOf 10 = .ok (.iload 4, 2) := by decide +kernel
theorem dX8_shareOf_12 : decode cX8_shareOf 12 = .ok (.ifCond .lt 29, 3) := by decide +kernel
theorem dX8_shareOf_15 : decode cX8_shareOf 15 = .ok (.lload_n 2, 1) := by decide +kernel
theorem dX8_shareOf_16 : decode cX8_shareOf 16 = .ok (.iload_n 1, 1) := by decide +kernel
theorem dX8_shareOf_17 : decode cX8_shareOf 17 = .ok (.i2l, 1) := by decide +kernel
theorem dX8_shareOf_18 : decode cX8_shareOf 18 = .ok (.lmul, 1) := by decide +kernel
theorem dX8_shareOf_19 : decode cX8_shareOf 19 = .ok (.aload_n 0, 1) := by decide +kernel
theorem dX8_shareOf_20 : decode cX8_shareOf 20 = .ok (.getfield 7, 3) := by decide +kernel
theorem dX8_shareOf_23 : decode cX8_shareOf 23 = .ok (.iload 4, 2) := by decide +kernel
theorem dX8_shareOf_25 : decode cX8_shareOf 25 = .ok (.iaload, 1) := by decide +kernel
theorem dX8_shareOf_26 : decode cX8_shareOf 26 = .ok (.i2l, 1) := by decide +kernel
theorem dX8_shareOf_27 : decode cX8_shareOf 27 = .ok (.ladd, 1) := by decide +kernel
theorem dX8_shareOf_28 : decode cX8_shareOf 28 = .ok (.aload_n 0, 1) := by decide +kernel
theorem dX8_shareOf_29 : decode cX8_shareOf 29 = .ok (.getfield 103, 3) := by decide +kernel
theorem dX8_shareOf_32 : decode cX8_shareOf 32 = .ok (.i2l, 1) := by decide +kernel
theorem dX8_shareOf_33 : decode cX8_shareOf 33 = .ok (.lrem, 1) := by decide +kernel
theorem dX8_shareOf_34 : decode cX8_shareOf 34 = .ok (.lstore_n 2, 1) := by decide +kernel
theorem dX8_shareOf_35 : decode cX8_shareOf 35 = .ok (.iinc 4 (-1), 3) := by decide +kernel
theorem dX8_shareOf_38 : decode cX8_shareOf 38 = .ok (.goto (-28), 3) := by decide +kernel
theorem dX8_shareOf_41 : decode cX8_shareOf 41 = .ok (.lload_n 2, 1) := by decide +kernel
theorem dX8_shareOf_42 : decode cX8_shareOf 42 = .ok (.l2i, 1) := by decide +kernel
theorem dX8_shareOf_43 : decode cX8_shareOf 43 = .ok (.ireturn, 1) := by decide +kernel
set_option maxRecDepth 20000 in
theorem ggX8_coin_X8_in : GoodIn wsX8_coin wsX8_in := goodIn_r _ [22] (by decide +kernel) (by decide +kernel)
set_option maxRecDepth 20000 in
theorem gX8_coin_X8_in : GoodIn wsX8_coin (va_wsS RX8 122 yX8_in wsX8_in) := goodIn_app (goodIn_of _ (by decide +kernel)) ggX8_coin_X8_in
set_option maxRecDepth 20000 in
theorem ggX8_coin_X8_anewA : GoodIn wsX8_coin wsX8_anewA := goodIn_r _ [26, 13, 27, 28, 29, 21, 30, 31, 32, 33, 34, 35, 55, 56, 57, 58, 59, 60, 61, 62, 63, 64, 65, 66, 67, 68, 69, 70, 71, 72, 73, 74, 75, 76, 77, 78, 79, 80, 81, 82, 83, 84, 85, 86, 87, 88, 89, 90, 91, 92, 93, 94, 95, 96, 97, 98] (by decide +kernel) (by decide +kernel)
set_option maxRecDepth 20000 in
theorem gX8_coin_X8_anewA : GoodIn wsX8_coin (wsV RX8 194 RX8 yX8_anewA wsX8_anewA) := goodIn_app (goodIn_of _ (by decide +kernel)) ggX8_coin_X8_anewA
set_option maxRecDepth 20000 in
theorem ggX8_coin_X8_anewB : GoodIn wsX8_coin wsX8_anewB := goodIn_r _ [39, 14, 15, 27, 28, 29, 21, 30, 31, 32, 33, 34, 35, 55, 56, 57, 58, 59, 60, 61, 62, 63, 64, 65, 66, 67, 68, 69, 70, 71, 72, 73, 74, 75, 76, 77, 78, 79, 80, 81, 82, 83, 84, 85, 86, 87, 88, 89, 90, 91, 92, 93, 94, 95, 96, 97, 98] (by decide +kernel) (by decide +kernel)
set_option maxRecDepth 20000 in
theorem gX8_coin_X8_anewB : GoodIn wsX8_coin (wsV RX8 197 RX8 yX8_anewB wsX8_anewB) := goodIn_app (goodIn_of _ (by decide +kernel)) ggX8_coin_X8_anewB
set_option maxRecDepth 20000 in
theorem ggX8_coin_X8_power : GoodIn wsX8_coin wsX8_power := goodIn_r _ [30, 31, 32, 33, 21, 34, 35, 55, 56, 57, 58, 59, 60, 61, 62, 63, 64, 65, 66, 67, 68, 69, 70, 71, 72, 73, 74, 75, 76, 77, 78, 79, 80, 81, 82, 83, 84, 85, 86, 87, 88, 89, 90, 91, 92, 93, 94, 95, 96, 97, 98] (by decide +kernel) (by decide +kernel)
set_option maxRecDepth 20000 in
theorem gX8_coin_X8_power : GoodIn wsX8_coin (wsV RX8 126 RX8 yX8_power wsX8_power) := goodIn_app (goodIn_of _ (by decide +kernel)) ggX8_coin_X8_power
set_option maxRecDepth 20000 in
theorem ggX8_coin_X8_times : GoodIn wsX8_coin wsX8_times := goodIn_r _ [34, 35, 55, 56, 57, 58, 59, 60, 61, 62, 63, 64, 65, 66, 67, 68, 69, 70, 71, 72, 73, 74, 75, 76, 77, 78, 79, 80, 81, 82, 83, 84, 85, 86, 87, 88, 89, 90, 91, 92, 93, 94, 95, 96, 97, 98] (by decide +kernel) (by decide +kernel)
set_option maxRecDepth 20000 in
theorem gX8_coin_X8_times : GoodIn wsX8_coin (wsV RX8 118 RX8 yX8_times wsX8_times) := goodIn_app (goodIn_of _ (by decide +kernel)) ggX8_coin_X8_times
set_option maxRecDepth 20000 in
theorem ggX8_coin_X8_enter : GoodIn wsX8_coin wsX8_enter := goodIn_r _ [43, 44, 45, 46, 47, 48, 49, 50, 51, 52, 21, 53, 54, 55, 56, 57, 58, 59, 60, 61, 62, 63, 64, 65, 66, 67, 68, 69, 70, 71, 72, 73, 74, 75, 76, 77, 78, 79, 80, 81, 82, 83, 84, 85, 86, 87, 88, 89, 90, 91, 92, 93, 94, 95, 96, 97, 98] (by decide +kernel) (by decide +kernel)
set_option maxRecDepth 20000 in
theorem gX8_coin_X8_enter : GoodIn wsX8_coin (wsV RX8 149 RX8 yX8_enter wsX8_enter) := goodIn_app (goodIn_of _ (by decide +kernel)) ggX8_coin_X8_enter
theorem dX8_coin_0 : decode cX8_coin 0 = .ok (.aload_n 0, 1) := by decide +kernel
theorem dX8_coin_1 : decode cX8_coin 1 = .ok (.getfield 181, 3) := by decide +kernel
theorem dX8_coin_4 : decode cX8_coin 4 = .ok (.ifCond .eq 12, 3) := by decide +kernel
theorem dX8_coin_7 : decode cX8_coin 7 = .ok (.iload_n 1, 1) := by decide +kernel
theorem dX8_coin_8 : decode cX8_coin 8 = .ok (.iconst 0, 1) := by decide +kernel
theorem dX8_coin_9 : decode cX8_coin 9 = .ok (.iconst 1, 1) := by decide +kernel
theorem dX8_coin_10 : decode cX8_coin 10 = .ok (.invokestatic 122, 3) := by decide +kernel
theorem dX8_coin_13 : decode cX8_coin 13 = .ok (.ifCond .ne 5, 3) := by decide +kernel
theorem dX8_coin_16 : decode cX8_coin 16 = .ok (.iconst (-1), 1) := by decide +kernel
theorem dX8_coin_17 : decode cX8_coin 17 = .ok (.ireturn, 1) := by decide +kernel
theorem dX8_coin_18 : decode cX8_coin 18 = .ok (.iconst 1, 1) := by decide +kernel
theorem dX8_coin_19 : decode cX8_coin 19 = .ok (.istore_n 2, 1) := by decide +kernel
theorem dX8_coin_20 : decode cX8_coin 20 = .ok (.iconst 0, 1) := by decide +kernel
theorem dX8_coin_21 : decode cX8_coin 21 = .ok (.istore_n 3, 1) := by decide +kernel
theorem dX8_coin_22 : decode cX8_coin 22 = .ok (.iload_n 3, 1) := by decide +kernel
theorem dX8_coin_23 : decode cX8_coin 23 = .ok (.aload_n 0, 1) := by decide +kernel
theorem dX8_coin_24 : decode cX8_coin 24 = .ok (.getfield 170, 3) := by decide +kernel
theorem dX8_coin_27 : decode cX8_coin 27 = .ok (.if_icmp .ge 240, 3) := by decide +kernel
theorem dX8_coin_30 : decode cX8_coin 30 = .ok (.aload_n 0, 1) := by decide +kernel
theorem dX8_coin_31 : decode cX8_coin 31 = .ok (.getfield 53, 3) := by decide +kernel
theorem dX8_coin_34 : decode cX8_coin 34 = .ok (.iload_n 3, 1) := by decide +kernel
theorem dX8_coin_35 : decode cX8_coin 35 = .ok (.iaload, 1) := by decide +kernel
theorem dX8_coin_36 : decode cX8_coin 36 = .ok (.istore 4, 2) := by decide +kernel
theorem dX8_coin_38 : decode cX8_coin 38 = .ok (.iload_n 1, 1) := by decide +kernel
theorem dX8_coin_39 : decode cX8_coin 39 = .ok (.ifCond .ne 90, 3) := by decide +kernel
theorem dX8_coin_42 : decode cX8_coin 42 = .ok (.aload_n 0, 1) := by decide +kernel
theorem dX8_coin_43 : decode cX8_coin 43 = .ok (.getfield 59, 3) := by decide +kernel
theorem dX8_coin_46 : decode cX8_coin 46 = .ok (.iload_n 3, 1) := by decide +kernel
theorem dX8_coin_47 : decode cX8_coin 47 = .ok (.iload 4, 2) := by decide +kernel
theorem dX8_coin_49 : decode cX8_coin 49 = .ok (.iastore, 1) := by decide +kernel
theorem dX8_coin_50 : decode cX8_coin 50 = .ok (.aload_n 0, 1) := by decide +kernel
theorem dX8_coin_51 : decode cX8_coin 51 = .ok (.getfield 62, 3) := by decide +kernel
theorem dX8_coin_54 : decode cX8_coin 54 = .ok (.iload_n 3, 1) := by decide +kernel
theorem dX8_coin_55 : decode cX8_coin 55 = .ok (.aload_n 0, 1) := by decide +kernel
theorem dX8_coin_56 : decode cX8_coin 56 = .ok (.getfield 56, 3) := by decide +kernel
theorem dX8_coin_59 : decode cX8_coin 59 = .ok (.iload_n 3, 1) := by decide +kernel
theorem dX8_coin_60 : decode cX8_coin 60 = .ok (.iaload, 1) := by decide +kernel
theorem dX8_coin_61 : decode cX8_coin 61 = .ok (.iastore, 1) := by decide +kernel
theorem dX8_coin_62 : decode cX8_coin 62 = .ok (.iload_n 2, 1) := by decide +kernel
theorem dX8_coin_63 : decode cX8_coin 63 = .ok (.ifCond .eq 61, 3) := by decide +kernel
theorem dX8_coin_66 : decode cX8_coin 66 = .ok (.aload_n 0, 1) := by decide +kernel
theorem dX8_coin_67 : decode cX8_coin 67 = .ok (.getfield 29, 3) := by decide +kernel
theorem dX8_coin_70 : decode cX8_coin 70 = .ok (.iload 4, 2) := by decide +kernel
theorem dX8_coin_72 : decode cX8_coin 72 = .ok (.iaload, 1) := by decide +kernel
theorem dX8_coin_73 : decode cX8_coin 73 = .ok (.aload_n 0, 1) := by decide +kernel
theorem dX8_coin_74 : decode cX8_coin 74 = .ok (.aload_n 0, 1) := by decide +kernel
theorem dX8_coin_75 : decode cX8_coin 75 = .ok (.getfield 191, 3) := by decide +kernel
theorem dX8_coin_78 : decode cX8_coin 78 = .ok (.iconst 1, 1) := by decide +kernel
theorem dX8_coin_79 : decode cX8_coin 79 = .ok (.isub, 1) := by decide +kernel
theorem dX8_coin_80 : decode cX8_coin 80 = .ok (.iload_n 3, 1) := by decide +kernel
theorem dX8_coin_81 : decode cX8_coin 81 = .ok (.aload_n 0, 1) := by decide +kernel
theorem dX8_coin_82 : decode cX8_coin 82 = .ok (.getfield 56, 3) := by decide +kernel
theorem dX8_coin_85 : decode cX8_coin 85 = .ok (.iload_n 3, 1) := by decide +kernel
theorem dX8_coin_86 : decode cX8_coin 86 = .ok (.iaload, 1) := by decide +kernel
theorem dX8_coin_87 : decode cX8_coin 87 = .ok (.invokevirtual 194, 3) := by decide +kernel
theorem dX8_coin_90 : decode cX8_coin 90 = .ok (.if_icmp .ne 34, 3) := by decide +kernel
theorem dX8_coin_93 : decode cX8_coin 93 = .ok (.aload_n 0, 1) := by decide +kernel
theorem dX8_coin_94 : decode cX8_coin 94 = .ok (.getfield 32, 3) := by decide +kernel
theorem dX8_coin_97 : decode cX8_coin 97 = .ok (.iload 4, 2) := by decide +kernel
theorem dX8_coin_99 : decode cX8_coin 99 = .ok (.iaload, 1) := by decide +kernel
theorem dX8_coin_100 : decode cX8_coin 100 = .ok (.aload_n 0, 1) := by decide +kernel
theorem dX8_coin_101 : decode cX8_coin 101 = .ok (.aload_n 0, 1) := by decide +kernel
theorem dX8_coin_102 : decode cX8_coin 102 = .ok (.getfield 191, 3) := by decide +kernel
theorem dX8_coin_105 : decode cX8_coin 105 = .ok (.iconst 1, 1) := by decide +kernel
theorem dX8_coin_106 : decode cX8_coin 106 = .ok (.isub, 1) := by decide +kernel
theorem dX8_coin_107 : decode cX8_coin 107 = .ok (.iload_n 3, 1) := by decide +kernel
theorem dX8_coin_108 : decode cX8_coin 108 = .ok (.aload_n 0, 1) := by decide +kernel
theorem dX8_coin_109 : decode cX8_coin 109 = .ok (.getfield 56, 3) := by decide +kernel
theorem dX8_coin_112 : decode cX8_coin 112 = .ok (.iload_n 3, 1) := by decide +kernel
theorem dX8_coin_113 : decode cX8_coin 113 = .ok (.iaload, 1) := by decide +kernel
theorem dX8_coin_114 : decode cX8_coin 114 = .ok (.invokevirtual 197, 3) := by decide +kernel
theorem dX8_coin_117 : decode cX8_coin 117 = .ok (.if_icmp .ne 7, 3) := by decide +kernel
theorem dX8_coin_120 : decode cX8_coin 120 = .ok (.iconst 1, 1) := by decide +kernel
theorem dX8_coin_121 : decode cX8_coin 121 = .ok (.goto 4, 3) := by decide +kernel
theorem dX8_coin_124 : decode cX8_coin 124 = .ok (.iconst 0, 1) := by decide +kernel
theorem dX8_coin_125 : decode cX8_coin 125 = .ok (.istore_n 2, 1) := by decide +kernel
theorem dX8_coin_126 : decode cX8_coin 126 = .ok (.goto 135, 3) := by decide +kernel
theorem dX8_coin_129 : decode cX8_coin 129 = .ok (.aload_n 0, 1) := by decide +kernel
theorem dX8_coin_130 : decode cX8_coin 130 = .ok (.getfield 50, 3) := by decide +kernel
theorem dX8_coin_133 : decode cX8_coin 133 = .ok (.iload_n 3, 1) := by decide +kernel
theorem dX8_coin_134 : decode cX8_coin 134 = .ok (.iaload, 1) := by decide +kernel
theorem dX8_coin_135 : decode cX8_coin 135 = .ok (.aload_n 0, 1) := by decide +kernel
theorem dX8_coin_136 : decode cX8_coin 136 = .ok (.getfield 56, 3) := by decide +kernel
theorem dX8_coin_139 : decode cX8_coin 139 = .ok (.iload_n 3, 1) := by decide +kernel
theorem dX8_coin_140 : decode cX8_coin 140 = .ok (.iaload, 1) := by decide +kernel
theorem dX8_coin_141 : decode cX8_coin 141 = .ok (.isub, 1) := by decide +kernel
theorem dX8_coin_142 : decode cX8_coin 142 = .ok (.aload_n 0, 1) := by decide +kernel
theorem dX8_coin_143 : decode cX8_coin 143 = .ok (.getfield 103, 3) := by decide +kernel
theorem dX8_coin_146 : decode cX8_coin 146 = .ok (.iadd, 1) := by decide +kernel
theorem dX8_coin_147 : decode cX8_coin 147 = .ok (.aload_n 0, 1) := by decide +kernel
theorem dX8_coin_148 : decode cX8_coin 148 = .ok (.getfield 103, 3) := by decide +kernel
theorem dX8_coin_151 : decode cX8_coin 151 = .ok (.irem, 1) := by decide +kernel
theorem dX8_coin_152 : decode cX8_coin 152 = .ok (.istore 5, 2) := by decide +kernel
theorem dX8_coin_154 : decode cX8_coin 154 = .ok (.bipush 40, 2) := by decide +kernel
theorem dX8_coin_156 : decode cX8_coin 156 = .ok (.aload_n 0, 1) := by decide +kernel
theorem dX8_coin_157 : decode cX8_coin 157 = .ok (.getfield 191, 3) := by decide +kernel
theorem dX8_coin_160 : decode cX8_coin 160 = .ok (.imul, 1) := by decide +kernel
theorem dX8_coin_161 : decode cX8_coin 161 = .ok (.aload_n 0, 1) := by decide +kernel
theorem dX8_coin_162 : decode cX8_coin 162 = .ok (.getfield 47, 3) := by decide +kernel
theorem dX8_coin_165 : decode cX8_coin 165 = .ok (.iload_n 3, 1) := by decide +kernel
theorem dX8_coin_166 : decode cX8_coin 166 = .ok (.iaload, 1) := by decide +kernel
theorem dX8_coin_167 : decode cX8_coin 167 = .ok (.iadd, 1) := by decide +kernel
theorem dX8_coin_168 : decode cX8_coin 168 = .ok (.istore 6, 2) := by decide +kernel
theorem dX8_coin_170 : decode cX8_coin 170 = .ok (.aload_n 0, 1) := by decide +kernel
theorem dX8_coin_171 : decode cX8_coin 171 = .ok (.getfield 59, 3) := by decide +kernel
theorem dX8_coin_174 : decode cX8_coin 174 = .ok (.iload 4, 2) := by decide +kernel
theorem dX8_coin_176 : decode cX8_coin 176 = .ok (.aload_n 0, 1) := by decide +kernel
theorem dX8_coin_177 : decode cX8_coin 177 = .ok (.getfield 47, 3) := by decide +kernel
theorem dX8_coin_180 : decode cX8_coin 180 = .ok (.iload_n 3, 1) := by decide +kernel
theorem dX8_coin_181 : decode cX8_coin 181 = .ok (.iaload, 1) := by decide +kernel
theorem dX8_coin_182 : decode cX8_coin 182 = .ok (.iastore, 1) := by decide +kernel
theorem dX8_coin_183 : decode cX8_coin 183 = .ok (.aload_n 0, 1) := by decide +kernel
theorem dX8_coin_184 : decode cX8_coin 184 = .ok (.getfield 62, 3) := by decide +kernel
theorem dX8_coin_187 : decode cX8_coin 187 = .ok (.iload 4, 2) := by decide +kernel
theorem dX8_coin_189 : decode cX8_coin 189 = .ok (.iload 5, 2) := by decide +kernel
theorem dX8_coin_191 : decode cX8_coin 191 = .ok (.iastore, 1) := by decide +kernel
theorem dX8_coin_192 : decode cX8_coin 192 = .ok (.iload_n 2, 1) := by decide +kernel
theorem dX8_coin_193 : decode cX8_coin 193 = .ok (.ifCond .eq 66, 3) := by decide +kernel
theorem dX8_coin_196 : decode cX8_coin 196 = .ok (.aload_n 0, 1) := by decide +kernel
theorem dX8_coin_197 : decode cX8_coin 197 = .ok (.getfield 23, 3) := by decide +kernel
theorem dX8_coin_200 : decode cX8_coin 200 = .ok (.iload 6, 2) := by decide +kernel
theorem dX8_coin_202 : decode cX8_coin 202 = .ok (.iaload, 1) := by decide +kernel
theorem dX8_coin_203 : decode cX8_coin 203 = .ok (.aload_n 0, 1) := by decide +kernel
theorem dX8_coin_204 : decode cX8_coin 204 = .ok (.aload_n 0, 1) := by decide +kernel
theorem dX8_coin_205 : decode cX8_coin 205 = .ok (.getfield 29, 3) := by decide +kernel
theorem dX8_coin_208 : decode cX8_coin 208 = .ok (.iload 4, 2) := by decide +kernel
theorem dX8_coin_210 : decode cX8_coin 210 = .ok (.iaload, 1) := by decide +kernel
theorem dX8_coin_211 : decode cX8_coin 211 = .ok (.aload_n 0, 1) := by decide +kernel
theorem dX8_coin_212 : decode cX8_coin 212 = .ok (.iconst 4, 1) := by decide +kernel
theorem dX8_coin_213 : decode cX8_coin 213 = .ok (.iload 5, 2) := by decide +kernel
theorem dX8_coin_215 : decode cX8_coin 215 = .ok (.invokevirtual 126, 3) := by decide +kernel
theorem dX8_coin_218 : decode cX8_coin 218 = .ok (.invokevirtual 118, 3) := by decide +kernel
theorem dX8_coin_221 : decode cX8_coin 221 = .ok (.if_icmp .ne 38, 3) := by decide +kernel
theorem dX8_coin_224 : decode cX8_coin 224 = .ok (.aload_n 0, 1) := by decide +kernel
theorem dX8_coin_225 : decode cX8_coin 225 = .ok (.getfield 26, 3) := by decide +kernel
theorem dX8_coin_228 : decode cX8_coin 228 = .ok (.iload 6, 2) := by decide +kernel
theorem dX8_coin_230 : decode cX8_coin 230 = .ok (.iaload, 1) := by decide +kernel
theorem dX8_coin_231 : decode cX8_coin 231 = .ok (.aload_n 0, 1) := by decide +kernel
theorem dX8_coin_232 : decode cX8_coin 232 = .ok (.aload_n 0, 1) := by decide +kernel
theorem dX8_coin_233 : decode cX8_coin 233 = .ok (.getfield 32, 3) := by decide +kernel
theorem dX8_coin_236 : decode cX8_coin 236 = .ok (.iload 4, 2) := by decide +kernel
theorem dX8_coin_238 : decode cX8_coin 238 = .ok (.iaload, 1) := by decide +kernel
theorem dX8_coin_239 : decode cX8_coin 239 = .ok (.aload_n 0, 1) := by decide +kernel
theorem dX8_coin_240 : decode cX8_coin 240 = .ok (.aload_n 0, 1) := by decide +kernel
theorem dX8_coin_241 : decode cX8_coin 241 = .ok (.getfield 146, 3) := by decide +kernel
theorem dX8_coin_244 : decode cX8_coin 244 = .ok (.iload 5, 2) := by decide +kernel
theorem dX8_coin_246 : decode cX8_coin 246 = .ok (.invokevirtual 126, 3) := by decide +kernel
theorem dX8_coin_249 : decode cX8_coin 249 = .ok (.invokevirtual 118, 3) := by decide +kernel
theorem dX8_coin_252 : decode cX8_coin 252 = .ok (.if_icmp .ne 7, 3) := by decide +kernel
theorem dX8_coin_255 : decode cX8_coin 255 = .ok (.iconst 1, 1) := by decide +kernel
theorem dX8_coin_256 : decode cX8_coin 256 = .ok (.goto 4, 3) := by decide +kernel
theorem dX8_coin_259 : decode cX8_coin 259 = .ok (.iconst 0, 1) := by decide +kernel
theorem dX8_coin_260 : decode cX8_coin 260 = .ok (.istore_n 2, 1) := by decide +kernel
theorem dX8_coin_261 : decode cX8_coin 261 = .ok (.iinc 3 1, 3) := by decide +kernel
theorem dX8_coin_264 : decode cX8_coin 264 = .ok (.goto (-242), 3) := by decide +kernel
theorem dX8_coin_267 : decode cX8_coin 267 = .ok (.aload_n 0, 1) := by decide +kernel
theorem dX8_coin_268 : decode cX8_coin 268 = .ok (.iconst 0, 1) := by decide +kernel
theorem dX8_coin_269 : decode cX8_coin 269 = .ok (.putfield 181, 3) := by decide +kernel
theorem dX8_coin_272 : decode cX8_coin 272 = .ok (.aload_n 0, 1) := by decide +kernel
theorem dX8_coin_273 : decode cX8_coin 273 = .ok (.iconst 1, 1) := by decide +kernel
theorem dX8_coin_274 : decode cX8_coin 274 = .ok (.putfield 209, 3) := by decide +kernel
theorem dX8_coin_277 : decode cX8_coin 277 = .ok (.aload_n 0, 1) := by decide +kernel
theorem dX8_coin_278 : decode cX8_coin 278 = .ok (.dup, 1) := by decide +kernel
theorem dX8_coin_279 : decode cX8_coin 279 = .ok (.getfield 212, 3) := by decide +kernel
theorem dX8_coin_282 : decode cX8_coin 282 = .ok (.iload_n 2, 1) := by decide +kernel
theorem dX8_coin_283 : decode cX8_coin 283 = .ok (.ifCond .eq 7, 3) := by decide +kernel
theorem dX8_coin_286 : decode cX8_coin 286 = .ok (.iconst 0, 1) := by decide +kernel
theorem dX8_coin_287 : decode cX8_coin 287 = .ok (.goto 4, 3) := by decide +kernel
theorem dX8_coin_290 : decode cX8_coin 290 = .ok (.iconst 1, 1) := by decide +kernel
theorem dX8_coin_291 : decode cX8_coin 291 = .ok (.iadd, 1) := by decide +kernel
theorem dX8_coin_292 : decode cX8_coin 292 = .ok (.putfield 212, 3) := by decide +kernel
theorem dX8_coin_295 : decode cX8_coin 295 = .ok (.aload_n 0, 1) := by decide +kernel
theorem dX8_coin_296 : decode cX8_coin 296 = .ok (.bipush 6, 2) := by decide +kernel
theorem dX8_coin_298 : decode cX8_coin 298 = .ok (.aload_n 0, 1) := by decide +kernel
theorem dX8_coin_299 : decode cX8_coin 299 = .ok (.getfield 203, 3) := by decide +kernel
theorem dX8_coin_302 : decode cX8_coin 302 = .ok (.i2l, 1) := by decide +kernel
theorem dX8_coin_303 : decode cX8_coin 303 = .ok (.iload_n 1, 1) := by decide +kernel
theorem dX8_coin_304 : decode cX8_coin 304 = .ok (.i2l, 1) := by decide +kernel
theorem dX8_coin_305 : decode cX8_coin 305 = .ok (.iload_n 2, 1) := by decide +kernel
theorem dX8_coin_306 : decode cX8_coin 306 = .ok (.ifCond .eq 7, 3) := by decide +kernel
theorem dX8_coin_309 : decode cX8_coin 309 = .ok (.lconst 1, 1) := by decide +kernel
theorem dX8_coin_310 : decode cX8_coin 310 = .ok (.goto 4, 3) := by decide +kernel
theorem dX8_coin_313 : decode cX8_coin 313 = .ok (.lconst 0, 1) := by decide +kernel
theorem dX8_coin_314 : decode cX8_coin 314 = .ok (.invokevirtual 149, 3) := by decide +kernel
theorem dX8_coin_317 : decode cX8_coin 317 = .ok (.lstore_n 3, 1) := by decide +kernel
theorem dX8_coin_318 : decode cX8_coin 318 = .ok (.iload_n 2, 1) := by decide +kernel
theorem dX8_coin_319 : decode cX8_coin 319 = .ok (.ifCond .eq 7, 3) := by decide +kernel
theorem dX8_coin_322 : decode cX8_coin 322 = .ok (.iconst 1, 1) := by decide +kernel
theorem dX8_coin_323 : decode cX8_coin 323 = .ok (.goto 4, 3) := by decide +kernel
theorem dX8_coin_326 : decode cX8_coin 326 = .ok (.iconst 0, 1) := by decide +kernel
theorem dX8_coin_327 : decode cX8_coin 327 = .ok (.ireturn, 1) := by decide +kernel
set_option maxRecDepth 20000 in
theorem ggX8_share_X8_in : GoodIn wsX8_share wsX8_in := goodIn_r _ [13] (by decide +kernel) (by decide +kernel)
set_option maxRecDepth 20000 in
theorem gX8_share_X8_in : GoodIn wsX8_share (va_wsS RX8 122 yX8_in wsX8_in) := goodIn_app (goodIn_of _ (by decide +kernel)) ggX8_share_X8_in
set_option maxRecDepth 20000 in
theorem ggX8_share_X8_shareOf : GoodIn wsX8_share wsX8_shareOf := goodIn_r _ [17, 18, 19, 20, 45, 46, 47, 48, 49, 50, 51, 52, 53, 54, 55, 56, 57, 58, 59, 60, 61, 62, 63, 64, 65, 66, 67, 68, 69, 70, 71, 72, 73, 74, 75, 76, 77, 78, 79, 80, 81, 82, 83, 84, 85, 86, 87, 88] (by decide +kernel) (by decide +kernel)
set_option maxRecDepth 20000 in
theorem gX8_share_X8_shareOf : GoodIn wsX8_share (wsV RX8 215 RX8 yX8_shareOf wsX8_shareOf) := goodIn_app (goodIn_of _ (by decide +kernel)) ggX8_share_X8_shareOf
set_option maxRecDepth 20000 in
theorem ggX8_share_X8_power : GoodIn wsX8_share wsX8_power := goodIn_r _ [24, 25, 26, 27, 12, 28, 29, 45, 46, 47, 48, 49, 50, 51, 52, 53, 54, 55, 56, 57, 58, 59, 60, 61, 62, 63, 64, 65, 66, 67, 68, 69, 70, 71, 72, 73, 74, 75, 76, 77, 78, 79, 80, 81, 82, 83, 84, 85, 86, 87, 88] (by decide +kernel) (by decide +kernel)
set_option maxRecDepth 20000 in
theorem gX8_share_X8_power : GoodIn wsX8_share (wsV RX8 126 RX8 yX8_power wsX8_power) := goodIn_app (goodIn_of _ (by decide +kernel)) ggX8_share_X8_power
set_option maxRecDepth 20000 in
theorem ggX8_share_X8_on : GoodIn wsX8_share wsX8_on := goodIn_r _ [32, 33] (by decide +kernel) (by decide +kernel)
set_option maxRecDepth 20000 in
theorem gX8_share_X8_on : GoodIn wsX8_share (va_wsS RX8 131 yX8_on wsX8_on) := goodIn_app (goodIn_of _ (by decide +kernel)) ggX8_share_X8_on
set_option maxRecDepth 20000 in
theorem ggX8_share_X8_enter : GoodIn wsX8_share wsX8_enter := goodIn_r _ [37, 38, 39, 40, 41, 42, 43, 44, 30, 31, 12, 32, 33, 45, 46, 47, 48, 49, 50, 51, 52, 53, 54, 55, 56, 57, 58, 59, 60, 61, 62, 63, 64, 65, 66, 67, 68, 69, 70, 71, 72, 73, 74, 75, 76, 77, 78, 79, 80, 81, 82, 83, 84, 85, 86, 87, 88] (by decide +kernel) (by decide +kernel)
set_option maxRecDepth 20000 in
theorem gX8_share_X8_enter : GoodIn wsX8_share (wsV RX8 149 RX8 yX8_enter wsX8_enter) := goodIn_app (goodIn_of _ (by decide +kernel)) ggX8_share_X8_enter
theorem dX8_share_0 : decode cX8_share 0 = .ok (.aload_n 0, 1) := by decide +kernel
theorem dX8_share_1 : decode cX8_share 1 = .ok (.getfield 140, 3) := by decide +kernel
theorem dX8_share_4 : decode cX8_share 4 = .ok (.iconst 2, 1) := by decide +kernel
theorem dX8_share_5 : decode cX8_share 5 = .ok (.if_icmp .ne 38, 3) := by decide +kernel
theorem dX8_share_8 : decode cX8_share 8 = .ok (.iload_n 1, 1) := by decide +kernel
theorem dX8_share_9 : decode cX8_share 9 = .ok (.iconst 1, 1) := by decide +kernel
theorem dX8_share_10 : decode cX8_share 10 = .ok (.aload_n 0, 1) := by decide +kernel
theorem dX8_share_11 : decode cX8_share 11 = .ok (.getfield 109, 3) := by decide +kernel
theorem dX8_share_14 : decode cX8_share 14 = .ok (.invokestatic 122, 3) := by decide +kernel
theorem dX8_share_17 : decode cX8_share 17 = .ok (.ifCond .eq 26, 3) := by decide +kernel
theorem dX8_share_20 : decode cX8_share 20 = .ok (.aload_n 0, 1) := by decide +kernel
theorem dX8_share_21 : decode cX8_share 21 = .ok (.getfield 65, 3) := by decide +kernel
theorem dX8_share_24 : decode cX8_share 24 = .ok (.iload_n 1, 1) := by decide +kernel
theorem dX8_share_25 : decode cX8_share 25 = .ok (.baload, 1) := by decide +kernel
theorem dX8_share_26 : decode cX8_share 26 = .ok (.ifCond .ne 17, 3) := by decide +kernel
theorem dX8_share_29 : decode cX8_share 29 = .ok (.aload_n 0, 1) := by decide +kernel
theorem dX8_share_30 : decode cX8_share 30 = .ok (.getfield 191, 3) := by decide +kernel
theorem dX8_share_33 : decode cX8_share 33 = .ok (.ifCond .eq 10, 3) := by decide +kernel
theorem dX8_share_36 : decode cX8_share 36 = .ok (.aload_n 0, 1) := by decide +kernel
theorem dX8_share_37 : decode cX8_share 37 = .ok (.getfield 181, 3) := by decide +kernel
theorem dX8_share_40 : decode cX8_share 40 = .ok (.ifCond .eq 5, 3) := by decide +kernel
theorem dX8_share_43 : decode cX8_share 43 = .ok (.iconst (-1), 1) := by decide +kernel
theorem dX8_share_44 : decode cX8_share 44 = .ok (.ireturn, 1) := by decide +kernel
theorem dX8_share_45 : decode cX8_share 45 = .ok (.aload_n 0, 1) := by decide +kernel
theorem dX8_share_46 : decode cX8_share 46 = .ok (.iload_n 1, 1) := by decide +kernel
theorem dX8_share_47 : decode cX8_share 47 = .ok (.invokevirtual 215, 3) := by decide +kernel
theorem dX8_share_50 : decode cX8_share 50 = .ok (.istore_n 2, 1) := by decide +kernel
theorem dX8_share_51 : decode cX8_share 51 = .ok (.lconst 0, 1) := by decide +kernel
theorem dX8_share_52 : decode cX8_share 52 = .ok (.lstore_n 3, 1) := by decide +kernel
theorem dX8_share_53 : decode cX8_share 53 = .ok (.iconst 0, 1) := by decide +kernel
theorem dX8_share_54 : decode cX8_share 54 = .ok (.istore 5, 2) := by decide +kernel
theorem dX8_share_56 : decode cX8_share 56 = .ok (.iload 5, 2) := by decide +kernel
theorem dX8_share_58 : decode cX8_share 58 = .ok (.aload_n 0, 1) := by decide +kernel
theorem dX8_share_59 : decode cX8_share 59 = .ok (.getfield 170, 3) := by decide +kernel
theorem dX8_share_62 : decode cX8_share 62 = .ok (.if_icmp .ge 59, 3) := by decide +kernel
theorem dX8_share_65 : decode cX8_share 65 = .ok (.aload_n 0, 1) := by decide +kernel
theorem dX8_share_66 : decode cX8_share 66 = .ok (.getfield 68, 3) := by decide +kernel
theorem dX8_share_69 : decode cX8_share 69 = .ok (.bipush 40, 2) := by decide +kernel
theorem dX8_share_71 : decode cX8_share 71 = .ok (.iload_n 1, 1) := by decide +kernel
theorem dX8_share_72 : decode cX8_share 72 = .ok (.imul, 1) := by decide +kernel
theorem dX8_share_73 : decode cX8_share 73 = .ok (.iload 5, 2) := by decide +kernel
theorem dX8_share_75 : decode cX8_share 75 = .ok (.iadd, 1) := by decide +kernel
theorem dX8_share_76 : decode cX8_share 76 = .ok (.aload_n 0, 1) := by decide +kernel
theorem dX8_share_77 : decode cX8_share 77 = .ok (.aload_n 0, 1) := by decide +kernel
theorem dX8_share_78 : decode cX8_share 78 = .ok (.getfield 23, 3) := by decide +kernel
theorem dX8_share_81 : decode cX8_share 81 = .ok (.bipush 40, 2) := by decide +kernel
theorem dX8_share_83 : decode cX8_share 83 = .ok (.aload_n 0, 1) := by decide +kernel
theorem dX8_share_84 : decode cX8_share 84 = .ok (.getfield 191, 3) := by decide +kernel
theorem dX8_share_87 : decode cX8_share 87 = .ok (.imul, 1) := by decide +kernel
theorem dX8_share_88 : decode cX8_share 88 = .ok (.iload 5, 2) := by decide +kernel
theorem dX8_share_90 : decode cX8_share 90 = .ok (.iadd, 1) := by decide +kernel
theorem dX8_share_91 : decode cX8_share 91 = .ok (.iaload, 1) := by decide +kernel
theorem dX8_share_92 : decode cX8_share 92 = .ok (.iload_n 2, 1) := by decide +kernel
theorem dX8_share_93 : decode cX8_share 93 = .ok (.invokevirtual 126, 3) := by decide +kernel
theorem dX8_share_96 : decode cX8_share 96 = .ok (.iastore, 1) := by decide +kernel
theorem dX8_share_97 : decode cX8_share 97 = .ok (.lload_n 3, 1) := by decide +kernel
theorem dX8_share_98 : decode cX8_share 98 = .ok (.aload_n 0, 1) := by decide +kernel
theorem dX8_share_99 : decode cX8_share 99 = .ok (.getfield 68, 3) := by decide +kernel
theorem dX8_share_102 : decode cX8_share 102 = .ok (.bipush 40, 2) := by decide +kernel
theorem dX8_share_104 : decode cX8_share 104 = .ok (.iload_n 1, 1) := by decide +kernel
theorem dX8_share_105 : decode cX8_share 105 = .ok (.imul, 1) := by decide +kernel
theorem dX8_share_106 : decode cX8_share 106 = .ok (.iload 5, 2) := by decide +kernel
theorem dX8_share_108 : decode cX8_share 108 = .ok (.iadd, 1) := by decide +kernel
theorem dX8_share_109 : decode cX8_share 109 = .ok (.iaload, 1) := by decide +kernel
theorem dX8_share_110 : decode cX8_share 110 = .ok (.i2l, 1) := by decide +kernel
theorem dX8_share_111 : decode cX8_share 111 = .ok (.invokestatic 131, 3) := by decide +kernel
theorem dX8_share_114 : decode cX8_share 114 = .ok (.lstore_n 3, 1) := by decide +kernel
theorem dX8_share_115 : decode cX8_share 115 = .ok (.iinc 5 1, 3) := by decide +kernel
theorem dX8_share_118 : decode cX8_share 118 = .ok (.goto (-62), 3) := by decide +kernel
theorem dX8_share_121 : decode cX8_share 121 = .ok (.aload_n 0, 1) := by decide +kernel
theorem dX8_share_122 : decode cX8_share 122 = .ok (.getfield 65, 3) := by decide +kernel
theorem dX8_share_125 : decode cX8_share 125 = .ok (.iload_n 1, 1) := by decide +kernel
theorem dX8_share_126 : decode cX8_share 126 = .ok (.iconst 1, 1) := by decide +kernel
theorem dX8_share_127 : decode cX8_share 127 = .ok (.bastore, 1) := by decide +kernel
theorem dX8_share_128 : decode cX8_share 128 = .ok (.aload_n 0, 1) := by decide +kernel
theorem dX8_share_129 : decode cX8_share 129 = .ok (.dup, 1) := by decide +kernel
theorem dX8_share_130 : decode cX8_share 130 = .ok (.getfield 185, 3) := by decide +kernel
theorem dX8_share_133 : decode cX8_share 133 = .ok (.iconst 1, 1) := by decide +kernel
theorem dX8_share_134 : decode cX8_share 134 = .ok (.iadd, 1) := by decide +kernel
theorem dX8_share_135 : decode cX8_share 135 = .ok (.putfield 185, 3) := by decide +kernel
theorem dX8_share_138 : decode cX8_share 138 = .ok (.aload_n 0, 1) := by decide +kernel
theorem dX8_share_139 : decode cX8_share 139 = .ok (.bipush 7, 2) := by decide +kernel
theorem dX8_share_141 : decode cX8_share 141 = .ok (.iload_n 1, 1) := by decide +kernel
theorem dX8_share_142 : decode cX8_share 142 = .ok (.i2l, 1) := by decide +kernel
theorem dX8_share_143 : decode cX8_share 143 = .ok (.lconst 0, 1) := by decide +kernel
theorem dX8_share_144 : decode cX8_share 144 = .ok (.lload_n 3, 1) := by decide +kernel
theorem dX8_share_145 : decode cX8_share 145 = .ok (.invokevirtual 149, 3) := by decide +kernel
theorem dX8_share_148 : decode cX8_share 148 = .ok (.lstore 5, 2) := by decide +kernel
theorem dX8_share_150 : decode cX8_share 150 = .ok (.aload_n 0, 1) := by decide +kernel
theorem dX8_share_151 : decode cX8_share 151 = .ok (.getfield 185, 3) := by decide +kernel
theorem dX8_share_154 : decode cX8_share 154 = .ok (.ireturn, 1) := by decide +kernel
theorem in_01 {v : Int32} (h : 0 ≤ v ∧ v ≤ 1) : v = 0 ∨ v = 1 := by
  obtain ⟨k, hk, e⟩ := nI_of (x := v) (Int32.not_lt.mpr h.1)
  have h2 := h.2
  rw [e, show (1 : Int32) = nI 1 from rfl, nI_leI hk (by omega)] at h2
  rcases (show k = 0 ∨ k = 1 by omega) with q | q
  · left; rw [e, q]; rfl
  · right; rw [e, q]; rfl
theorem mn_cases {q a b : Int32} {q0 : Nat} (hq : q = nI q0) (hq9 : q0 < 1000000) (ha : nn a ∧ a.toNatClampNeg < q0) (hb : nn b ∧ b.toNatClampNeg < q0) : ∃ c : Nat, c < q0 ∧ mn q a b = nI c ∧ (a - b + q) - (a - b + q) / q * q = nI c := by
  have ha1 : a = nI a.toNatClampNeg := ha.1
  have hb1 : b = nI b.toNatClampNeg := hb.1
  have ha2 := ha.2
  have hb2 := hb.2
  clear ha hb
  generalize a.toNatClampNeg = x at ha1 ha2
  generalize b.toNatClampNeg = y at hb1 hb2
  subst ha1; subst hb1; subst hq
  have e1 : nI x - nI y + nI q0 = nI (x + q0 - y) := by
    rw [← pk_sub (a := x + q0) (b := y) (by omega), ← nI_add, Int32.sub_eq_add_neg, Int32.sub_eq_add_neg, Int32.add_assoc, Int32.add_assoc, Int32.add_comm (-nI y)]
  rw [e1, pk_rem (by omega) (by omega) (by omega), mn]
  by_cases h : x < y
  · rw [if_pos ((nI_ltI (by omega) (by omega)).mpr h), e1]
    exact ⟨x + q0 - y, by omega, rfl, by rw [Nat.mod_eq_of_lt (by omega)]⟩
  · rw [if_neg (fun q => h ((nI_ltI (by omega) (by omega)).mp q)), pk_sub (by omega)]
    refine ⟨x - y, by omega, rfl, ?_⟩
    rw [show x + q0 - y = (x - y) + q0 by omega, Nat.add_mod_right, Nat.mod_eq_of_lt (by omega)]
theorem mn8 {q a b : Int32} {q0 : Nat} (hq : q = nI q0) (hq9 : q0 < 1000000) (ha : nn a ∧ a.toNatClampNeg < q0) (hb : nn b ∧ b.toNatClampNeg < q0) : (a - b + q) - (a - b + q) / q * q = mn q a b := by
  obtain ⟨c, _, h2, h3⟩ := mn_cases hq hq9 ha hb
  rw [h2, h3]
theorem mn_nn {q a b : Int32} {q0 : Nat} (hq : q = nI q0) (hq9 : q0 < 1000000) (ha : nn a ∧ a.toNatClampNeg < q0) (hb : nn b ∧ b.toNatClampNeg < q0) : nn (mn q a b) := by
  obtain ⟨c, h1, h2, _⟩ := mn_cases hq hq9 ha hb
  rw [h2]
  exact nn_nI (by omega)
/-- COIN 1 at the k-th move -/
abbrev ld1 (P h q : Int32) (vt ve ut ue sha shb sa sb : Nat → Int32) (k : Nat) : Prop := tm P (sha (nt vt k)) (pw P 32 (mn q (ue k) (ve k)).toNatClampNeg 1 4) = sa (nt ut k) ∧ tm P (shb (nt vt k)) (pw P 32 (mn q (ue k) (ve k)).toNatClampNeg 1 h) = sb (nt ut k)
theorem l1_next {P h q : Int32} {vt ve ut ue sha shb sa sb : Nat → Int32} {k : Nat} (h3 : ∀ i : Nat, i < k → ld1 P h q vt ve ut ue sha shb sa sb i) (c1 : tm P (sha (nt vt k)) (pw P 32 (mn q (ue k) (ve k)).toNatClampNeg 1 4) = sa (nt ut k)) (c2 : tm P (shb (nt vt k)) (pw P 32 (mn q (ue k) (ve k)).toNatClampNeg 1 h) = sb (nt ut k)) : ∀ i : Nat, i < k + 1 → ld1 P h q vt ve ut ue sha shb sa sb i := by
  intro i hi
  by_cases e : i = k
  · rw [e]; exact ⟨c1, c2⟩
  · exact h3 i (by omega)
theorem c1_iff {P h q : Int32} {vt ve ut ue wt we sha shb sa sb : Nat → Int32} {n : Nat} (hw : whl vt n) (hr : ∀ i : Nat, i < n → nn (vt i) ∧ nt vt i < n) : (∀ i : Nat, i < n → ld1 P h q vt ve ut ue sha shb sa sb i) ↔ (∀ i : Nat, i < n → ldc P h (scat (nt vt) ut wt n) (scat (nt vt) (fun i => mn q (ue i) (ve i)) we n) sha shb sa sb i) := by
  have hj := whl_inj hw hr
  have key : ∀ k : Nat, k < n → (ldc P h (scat (nt vt) ut wt n) (scat (nt vt) (fun i => mn q (ue i) (ve i)) we n) sha shb sa sb (nt vt k) ↔ ld1 P h q vt ve ut ue sha shb sa sb k) := by
    intro k hk
    have e1 : scat (nt vt) ut wt n (nt vt k) = ut k := scat_in hj k hk
    have e2 : scat (nt vt) (fun i => mn q (ue i) (ve i)) we n (nt vt k) = mn q (ue k) (ve k) := scat_in hj k hk
    show (tm P (sha (nt vt k)) (pw P 32 (scat (nt vt) (fun i => mn q (ue i) (ve i)) we n (nt vt k)).toNatClampNeg 1 4) = sa (scat (nt vt) ut wt n (nt vt k)).toNatClampNeg ∧ tm P (shb (nt vt k)) (pw P 32 (scat (nt vt) (fun i => mn q (ue i) (ve i)) we n (nt vt k)).toNatClampNeg 1 h) = sb (scat (nt vt) ut wt n (nt vt k)).toNatClampNeg) ↔ _
    rw [e1, e2]
  constructor
  · intro a i hi
    obtain ⟨k, hk, e⟩ := whl_sur hw hr i hi
    rw [← e]
    exact (key k hk).mpr (a k hk)
  · intro a k hk
    exact (key k hk).mp (a _ (hr k hk).2)
theorem c1_at {mm x : Int32} {mx0 b0 : Nat} {g w : Nat → Int32} (hm : mm = nI mx0) (h5 : mx0 ≤ 4) (hx : nn x ∧ x.toNatClampNeg < b0) (hb : b0 ≤ 40) (h : ∀ i : Nat, i < b0 → g (40 * mx0 + i) = w i) : g (40 * mm + x).toNatClampNeg = w x.toNatClampNeg := by
  have h4 : x.toNatClampNeg < 40 := by omega
  rw [an_at (g := g) hm hx.1 h5 h4, h _ hx.2]
theorem c1_in {mm x : Int32} {mx0 b0 : Nat} (hm : mm = nI mx0) (h5 : mx0 ≤ 4) (hx : nn x ∧ x.toNatClampNeg < b0) (hb : b0 ≤ 40) : vp_in (40 * mm + x) 200 := by
  rw [an_ix hm hx.1]
  have := hx.2
  exact vp_in_nI (by omega) (by omega)
theorem so8_n {q v j x : Int32} {q0 a j0 : Nat} (hq : q = nI q0) (hq1 : 5 ≤ q0 ∧ q0 < 1000000) (ha : v = nI a) (ha1 : a < q0) (hj : j = nI j0) (hj5 : j0 ≤ 5) (hx : nn x ∧ x.toNatClampNeg < q0) : ∃ c : Nat, pl q (tm q v j) x = nI c ∧ c < q0 := by
  have l1 : a * j0 % q0 < q0 := Nat.mod_lt _ (by omega)
  have h2 := hx.2
  refine ⟨(a * j0 % q0 + x.toNatClampNeg) % q0, ?_, Nat.mod_lt _ (by omega)⟩
  rw [tm_nI hq ha hj (by omega) hq1.2 (by omega) (by omega), pl]
  conv => lhs; rw [hx.1]
  rw [hq, nI_add, pk_rem (by omega) (by omega) (by omega)]
theorem so8 {q v j x : Int32} {q0 a j0 : Nat} (hq : q = nI q0) (hq1 : 5 ≤ q0 ∧ q0 < 1000000) (ha : v = nI a) (ha1 : a < q0) (hj : j = nI j0) (hj5 : j0 ≤ 5) (hx : nn x ∧ x.toNatClampNeg < q0) : v.toInt64 * j.toInt64 + x.toInt64 - (v.toInt64 * j.toInt64 + x.toInt64) / q.toInt64 * q.toInt64 = (pl q (tm q v j) x).toInt64 := by
  have l1 : a * j0 % q0 < q0 := Nat.mod_lt _ (by omega)
  have l2 : a * j0 ≤ a * 5 := Nat.mul_le_mul_left _ hj5
  have h2 := hx.2
  have e : pl q (tm q v j) x = nI ((a * j0 + x.toNatClampNeg) % q0) := by
    rw [tm_nI hq ha hj (by omega) hq1.2 (by omega) (by omega), pl]
    conv => lhs; rw [hx.1]
    rw [hq, nI_add, pk_rem (by omega) (by omega) (by omega), Nat.mod_add_mod]
  have l3 : (a * j0 + x.toNatClampNeg) % q0 < q0 := Nat.mod_lt _ (by omega)
  rw [e, nI_l (by omega)]
  conv => lhs; rw [hx.1]
  rw [ha, hj, hq, nI_l (by omega), nI_l (by omega), nI_l (by omega), nI_l (by omega), lN_mul, lN_add, pk_lRem (by omega) (by omega) (by omega)]
theorem so8_end {q j z v x : Int32} {cf : Nat → Int32} {k a : Nat} (hz : z = nI k - 1) (hk : k < 100) (c : z < 0) (ha : v = nI a) (ha1 : a < 1000000) (hv : shr q j cf k v = x) : v.toInt64.toInt32 = x := by
  rw [← so_end hz hk c hv, ha, nI_l (by omega), lN_i]
theorem sr_src {mm z : Int32} {mx0 k : Nat} {g : Nat → Int32} (hm : mm = nI mx0) (h5 : mx0 ≤ 4) (hz : z = nI k) (hk : k < 40) : g (40 * mm + z).toNatClampNeg = g (40 * mx0 + k) := an_at hm hz h5 hk
theorem sr_ix {j z : Int32} {j0 k : Nat} (hj : j = nI j0) (hj5 : j0 ≤ 5) (hz : z = nI k) (hk : k < 40) : (40 * j + z).toNatClampNeg = 40 * j0 + k := by
  rw [an_ix hj hz, nI_clamp (by omega)]
theorem sr_at {j z : Int32} {j0 k : Nat} {v w : Nat → Int32} (hj : j = nI j0) (hj5 : j0 ≤ 5) (hz : z = nI k) (hk : k < 40) : scat (fun i => 40 * j0 + i) v w (k + 1) (40 * j + z).toNatClampNeg = v k := by
  rw [sr_ix hj hj5 hz hk]
  show upd (scat (fun i => 40 * j0 + i) v w k) (40 * j0 + k) (v k) (40 * j0 + k) = v k
  rw [pk_us]
set_option maxHeartbeats 4000000 in
set_option maxRecDepth 100000 in
theorem c_X8_coin_no (l : Launch) (D : va_G) (cA : Nat → ClassId) (h0 : Nat) (m0 : Int32) (m1 : Int32) (m2 : Int32) (m3 : Int32) (m4 : Int32) (m5 : Nat) (m6 : Int32) (m7 : Int32) (m8 : Int32) (m9 : Nat) (m10 : Nat) (m11 : Nat) (m12 : Int32) (m13 : Nat) (m14 : Nat) (m15 : Nat) (m16 : Nat) (m17 : Int32) (m18 : Nat) (m19 : Nat) (m20 : Nat) (m21 : Nat) (m22 : Nat) (m23 : Nat) (m24 : Nat) (m25 : Nat) (m26 : Int32) (m27 : Int32) (m28 : Int32) (m29 : Int32) (m30 : Int32) (m31 : Int32) (m32 : Nat) (m33 : Nat) (m34 : Nat) (m35 : Nat) (m36 : Int32) (m37 : Nat) (m38 : Int32) (m39 : Nat) (m40 : Nat) (m41 : Nat) (m42 : Nat) (m43 : Nat) (v : Int32) (hno : ¬ (¬ m28 = 0 ∧ (v = 0 ∨ v = 1))) : Met l yX8_coin wsX8_coin ({ frames := 1, cells := 0, slots := 0, locals := 22 }) (rPc vwCl D cA [(h0, .inr (7, [.int m0, .int m1, .int m2, .int m3, .int m4, .ref m5, .int m6, .int m7, .int m8, .ref m9, .ref m10, .ref m11, .int m12, .ref m13, .ref m14, .ref m15, .ref m16, .int m17, .ref m18, .ref m19, .ref m20, .ref m21, .ref m22, .ref m23, .ref m24, .ref m25, .int m26, .int m27, .int m28, .int m29, .int m30, .int m31, .ref m32, .ref m33, .ref m34, .ref m35, .int m36, .ref m37, .int m38, .ref m39, .ref m40, .ref m41, .ref m42, .ref m43]))] [.ref h0, .int v]) (rq_x (some (.int (-1)))) 0 0 (fun _ => False) := by
  refine Met.ofW (cc := cX8_coin) (maxL := 7) (ret := (some .int)) (by decide) rfl ?_
  intro p e s m args below meth c s₁ B hml hv
  obtain ⟨rfl, hP, hK⟩ := hv
  have hx := B.exec
  have hb := B.bytes
  have hr := B.returns
  have hts := atoms_spec (ws := wsX8_coin) B.pre
  have hown : s.vm.findClass RX8 = some m.cls := findClass_of_methodNamed B.named
  have hlocks := B.notSynchronized
  have hin_X8 : ∀ w ∈ wsX80, w ∈ wsX8_coin := fun w h => List.mem_cons_of_mem _ (List.mem_append_right _ h)
  have w_RX8_181 := hts (.fieldLink RX8 181 "MixElectionModel" "isDue" "Z") (by decide +kernel)
  have hl := lv_entry ([.ref h0, .int v]) (n := 7) (Nat.le_of_ble_eq_true rfl)
  rw [lg_entry_eq]
  generalize (lg_sl ([.ref h0, .int v]) ++ List.replicate (7 - (lg_sl ([.ref h0, .int v])).length) Slot.unset).toArray = ls at hl ⊢
  have hl : lv_has ls 7 [(0, .ref h0), (1, .int v)] := hl
  refine lv_aload_n hx hb dX8_coin_0 rfl (lv_at hl 0 rfl) ?_
  refine va_get (D := D) (ci := 7) (v := .int m28) (C := RX8) (T := TX8) (N := 44) hx hb hts hin_X8 hown hK hP 0 rfl rfl 28 (by decide) (w_RX8_181) (fun _ h9 => h9) rfl dX8_coin_1 ?_
  refine lv_if_eq (tgt := 16) hx hb dX8_coin_4 (by decide) (fun c_4 => ?_) (fun c_4 => ?_)
  · skip
    refine lv_iconst (v := (-1)) hx hb dX8_coin_16 (by decide) ?_
    exact W.iret (v := (-1)) hx hb hr (fun t ht hW => ⟨congrArg (fun z => Outcome.returned (some (Value.int z))) (rfl), ht⟩) (fun _ h => by cases h) dX8_coin_17
  · skip
    refine lv_iload_n hx hb dX8_coin_7 rfl (lv_at hl 1 rfl) ?_
    refine lv_iconst (v := 0) hx hb dX8_coin_8 (by decide) ?_
    refine lv_iconst (v := 1) hx hb dX8_coin_9 (by decide) ?_
    refine rq_call1 (v := .int (bI (0 ≤ v ∧ v ≤ 1))) (rn_S (As := [.int v, .int 0, .int 1]) (rest := []) ⟨hx, hb, hml, hown, hts⟩ (c_X8_in l D cA v 0 1) (va_cwS 3 hts gX8_coin_X8_in rfl rfl rfl (by decide +kernel) ⟨Nat.le_of_ble_eq_true rfl, Nat.le_of_ble_eq_true rfl⟩) hK hP [] rfl rfl hl.1 rfl (Nat.le_of_ble_eq_true rfl) dX8_coin_10 ⟨Nat.le_of_ble_eq_true rfl, Nat.le_of_ble_eq_true rfl⟩) ?_
    refine lv_if_ne (tgt := 18) hx hb dX8_coin_13 (by decide) (fun c_13 => ?_) (fun c_13 => ?_)
    · skip
      exact absurd ⟨c_4, in_01 (bI_1 c_13)⟩ hno
    · skip
      refine lv_iconst (v := (-1)) hx hb dX8_coin_16 (by decide) ?_
      exact W.iret (v := (-1)) hx hb hr (fun t ht hW => ⟨congrArg (fun z => Outcome.returned (some (Value.int z))) (rfl), ht⟩) (fun _ h => by cases h) dX8_coin_17

set_option maxHeartbeats 4000000 in
set_option maxRecDepth 100000 in
theorem c_X8_coin_0 (l : Launch) (D : va_G) (cA : Nat → ClassId) (h0 : Nat) (m0 : Int32) (m1 : Int32) (m2 : Int32) (m3 : Int32) (m4 : Int32) (m5 : Nat) (m6 : Int32) (m7 : Int32) (m8 : Int32) (m9 : Nat) (m10 : Nat) (m11 : Nat) (m12 : Int32) (m13 : Nat) (m14 : Nat) (m15 : Nat) (m16 : Nat) (m17 : Int32) (m18 : Nat) (m19 : Nat) (m20 : Nat) (m21 : Nat) (m22 : Nat) (m23 : Nat) (m24 : Nat) (m25 : Nat) (m26 : Int32) (m27 : Int32) (m28 : Int32) (m29 : Int32) (m30 : Int32) (m31 : Int32) (m32 : Nat) (m33 : Nat) (m34 : Nat) (m35 : Nat) (m36 : Int32) (m37 : Nat) (m38 : Int32) (m39 : Nat) (m40 : Nat) (m41 : Nat) (m42 : Nat) (m43 : Nat) (b0 : Nat) (mx0 : Nat) (p0 : Nat) (n0 : Nat) (v : Int32) (stf : Nat → Int32) (syf : Nat → Int32) (saf : Nat → Int32) (sbf : Nat → Int32) (laf : Nat → Int32) (lbf : Nat → Int32) (wtf : Nat → Int32) (wyf : Nat → Int32) (vt : Nat → Int32) (ve : Nat → Int32) (sha : Nat → Int32) (shb : Nat → Int32) (sa : Nat → Int32) (sb : Nat → Int32) (kf : Nat → Int32) (xf : Nat → Int32) (yf : Nat → Int32) (zf : Nat → Int64) (cf : Nat → Int64) (hd : ¬ m28 = 0) (hv : v = 0) (hmx : m26 = nI (mx0 + 1)) (hmx4 : mx0 < 4) (hnb : m12 = nI b0) (hb4 : b0 ≤ 40) (hmv : ∀ i : Nat, i < b0 → nn (vt i) ∧ nt vt i < b0 ∧ nn (ve i)) (hst : ∀ i : Nat, i < b0 → stf i = vt i ∧ syf i = ve i) (hsh : ∀ i : Nat, i < b0 → saf i = sha i ∧ sbf i = shb i) (hsa : ∀ i : Nat, i < b0 → laf (40 * mx0 + i) = sa i ∧ lbf (40 * mx0 + i) = sb i) (hgp : m0 = nI p0) (hp1 : 2 ≤ p0 ∧ p0 < 1000000) (hbn : m38 = nI n0) (h6 : n0 < 600) : Met l yX8_coin wsX8_coin ({ frames := 3, cells := 0, slots := 0, locals := 70 }) (wPc vwCl D cA [(h0, .inr (7, [.int m0, .int m1, .int m2, .int m3, .int m4, .ref m5, .int m6, .int m7, .int m8, .ref m9, .ref m10, .ref m11, .int m12, .ref m13, .ref m14, .ref m15, .ref m16, .int m17, .ref m18, .ref m19, .ref m20, .ref m21, .ref m22, .ref m23, .ref m24, .ref m25, .int m26, .int m27, .int m28, .int m29, .int m30, .int m31, .ref m32, .ref m33, .ref m34, .ref m35, .int m36, .ref m37, .int m38, .ref m39, .ref m40, .ref m41, .ref m42, .ref m43])), (m24, .inl (cA 0, 40, .inl stf)), (m25, .inl (cA 0, 40, .inl syf)), (m15, .inl (cA 0, 40, .inl saf)), (m16, .inl (cA 0, 40, .inl sbf)), (m13, .inl (cA 0, 200, .inl laf)), (m14, .inl (cA 0, 200, .inl lbf)), (m32, .inl (cA 0, 40, .inl wtf)), (m33, .inl (cA 0, 40, .inl wyf)), (m39, .inl (cA 0, 600, .inl kf)), (m40, .inl (cA 2, 600, .inr (.inl (fun i => (xf i).toInt64)))), (m41, .inl (cA 2, 600, .inr (.inl (fun i => (yf i).toInt64)))), (m42, .inl (cA 2, 600, .inr (.inl zf))), (m43, .inl (cA 2, 600, .inr (.inl cf)))] [.ref h0, .int v]) (wq_x vwCl D [(h0, .inr (7, [.int m0, .int m1, .int m2, .int m3, .int m4, .ref m5, .int m6, .int m7, .int m8, .ref m9, .ref m10, .ref m11, .int m12, .ref m13, .ref m14, .ref m15, .ref m16, .int m17, .ref m18, .ref m19, .ref m20, .ref m21, .ref m22, .ref m23, .ref m24, .ref m25, .int m26, .int m27, .int 0, .int (m29 + (1 - bI (∀ i : Nat, i < b0 → ldc m0 m7 vt ve sa sb sha shb i))), .int m30, .int 1, .ref m32, .ref m33, .ref m34, .ref m35, .int m36, .ref m37, .int (m38 + 1), .ref m39, .ref m40, .ref m41, .ref m42, .ref m43])), (m24, .inl (cA 0, 40, .inl stf)), (m25, .inl (cA 0, 40, .inl syf)), (m15, .inl (cA 0, 40, .inl saf)), (m16, .inl (cA 0, 40, .inl sbf)), (m13, .inl (cA 0, 200, .inl laf)), (m14, .inl (cA 0, 200, .inl lbf)), (m32, .inl (cA 0, 40, .inl (scat (fun i => i) vt wtf b0))), (m33, .inl (cA 0, 40, .inl (scat (fun i => i) ve wyf b0))), (m39, .inl (cA 0, 600, .inl (upd kf m38.toNatClampNeg 6))), (m40, .inl (cA 2, 600, .inr (.inl (fun i => ((upd xf m38.toNatClampNeg m27) i).toInt64)))), (m41, .inl (cA 2, 600, .inr (.inl (fun i => ((upd yf m38.toNatClampNeg v) i).toInt64)))), (m42, .inl (cA 2, 600, .inr (.inl (vp_updL zf m38.toNatClampNeg ((bI (∀ i : Nat, i < b0 → ldc m0 m7 vt ve sa sb sha shb i)).toInt64))))), (m43, .inl (cA 2, 600, .inr (.inl (vp_updL cf m38.toNatClampNeg (dg (dg (dg (dg (cho cf m38 (m38 - 1)) ((6 : Int32).toInt64)) (m27.toInt64)) (v.toInt64)) ((bI (∀ i : Nat, i < b0 → ldc m0 m7 vt ve sa sb sha shb i)).toInt64))))))] (some (.int (bI (∀ i : Nat, i < b0 → ldc m0 m7 vt ve sa sb sha shb i)))) (wA [(h0, .inr (7, [.int m0, .int m1, .int m2, .int m3, .int m4, .ref m5, .int m6, .int m7, .int m8, .ref m9, .ref m10, .ref m11, .int m12, .ref m13, .ref m14, .ref m15, .ref m16, .int m17, .ref m18, .ref m19, .ref m20, .ref m21, .ref m22, .ref m23, .ref m24, .ref m25, .int m26, .int m27, .int m28, .int m29, .int m30, .int m31, .ref m32, .ref m33, .ref m34, .ref m35, .int m36, .ref m37, .int m38, .ref m39, .ref m40, .ref m41, .ref m42, .ref m43])), (m24, .inl (cA 0, 40, .inl stf)), (m25, .inl (cA 0, 40, .inl syf)), (m15, .inl (cA 0, 40, .inl saf)), (m16, .inl (cA 0, 40, .inl sbf)), (m13, .inl (cA 0, 200, .inl laf)), (m14, .inl (cA 0, 200, .inl lbf)), (m32, .inl (cA 0, 40, .inl wtf)), (m33, .inl (cA 0, 40, .inl wyf)), (m39, .inl (cA 0, 600, .inl kf)), (m40, .inl (cA 2, 600, .inr (.inl (fun i => (xf i).toInt64)))), (m41, .inl (cA 2, 600, .inr (.inl (fun i => (yf i).toInt64)))), (m42, .inl (cA 2, 600, .inr (.inl zf))), (m43, .inl (cA 2, 600, .inr (.inl cf)))])) 0 0 (wA [(h0, .inr (7, [.int m0, .int m1, .int m2, .int m3, .int m4, .ref m5, .int m6, .int m7, .int m8, .ref m9, .ref m10, .ref m11, .int m12, .ref m13, .ref m14, .ref m15, .ref m16, .int m17, .ref m18, .ref m19, .ref m20, .ref m21, .ref m22, .ref m23, .ref m24, .ref m25, .int m26, .int m27, .int m28, .int m29, .int m30, .int m31, .ref m32, .ref m33, .ref m34, .ref m35, .int m36, .ref m37, .int m38, .ref m39, .ref m40, .ref m41, .ref m42, .ref m43])), (m24, .inl (cA 0, 40, .inl stf)), (m25, .inl (cA 0, 40, .inl syf)), (m15, .inl (cA 0, 40, .inl saf)), (m16, .inl (cA 0, 40, .inl sbf)), (m13, .inl (cA 0, 200, .inl laf)), (m14, .inl (cA 0, 200, .inl lbf)), (m32, .inl (cA 0, 40, .inl wtf)), (m33, .inl (cA 0, 40, .inl wyf)), (m39, .inl (cA 0, 600, .inl kf)), (m40, .inl (cA 2, 600, .inr (.inl (fun i => (xf i).toInt64)))), (m41, .inl (cA 2, 600, .inr (.inl (fun i => (yf i).toInt64)))), (m42, .inl (cA 2, 600, .inr (.inl zf))), (m43, .inl (cA 2, 600, .inr (.inl cf)))]) := by
  refine Met.ofW (cc := cX8_coin) (maxL := 7) (ret := (some .int)) (by decide) rfl ?_
  intro p e s m args below meth c s₁ B hml hv
  obtain ⟨rfl, hP, hK, hD0⟩ := hv
  have hx := B.exec
  have hb := B.bytes
  have hr := B.returns
  have hts := atoms_spec (ws := wsX8_coin) B.pre
  have hown : s.vm.findClass RX8 = some m.cls := findClass_of_methodNamed B.named
  have hlocks := B.notSynchronized
  have hin_X8 : ∀ w ∈ wsX80, w ∈ wsX8_coin := fun w h => List.mem_cons_of_mem _ (List.mem_append_right _ h)
  have w_RX8_181 := hts (.fieldLink RX8 181 "MixElectionModel" "isDue" "Z") (by decide +kernel)
  have w_RX8_170 := hts (.fieldLink RX8 170 "MixElectionModel" "many" "I") (by decide +kernel)
  have w_RX8_209 := hts (.fieldLink RX8 209 "MixElectionModel" "hasShown" "Z") (by decide +kernel)
  have w_RX8_212 := hts (.fieldLink RX8 212 "MixElectionModel" "rejected" "I") (by decide +kernel)
  have w_RX8_203 := hts (.fieldLink RX8 203 "MixElectionModel" "rounds" "I") (by decide +kernel)
  have w_RX8_53 := hts (.fieldLink RX8 53 "MixElectionModel" "shadowTo" "[I") (by decide +kernel)
  have w_RX8_59 := hts (.fieldLink RX8 59 "MixElectionModel" "shownTo" "[I") (by decide +kernel)
  have w_RX8_62 := hts (.fieldLink RX8 62 "MixElectionModel" "shownBy" "[I") (by decide +kernel)
  have w_RX8_56 := hts (.fieldLink RX8 56 "MixElectionModel" "shadowBy" "[I") (by decide +kernel)
  have w_RX8_29 := hts (.fieldLink RX8 29 "MixElectionModel" "shadowA" "[I") (by decide +kernel)
  have w_RX8_191 := hts (.fieldLink RX8 191 "MixElectionModel" "mixes" "I") (by decide +kernel)
  have w_RX8_32 := hts (.fieldLink RX8 32 "MixElectionModel" "shadowB" "[I") (by decide +kernel)
  have hD : va_D (wA [(h0, .inr (7, [.int m0, .int m1, .int m2, .int m3, .int m4, .ref m5, .int m6, .int m7, .int m8, .ref m9, .ref m10, .ref m11, .int m12, .ref m13, .ref m14, .ref m15, .ref m16, .int m17, .ref m18, .ref m19, .ref m20, .ref m21, .ref m22, .ref m23, .ref m24, .ref m25, .int m26, .int m27, .int m28, .int m29, .int m30, .int m31, .ref m32, .ref m33, .ref m34, .ref m35, .int m36, .ref m37, .int m38, .ref m39, .ref m40, .ref m41, .ref m42, .ref m43])), (m24, .inl (cA 0, 40, .inl stf)), (m25, .inl (cA 0, 40, .inl syf)), (m15, .inl (cA 0, 40, .inl saf)), (m16, .inl (cA 0, 40, .inl sbf)), (m13, .inl (cA 0, 200, .inl laf)), (m14, .inl (cA 0, 200, .inl lbf)), (m32, .inl (cA 0, 40, .inl wtf)), (m33, .inl (cA 0, 40, .inl wyf)), (m39, .inl (cA 0, 600, .inl kf)), (m40, .inl (cA 2, 600, .inr (.inl (fun i => (xf i).toInt64)))), (m41, .inl (cA 2, 600, .inr (.inl (fun i => (yf i).toInt64)))), (m42, .inl (cA 2, 600, .inr (.inl zf))), (m43, .inl (cA 2, 600, .inr (.inl cf)))]) [(h0, .inr (7, [.int m0, .int m1, .int m2, .int m3, .int m4, .ref m5, .int m6, .int m7, .int m8, .ref m9, .ref m10, .ref m11, .int m12, .ref m13, .ref m14, .ref m15, .ref m16, .int m17, .ref m18, .ref m19, .ref m20, .ref m21, .ref m22, .ref m23, .ref m24, .ref m25, .int m26, .int m27, .int m28, .int m29, .int m30, .int m31, .ref m32, .ref m33, .ref m34, .ref m35, .int m36, .ref m37, .int m38, .ref m39, .ref m40, .ref m41, .ref m42, .ref m43])), (m24, .inl (cA 0, 40, .inl stf)), (m25, .inl (cA 0, 40, .inl syf)), (m15, .inl (cA 0, 40, .inl saf)), (m16, .inl (cA 0, 40, .inl sbf)), (m13, .inl (cA 0, 200, .inl laf)), (m14, .inl (cA 0, 200, .inl lbf)), (m32, .inl (cA 0, 40, .inl wtf)), (m33, .inl (cA 0, 40, .inl wyf)), (m39, .inl (cA 0, 600, .inl kf)), (m40, .inl (cA 2, 600, .inr (.inl (fun i => (xf i).toInt64)))), (m41, .inl (cA 2, 600, .inr (.inl (fun i => (yf i).toInt64)))), (m42, .inl (cA 2, 600, .inr (.inl zf))), (m43, .inl (cA 2, 600, .inr (.inl cf)))] := ⟨hD0.1, fun k q h => List.mem_map.mpr ⟨q, List.mem_of_getElem? h, rfl⟩⟩
  have hS : va_S (wA [(h0, .inr (7, [.int m0, .int m1, .int m2, .int m3, .int m4, .ref m5, .int m6, .int m7, .int m8, .ref m9, .ref m10, .ref m11, .int m12, .ref m13, .ref m14, .ref m15, .ref m16, .int m17, .ref m18, .ref m19, .ref m20, .ref m21, .ref m22, .ref m23, .ref m24, .ref m25, .int m26, .int m27, .int m28, .int m29, .int m30, .int m31, .ref m32, .ref m33, .ref m34, .ref m35, .int m36, .ref m37, .int m38, .ref m39, .ref m40, .ref m41, .ref m42, .ref m43])), (m24, .inl (cA 0, 40, .inl stf)), (m25, .inl (cA 0, 40, .inl syf)), (m15, .inl (cA 0, 40, .inl saf)), (m16, .inl (cA 0, 40, .inl sbf)), (m13, .inl (cA 0, 200, .inl laf)), (m14, .inl (cA 0, 200, .inl lbf)), (m32, .inl (cA 0, 40, .inl wtf)), (m33, .inl (cA 0, 40, .inl wyf)), (m39, .inl (cA 0, 600, .inl kf)), (m40, .inl (cA 2, 600, .inr (.inl (fun i => (xf i).toInt64)))), (m41, .inl (cA 2, 600, .inr (.inl (fun i => (yf i).toInt64)))), (m42, .inl (cA 2, 600, .inr (.inl zf))), (m43, .inl (cA 2, 600, .inr (.inl cf)))]) s.heap s.heap [] := va_S.rf
  generalize hAe : wA [(h0, .inr (7, [.int m0, .int m1, .int m2, .int m3, .int m4, .ref m5, .int m6, .int m7, .int m8, .ref m9, .ref m10, .ref m11, .int m12, .ref m13, .ref m14, .ref m15, .ref m16, .int m17, .ref m18, .ref m19, .ref m20, .ref m21, .ref m22, .ref m23, .ref m24, .ref m25, .int m26, .int m27, .int m28, .int m29, .int m30, .int m31, .ref m32, .ref m33, .ref m34, .ref m35, .int m36, .ref m37, .int m38, .ref m39, .ref m40, .ref m41, .ref m42, .ref m43])), (m24, .inl (cA 0, 40, .inl stf)), (m25, .inl (cA 0, 40, .inl syf)), (m15, .inl (cA 0, 40, .inl saf)), (m16, .inl (cA 0, 40, .inl sbf)), (m13, .inl (cA 0, 200, .inl laf)), (m14, .inl (cA 0, 200, .inl lbf)), (m32, .inl (cA 0, 40, .inl wtf)), (m33, .inl (cA 0, 40, .inl wyf)), (m39, .inl (cA 0, 600, .inl kf)), (m40, .inl (cA 2, 600, .inr (.inl (fun i => (xf i).toInt64)))), (m41, .inl (cA 2, 600, .inr (.inl (fun i => (yf i).toInt64)))), (m42, .inl (cA 2, 600, .inr (.inl zf))), (m43, .inl (cA 2, 600, .inr (.inl cf)))] = A at hD hS ⊢
  have hP : va_P D vwCl [(h0, .inr (7, [.int m0, .int m1, .int m2, .int m3, .int m4, .ref m5, .int m6, .int m7, .int m8, .ref m9, .ref m10, .ref m11, .int m12, .ref m13, .ref m14, .ref m15, .ref m16, .int m17, .ref m18, .ref m19, .ref m20, .ref m21, .ref m22, .ref m23, .ref m24, .ref m25, .int m26, .int m27, .int m28, .int m29, .int m30, .int m31, .ref m32, .ref m33, .ref m34, .ref m35, .int m36, .ref m37, .int m38, .ref m39, .ref m40, .ref m41, .ref m42, .ref m43])), (m24, .inl (cA 0, 40, .inl stf)), (m25, .inl (cA 0, 40, .inl syf)), (m15, .inl (cA 0, 40, .inl saf)), (m16, .inl (cA 0, 40, .inl sbf)), (m13, .inl (cA 0, 200, .inl laf)), (m14, .inl (cA 0, 200, .inl lbf)), (m32, .inl (cA 0, 40, .inl wtf)), (m33, .inl (cA 0, 40, .inl wyf)), (m39, .inl (cA 0, 600, .inl kf)), (m40, .inl (cA 2, 600, .inr (.inl (fun i => (xf i).toInt64)))), (m41, .inl (cA 2, 600, .inr (.inl (fun i => (yf i).toInt64)))), (m42, .inl (cA 2, 600, .inr (.inl zf))), (m43, .inl (cA 2, 600, .inr (.inl cf)))] s.heap := hP
  have hl := lv_entry ([.ref h0, .int v]) (n := 7) (Nat.le_of_ble_eq_true rfl)
  rw [lg_entry_eq]
  generalize (lg_sl ([.ref h0, .int v]) ++ List.replicate (7 - (lg_sl ([.ref h0, .int v])).length) Slot.unset).toArray = ls at hl ⊢
  have hl : lv_has ls 7 [(0, .ref h0), (1, .int v)] := hl
  refine lv_aload_n hx hb dX8_coin_0 rfl (lv_at hl 0 rfl) ?_
  refine va_get (D := D) (ci := 7) (v := .int m28) (C := RX8) (T := TX8) (N := 44) hx hb hts hin_X8 hown hK hP 0 rfl rfl 28 (by decide) (w_RX8_181) (fun _ h9 => h9) rfl dX8_coin_1 ?_
  refine lv_if_eq (tgt := 16) hx hb dX8_coin_4 (by decide) (fun c_4 => ?_) (fun c_4 => ?_)
  · exact absurd c_4 hd
  · skip
    refine lv_iload_n hx hb dX8_coin_7 rfl (lv_at hl 1 rfl) ?_
    refine lv_iconst (v := 0) hx hb dX8_coin_8 (by decide) ?_
    refine lv_iconst (v := 1) hx hb dX8_coin_9 (by decide) ?_
    refine rq_call1 (v := .int (bI (0 ≤ v ∧ v ≤ 1))) (rn_S (As := [.int v, .int 0, .int 1]) (rest := []) ⟨hx, hb, hml, hown, hts⟩ (c_X8_in l D cA v 0 1) (va_cwS 3 hts gX8_coin_X8_in rfl rfl rfl (by decide +kernel) ⟨Nat.le_of_ble_eq_true rfl, Nat.le_of_ble_eq_true rfl⟩) hK hP [] rfl rfl hl.1 rfl (Nat.le_of_ble_eq_true rfl) dX8_coin_10 ⟨Nat.le_of_ble_eq_true rfl, Nat.le_of_ble_eq_true rfl⟩) ?_
    refine lv_if_ne (tgt := 18) hx hb dX8_coin_13 (by decide) (fun c_13 => ?_) (fun c_13 => ?_)
    · skip
      refine lv_iconst (v := 1) hx hb dX8_coin_18 (by decide) ?_
      refine lv_istore_n (lv' := [(2, .int 1), (0, .ref h0), (1, .int v)]) hx hb dX8_coin_19 rfl hl (by decide) rfl (fun ls hl => ?_)
      refine lv_iconst (v := 0) hx hb dX8_coin_20 (by decide) ?_
      refine lv_istore_n (lv' := [(3, .int 0), (2, .int 1), (0, .ref h0), (1, .int v)]) hx hb dX8_coin_21 rfl hl (by decide) rfl (fun ls hl => ?_)
      have loop22 : ∀ (f_ k : Nat) (z gd : Int32), z = nI k → b0 + 1 ≤ k + f_ → k ≤ b0 → gd = bI (∀ i : Nat, i < k → ldc m0 m7 vt ve sa sb sha shb i) → ∀ (H : Heap) (locs : List Loc), va_P D vwCl [(h0, .inr (7, [.int m0, .int m1, .int m2, .int m3, .int m4, .ref m5, .int m6, .int m7, .int m8, .ref m9, .ref m10, .ref m11, .int m12, .ref m13, .ref m14, .ref m15, .ref m16, .int m17, .ref m18, .ref m19, .ref m20, .ref m21, .ref m22, .ref m23, .ref m24, .ref m25, .int m26, .int m27, .int m28, .int m29, .int m30, .int m31, .ref m32, .ref m33, .ref m34, .ref m35, .int m36, .ref m37, .int m38, .ref m39, .ref m40, .ref m41, .ref m42, .ref m43])), (m24, .inl (cA 0, 40, .inl stf)), (m25, .inl (cA 0, 40, .inl syf)), (m15, .inl (cA 0, 40, .inl saf)), (m16, .inl (cA 0, 40, .inl sbf)), (m13, .inl (cA 0, 200, .inl laf)), (m14, .inl (cA 0, 200, .inl lbf)), (m32, .inl (cA 0, 40, .inl (scat (fun i => i) vt wtf k))), (m33, .inl (cA 0, 40, .inl (scat (fun i => i) ve wyf k))), (m39, .inl (cA 0, 600, .inl kf)), (m40, .inl (cA 2, 600, .inr (.inl (fun i => (xf i).toInt64)))), (m41, .inl (cA 2, 600, .inr (.inl (fun i => (yf i).toInt64)))), (m42, .inl (cA 2, 600, .inr (.inl zf))), (m43, .inl (cA 2, 600, .inr (.inl cf)))] H → va_D A [(h0, .inr (7, [.int m0, .int m1, .int m2, .int m3, .int m4, .ref m5, .int m6, .int m7, .int m8, .ref m9, .ref m10, .ref m11, .int m12, .ref m13, .ref m14, .ref m15, .ref m16, .int m17, .ref m18, .ref m19, .ref m20, .ref m21, .ref m22, .ref m23, .ref m24, .ref m25, .int m26, .int m27, .int m28, .int m29, .int m30, .int m31, .ref m32, .ref m33, .ref m34, .ref m35, .int m36, .ref m37, .int m38, .ref m39, .ref m40, .ref m41, .ref m42, .ref m43])), (m24, .inl (cA 0, 40, .inl stf)), (m25, .inl (cA 0, 40, .inl syf)), (m15, .inl (cA 0, 40, .inl saf)), (m16, .inl (cA 0, 40, .inl sbf)), (m13, .inl (cA 0, 200, .inl laf)), (m14, .inl (cA 0, 200, .inl lbf)), (m32, .inl (cA 0, 40, .inl (scat (fun i => i) vt wtf k))), (m33, .inl (cA 0, 40, .inl (scat (fun i => i) ve wyf k))), (m39, .inl (cA 0, 600, .inl kf)), (m40, .inl (cA 2, 600, .inr (.inl (fun i => (xf i).toInt64)))), (m41, .inl (cA 2, 600, .inr (.inl (fun i => (yf i).toInt64)))), (m42, .inl (cA 2, 600, .inr (.inl zf))), (m43, .inl (cA 2, 600, .inr (.inl cf)))] → va_S A s.heap H locs → ∀ ls : Array Slot, lv_has ls 7 [(0, .ref h0), (1, .int v), (2, .int gd), (3, .int z)] → W p l e (headSpec wsX8_coin ({ frames := 3, cells := 0, slots := 0, locals := 70 })).room s m [.ref h0, .int v].toArray below meth c H locs 0 0 (MQ below (wq_x vwCl D [(h0, .inr (7, [.int m0, .int m1, .int m2, .int m3, .int m4, .ref m5, .int m6, .int m7, .int m8, .ref m9, .ref m10, .ref m11, .int m12, .ref m13, .ref m14, .ref m15, .ref m16, .int m17, .ref m18, .ref m19, .ref m20, .ref m21, .ref m22, .ref m23, .ref m24, .ref m25, .int m26, .int m27, .int 0, .int (m29 + (1 - bI (∀ i : Nat, i < b0 → ldc m0 m7 vt ve sa sb sha shb i))), .int m30, .int 1, .ref m32, .ref m33, .ref m34, .ref m35, .int m36, .ref m37, .int (m38 + 1), .ref m39, .ref m40, .ref m41, .ref m42, .ref m43])), (m24, .inl (cA 0, 40, .inl stf)), (m25, .inl (cA 0, 40, .inl syf)), (m15, .inl (cA 0, 40, .inl saf)), (m16, .inl (cA 0, 40, .inl sbf)), (m13, .inl (cA 0, 200, .inl laf)), (m14, .inl (cA 0, 200, .inl lbf)), (m32, .inl (cA 0, 40, .inl (scat (fun i => i) vt wtf b0))), (m33, .inl (cA 0, 40, .inl (scat (fun i => i) ve wyf b0))), (m39, .inl (cA 0, 600, .inl (upd kf m38.toNatClampNeg 6))), (m40, .inl (cA 2, 600, .inr (.inl (fun i => ((upd xf m38.toNatClampNeg m27) i).toInt64)))), (m41, .inl (cA 2, 600, .inr (.inl (fun i => ((upd yf m38.toNatClampNeg v) i).toInt64)))), (m42, .inl (cA 2, 600, .inr (.inl (vp_updL zf m38.toNatClampNeg ((bI (∀ i : Nat, i < b0 → ldc m0 m7 vt ve sa sb sha shb i)).toInt64))))), (m43, .inl (cA 2, 600, .inr (.inl (vp_updL cf m38.toNatClampNeg (dg (dg (dg (dg (cho cf m38 (m38 - 1)) ((6 : Int32).toInt64)) (m27.toInt64)) (v.toInt64)) ((bI (∀ i : Nat, i < b0 → ldc m0 m7 vt ve sa sb sha shb i)).toInt64))))))] (some (.int (bI (∀ i : Nat, i < b0 → ldc m0 m7 vt ve sa sb sha shb i)))) A) [.ref h0, .int v].toArray s 0 0 A) (F0 m 22 ls []) := by
        intro f
        induction f with
        | zero =>
          intro k z gd hz h1 h2
          omega
        | succ f ih =>
          intro k z gd hz h1 h2 hg H locs hP hD hS ls hl
          refine lv_iload_n hx hb dX8_coin_22 rfl (lv_at hl 3 rfl) ?_
          refine lv_aload_n hx hb dX8_coin_23 rfl (lv_at hl 0 rfl) ?_
          refine va_get (D := D) (ci := 7) (v := .int m12) (C := RX8) (T := TX8) (N := 44) hx hb hts hin_X8 hown hK hP 0 rfl rfl 12 (by decide) (w_RX8_170) (fun _ h9 => h9) rfl dX8_coin_24 ?_
          refine lv_icmp_ge (tgt := 267) hx hb dX8_coin_27 (by decide) (fun c_27 => ?_) (fun c_27 => ?_)
          · skip
            have hke := (lp_end hz hnb (by omega) h2 c_27).symm
            subst hke
            subst hg
            refine lv_aload_n hx hb dX8_coin_267 rfl (lv_at hl 0 rfl) ?_
            refine lv_iconst (v := 0) hx hb dX8_coin_268 (by decide) ?_
            refine va_put (D := D) (ci := 7) (v := .int 0) (ty := .boolean) (C := RX8) (T := TX8) (N := 44) hx hb hts hin_X8 tyX8 tyX8_ok nmX8 hown hK hP hD hS 0 rfl rfl 28 (by decide) (w_RX8_181) (fun _ h9 => h9) rfl (by decide +kernel) rfl rfl (Nat.le_of_ble_eq_true rfl) dX8_coin_269 (fun H locs hP hD hS => ?_)
            have hP : va_P D vwCl [(h0, .inr (7, [.int m0, .int m1, .int m2, .int m3, .int m4, .ref m5, .int m6, .int m7, .int m8, .ref m9, .ref m10, .ref m11, .int m12, .ref m13, .ref m14, .ref m15, .ref m16, .int m17, .ref m18, .ref m19, .ref m20, .ref m21, .ref m22, .ref m23, .ref m24, .ref m25, .int m26, .int m27, .int 0, .int m29, .int m30, .int m31, .ref m32, .ref m33, .ref m34, .ref m35, .int m36, .ref m37, .int m38, .ref m39, .ref m40, .ref m41, .ref m42, .ref m43])), (m24, .inl (cA 0, 40, .inl stf)), (m25, .inl (cA 0, 40, .inl syf)), (m15, .inl (cA 0, 40, .inl saf)), (m16, .inl (cA 0, 40, .inl sbf)), (m13, .inl (cA 0, 200, .inl laf)), (m14, .inl (cA 0, 200, .inl lbf)), (m32, .inl (cA 0, 40, .inl (scat (fun i => i) vt wtf b0))), (m33, .inl (cA 0, 40, .inl (scat (fun i => i) ve wyf b0))), (m39, .inl (cA 0, 600, .inl kf)), (m40, .inl (cA 2, 600, .inr (.inl (fun i => (xf i).toInt64)))), (m41, .inl (cA 2, 600, .inr (.inl (fun i => (yf i).toInt64)))), (m42, .inl (cA 2, 600, .inr (.inl zf))), (m43, .inl (cA 2, 600, .inr (.inl cf)))] H := hP
            have hD : va_D A [(h0, .inr (7, [.int m0, .int m1, .int m2, .int m3, .int m4, .ref m5, .int m6, .int m7, .int m8, .ref m9, .ref m10, .ref m11, .int m12, .ref m13, .ref m14, .ref m15, .ref m16, .int m17, .ref m18, .ref m19, .ref m20, .ref m21, .ref m22, .ref m23, .ref m24, .ref m25, .int m26, .int m27, .int 0, .int m29, .int m30, .int m31, .ref m32, .ref m33, .ref m34, .ref m35, .int m36, .ref m37, .int m38, .ref m39, .ref m40, .ref m41, .ref m42, .ref m43])), (m24, .inl (cA 0, 40, .inl stf)), (m25, .inl (cA 0, 40, .inl syf)), (m15, .inl (cA 0, 40, .inl saf)), (m16, .inl (cA 0, 40, .inl sbf)), (m13, .inl (cA 0, 200, .inl laf)), (m14, .inl (cA 0, 200, .inl lbf)), (m32, .inl (cA 0, 40, .inl (scat (fun i => i) vt wtf b0))), (m33, .inl (cA 0, 40, .inl (scat (fun i => i) ve wyf b0))), (m39, .inl (cA 0, 600, .inl kf)), (m40, .inl (cA 2, 600, .inr (.inl (fun i => (xf i).toInt64)))), (m41, .inl (cA 2, 600, .inr (.inl (fun i => (yf i).toInt64)))), (m42, .inl (cA 2, 600, .inr (.inl zf))), (m43, .inl (cA 2, 600, .inr (.inl cf)))] := hD
            refine lv_aload_n hx hb dX8_coin_272 rfl (lv_at hl 0 rfl) ?_
            refine lv_iconst (v := 1) hx hb dX8_coin_273 (by decide) ?_
            refine va_put (D := D) (ci := 7) (v := .int 1) (ty := .boolean) (C := RX8) (T := TX8) (N := 44) hx hb hts hin_X8 tyX8 tyX8_ok nmX8 hown hK hP hD hS 0 rfl rfl 31 (by decide) (w_RX8_209) (fun _ h9 => h9) rfl (by decide +kernel) rfl rfl (Nat.le_of_ble_eq_true rfl) dX8_coin_274 (fun H locs hP hD hS => ?_)
            have hP : va_P D vwCl [(h0, .inr (7, [.int m0, .int m1, .int m2, .int m3, .int m4, .ref m5, .int m6, .int m7, .int m8, .ref m9, .ref m10, .ref m11, .int m12, .ref m13, .ref m14, .ref m15, .ref m16, .int m17, .ref m18, .ref m19, .ref m20, .ref m21, .ref m22, .ref m23, .ref m24, .ref m25, .int m26, .int m27, .int 0, .int m29, .int m30, .int 1, .ref m32, .ref m33, .ref m34, .ref m35, .int m36, .ref m37, .int m38, .ref m39, .ref m40, .ref m41, .ref m42, .ref m43])), (m24, .inl (cA 0, 40, .inl stf)), (m25, .inl (cA 0, 40, .inl syf)), (m15, .inl (cA 0, 40, .inl saf)), (m16, .inl (cA 0, 40, .inl sbf)), (m13, .inl (cA 0, 200, .inl laf)), (m14, .inl (cA 0, 200, .inl lbf)), (m32, .inl (cA 0, 40, .inl (scat (fun i => i) vt wtf b0))), (m33, .inl (cA 0, 40, .inl (scat (fun i => i) ve wyf b0))), (m39, .inl (cA 0, 600, .inl kf)), (m40, .inl (cA 2, 600, .inr (.inl (fun i => (xf i).toInt64)))), (m41, .inl (cA 2, 600, .inr (.inl (fun i => (yf i).toInt64)))), (m42, .inl (cA 2, 600, .inr (.inl zf))), (m43, .inl (cA 2, 600, .inr (.inl cf)))] H := hP
            have hD : va_D A [(h0, .inr (7, [.int m0, .int m1, .int m2, .int m3, .int m4, .ref m5, .int m6, .int m7, .int m8, .ref m9, .ref m10, .ref m11, .int m12, .ref m13, .ref m14, .ref m15, .ref m16, .int m17, .ref m18, .ref m19, .ref m20, .ref m21, .ref m22, .ref m23, .ref m24, .ref m25, .int m26, .int m27, .int 0, .int m29, .int m30, .int 1, .ref m32, .ref m33, .ref m34, .ref m35, .int m36, .ref m37, .int m38, .ref m39, .ref m40, .ref m41, .ref m42, .ref m43])), (m24, .inl (cA 0, 40, .inl stf)), (m25, .inl (cA 0, 40, .inl syf)), (m15, .inl (cA 0, 40, .inl saf)), (m16, .inl (cA 0, 40, .inl sbf)), (m13, .inl (cA 0, 200, .inl laf)), (m14, .inl (cA 0, 200, .inl lbf)), (m32, .inl (cA 0, 40, .inl (scat (fun i => i) vt wtf b0))), (m33, .inl (cA 0, 40, .inl (scat (fun i => i) ve wyf b0))), (m39, .inl (cA 0, 600, .inl kf)), (m40, .inl (cA 2, 600, .inr (.inl (fun i => (xf i).toInt64)))), (m41, .inl (cA 2, 600, .inr (.inl (fun i => (yf i).toInt64)))), (m42, .inl (cA 2, 600, .inr (.inl zf))), (m43, .inl (cA 2, 600, .inr (.inl cf)))] := hD
            refine lv_aload_n hx hb dX8_coin_277 rfl (lv_at hl 0 rfl) ?_
            refine lv_dup hx hb dX8_coin_278 rfl ?_
            refine va_get (D := D) (ci := 7) (v := .int m29) (C := RX8) (T := TX8) (N := 44) hx hb hts hin_X8 hown hK hP 0 rfl rfl 29 (by decide) (w_RX8_212) (fun _ h9 => h9) rfl dX8_coin_279 ?_
            refine lv_iload_n hx hb dX8_coin_282 rfl (lv_at hl 2 rfl) ?_
            refine lv_if_eq (tgt := 290) hx hb dX8_coin_283 (by decide) (fun c_283 => ?_) (fun c_283 => ?_)
            · skip
              refine lv_iconst (v := 1) hx hb dX8_coin_290 (by decide) ?_
              refine lv_topi (fun w8 e8 => ?_)
              have e9 : w8 = (1 - bI (∀ i : Nat, i < b0 → ldc m0 m7 vt ve sa sb sha shb i)) := (by rw [e8, c_283]; rfl)
              clear e8
              subst e9
              refine lv_iadd hx hb dX8_coin_291 ?_
              refine va_put (D := D) (ci := 7) (v := .int (m29 + (1 - bI (∀ i : Nat, i < b0 → ldc m0 m7 vt ve sa sb sha shb i)))) (ty := .int) (C := RX8) (T := TX8) (N := 44) hx hb hts hin_X8 tyX8 tyX8_ok nmX8 hown hK hP hD hS 0 rfl rfl 29 (by decide) (w_RX8_212) (fun _ h9 => h9) rfl (by decide +kernel) rfl rfl (Nat.le_of_ble_eq_true rfl) dX8_coin_292 (fun H locs hP hD hS => ?_)
              have hP : va_P D vwCl [(h0, .inr (7, [.int m0, .int m1, .int m2, .int m3, .int m4, .ref m5, .int m6, .int m7, .int m8, .ref m9, .ref m10, .ref m11, .int m12, .ref m13, .ref m14, .ref m15, .ref m16, .int m17, .ref m18, .ref m19, .ref m20, .ref m21, .ref m22, .ref m23, .ref m24, .ref m25, .int m26, .int m27, .int 0, .int (m29 + (1 - bI (∀ i : Nat, i < b0 → ldc m0 m7 vt ve sa sb sha shb i))), .int m30, .int 1, .ref m32, .ref m33, .ref m34, .ref m35, .int m36, .ref m37, .int m38, .ref m39, .ref m40, .ref m41, .ref m42, .ref m43])), (m24, .inl (cA 0, 40, .inl stf)), (m25, .inl (cA 0, 40, .inl syf)), (m15, .inl (cA 0, 40, .inl saf)), (m16, .inl (cA 0, 40, .inl sbf)), (m13, .inl (cA 0, 200, .inl laf)), (m14, .inl (cA 0, 200, .inl lbf)), (m32, .inl (cA 0, 40, .inl (scat (fun i => i) vt wtf b0))), (m33, .inl (cA 0, 40, .inl (scat (fun i => i) ve wyf b0))), (m39, .inl (cA 0, 600, .inl kf)), (m40, .inl (cA 2, 600, .inr (.inl (fun i => (xf i).toInt64)))), (m41, .inl (cA 2, 600, .inr (.inl (fun i => (yf i).toInt64)))), (m42, .inl (cA 2, 600, .inr (.inl zf))), (m43, .inl (cA 2, 600, .inr (.inl cf)))] H := hP
              have hD : va_D A [(h0, .inr (7, [.int m0, .int m1, .int m2, .int m3, .int m4, .ref m5, .int m6, .int m7, .int m8, .ref m9, .ref m10, .ref m11, .int m12, .ref m13, .ref m14, .ref m15, .ref m16, .int m17, .ref m18, .ref m19, .ref m20, .ref m21, .ref m22, .ref m23, .ref m24, .ref m25, .int m26, .int m27, .int 0, .int (m29 + (1 - bI (∀ i : Nat, i < b0 → ldc m0 m7 vt ve sa sb sha shb i))), .int m30, .int 1, .ref m32, .ref m33, .ref m34, .ref m35, .int m36, .ref m37, .int m38, .ref m39, .ref m40, .ref m41, .ref m42, .ref m43])), (m24, .inl (cA 0, 40, .inl stf)), (m25, .inl (cA 0, 40, .inl syf)), (m15, .inl (cA 0, 40, .inl saf)), (m16, .inl (cA 0, 40, .inl sbf)), (m13, .inl (cA 0, 200, .inl laf)), (m14, .inl (cA 0, 200, .inl lbf)), (m32, .inl (cA 0, 40, .inl (scat (fun i => i) vt wtf b0))), (m33, .inl (cA 0, 40, .inl (scat (fun i => i) ve wyf b0))), (m39, .inl (cA 0, 600, .inl kf)), (m40, .inl (cA 2, 600, .inr (.inl (fun i => (xf i).toInt64)))), (m41, .inl (cA 2, 600, .inr (.inl (fun i => (yf i).toInt64)))), (m42, .inl (cA 2, 600, .inr (.inl zf))), (m43, .inl (cA 2, 600, .inr (.inl cf)))] := hD
              refine lv_aload_n hx hb dX8_coin_295 rfl (lv_at hl 0 rfl) ?_
              refine lv_bipush (v := 6) hx hb dX8_coin_296 (by decide) ?_
              refine lv_aload_n hx hb dX8_coin_298 rfl (lv_at hl 0 rfl) ?_
              refine va_get (D := D) (ci := 7) (v := .int m27) (C := RX8) (T := TX8) (N := 44) hx hb hts hin_X8 hown hK hP 0 rfl rfl 27 (by decide) (w_RX8_203) (fun _ h9 => h9) rfl dX8_coin_299 ?_
              refine lv_i2l hx hb dX8_coin_302 rfl ?_
              refine lv_iload_n hx hb dX8_coin_303 rfl (lv_at hl 1 rfl) ?_
              refine lv_i2l hx hb dX8_coin_304 rfl ?_
              refine lv_iload_n hx hb dX8_coin_305 rfl (lv_at hl 2 rfl) ?_
              refine lv_if_eq (tgt := 313) hx hb dX8_coin_306 (by decide) (fun c_306 => ?_) (fun c_306 => ?_)
              · skip
                refine lv_lconst (v := 0) hx hb dX8_coin_313 (by decide) ?_
                refine lv_topl (fun w8 e8 => ?_)
                have e9 : w8 = ((bI (∀ i : Nat, i < b0 → ldc m0 m7 vt ve sa sb sha shb i)).toInt64) := (by rw [e8, c_306]; rfl)
                clear e8
                subst e9
                refine wl_call1 (v := .long (dg (dg (dg (dg (cho cf m38 (m38 - 1)) ((6 : Int32).toInt64)) (m27.toInt64)) (v.toInt64)) ((bI (∀ i : Nat, i < b0 → ldc m0 m7 vt ve sa sb sha shb i)).toInt64))) (wc := [(h0, .inr (7, [.int m0, .int m1, .int m2, .int m3, .int m4, .ref m5, .int m6, .int m7, .int m8, .ref m9, .ref m10, .ref m11, .int m12, .ref m13, .ref m14, .ref m15, .ref m16, .int m17, .ref m18, .ref m19, .ref m20, .ref m21, .ref m22, .ref m23, .ref m24, .ref m25, .int m26, .int m27, .int 0, .int (m29 + (1 - bI (∀ i : Nat, i < b0 → ldc m0 m7 vt ve sa sb sha shb i))), .int m30, .int 1, .ref m32, .ref m33, .ref m34, .ref m35, .int m36, .ref m37, .int m38, .ref m39, .ref m40, .ref m41, .ref m42, .ref m43])), (m39, .inl (cA 0, 600, .inl kf)), (m40, .inl (cA 2, 600, .inr (.inl (fun i => (xf i).toInt64)))), (m41, .inl (cA 2, 600, .inr (.inl (fun i => (yf i).toInt64)))), (m42, .inl (cA 2, 600, .inr (.inl zf))), (m43, .inl (cA 2, 600, .inr (.inl cf)))]) (w1 := [(h0, .inr (7, [.int m0, .int m1, .int m2, .int m3, .int m4, .ref m5, .int m6, .int m7, .int m8, .ref m9, .ref m10, .ref m11, .int m12, .ref m13, .ref m14, .ref m15, .ref m16, .int m17, .ref m18, .ref m19, .ref m20, .ref m21, .ref m22, .ref m23, .ref m24, .ref m25, .int m26, .int m27, .int 0, .int (m29 + (1 - bI (∀ i : Nat, i < b0 → ldc m0 m7 vt ve sa sb sha shb i))), .int m30, .int 1, .ref m32, .ref m33, .ref m34, .ref m35, .int m36, .ref m37, .int (m38 + 1), .ref m39, .ref m40, .ref m41, .ref m42, .ref m43])), (m39, .inl (cA 0, 600, .inl (upd kf m38.toNatClampNeg 6))), (m40, .inl (cA 2, 600, .inr (.inl (fun i => ((upd xf m38.toNatClampNeg m27) i).toInt64)))), (m41, .inl (cA 2, 600, .inr (.inl (fun i => ((upd yf m38.toNatClampNeg v) i).toInt64)))), (m42, .inl (cA 2, 600, .inr (.inl (vp_updL zf m38.toNatClampNeg ((bI (∀ i : Nat, i < b0 → ldc m0 m7 vt ve sa sb sha shb i)).toInt64))))), (m43, .inl (cA 2, 600, .inr (.inl (vp_updL cf m38.toNatClampNeg (dg (dg (dg (dg (cho cf m38 (m38 - 1)) ((6 : Int32).toInt64)) (m27.toInt64)) (v.toInt64)) ((bI (∀ i : Nat, i < b0 → ldc m0 m7 vt ve sa sb sha shb i)).toInt64))))))]) (ws' := [(h0, .inr (7, [.int m0, .int m1, .int m2, .int m3, .int m4, .ref m5, .int m6, .int m7, .int m8, .ref m9, .ref m10, .ref m11, .int m12, .ref m13, .ref m14, .ref m15, .ref m16, .int m17, .ref m18, .ref m19, .ref m20, .ref m21, .ref m22, .ref m23, .ref m24, .ref m25, .int m26, .int m27, .int 0, .int (m29 + (1 - bI (∀ i : Nat, i < b0 → ldc m0 m7 vt ve sa sb sha shb i))), .int m30, .int 1, .ref m32, .ref m33, .ref m34, .ref m35, .int m36, .ref m37, .int (m38 + 1), .ref m39, .ref m40, .ref m41, .ref m42, .ref m43])), (m24, .inl (cA 0, 40, .inl stf)), (m25, .inl (cA 0, 40, .inl syf)), (m15, .inl (cA 0, 40, .inl saf)), (m16, .inl (cA 0, 40, .inl sbf)), (m13, .inl (cA 0, 200, .inl laf)), (m14, .inl (cA 0, 200, .inl lbf)), (m32, .inl (cA 0, 40, .inl (scat (fun i => i) vt wtf b0))), (m33, .inl (cA 0, 40, .inl (scat (fun i => i) ve wyf b0))), (m39, .inl (cA 0, 600, .inl (upd kf m38.toNatClampNeg 6))), (m40, .inl (cA 2, 600, .inr (.inl (fun i => ((upd xf m38.toNatClampNeg m27) i).toInt64)))), (m41, .inl (cA 2, 600, .inr (.inl (fun i => ((upd yf m38.toNatClampNeg v) i).toInt64)))), (m42, .inl (cA 2, 600, .inr (.inl (vp_updL zf m38.toNatClampNeg ((bI (∀ i : Nat, i < b0 → ldc m0 m7 vt ve sa sb sha shb i)).toInt64))))), (m43, .inl (cA 2, 600, .inr (.inl (vp_updL cf m38.toNatClampNeg (dg (dg (dg (dg (cho cf m38 (m38 - 1)) ((6 : Int32).toInt64)) (m27.toInt64)) (v.toInt64)) ((bI (∀ i : Nat, i < b0 → ldc m0 m7 vt ve sa sb sha shb i)).toInt64))))))]) (wn_V (As := [.int 6, .long m27.toInt64, .long v.toInt64, .long ((bI (∀ i : Nat, i < b0 → ldc m0 m7 vt ve sa sb sha shb i)).toInt64)]) (rest := []) (ci := 7) (fs := [.int m0, .int m1, .int m2, .int m3, .int m4, .ref m5, .int m6, .int m7, .int m8, .ref m9, .ref m10, .ref m11, .int m12, .ref m13, .ref m14, .ref m15, .ref m16, .int m17, .ref m18, .ref m19, .ref m20, .ref m21, .ref m22, .ref m23, .ref m24, .ref m25, .int m26, .int m27, .int 0, .int (m29 + (1 - bI (∀ i : Nat, i < b0 → ldc m0 m7 vt ve sa sb sha shb i))), .int m30, .int 1, .ref m32, .ref m33, .ref m34, .ref m35, .int m36, .ref m37, .int m38, .ref m39, .ref m40, .ref m41, .ref m42, .ref m43]) ⟨hx, hb, hml, hown, hts⟩ (c_X8_enter l D cA h0 m0 m1 m2 m3 m4 m5 m6 m7 m8 m9 m10 m11 m12 m13 m14 m15 m16 m17 m18 m19 m20 m21 m22 m23 m24 m25 m26 m27 0 (m29 + (1 - bI (∀ i : Nat, i < b0 → ldc m0 m7 vt ve sa sb sha shb i))) m30 1 m32 m33 m34 m35 m36 m37 m38 m39 m40 m41 m42 m43 kf xf yf zf cf 6 m27 v ((bI (∀ i : Nat, i < b0 → ldc m0 m7 vt ve sa sb sha shb i)).toInt64) n0 hbn h6) rfl (cwV 4 hts gX8_coin_X8_enter rfl rfl rfl (by decide +kernel) ⟨Nat.le_of_ble_eq_true rfl, Nat.le_of_ble_eq_true rfl⟩) hK hP hD [0, 9, 10, 11, 12, 13] rfl (by decide) rfl rfl rfl hl.1 rfl (Nat.le_of_ble_eq_true rfl) dX8_coin_314 ⟨Nat.le_of_ble_eq_true rfl, Nat.le_of_ble_eq_true rfl⟩) hP hD hS [0, 9, 10, 11, 12, 13] [1, 2, 3, 4, 5, 6, 7, 8] rfl rfl (wr := [(m24, .inl (cA 0, 40, .inl stf)), (m25, .inl (cA 0, 40, .inl syf)), (m15, .inl (cA 0, 40, .inl saf)), (m16, .inl (cA 0, 40, .inl sbf)), (m13, .inl (cA 0, 200, .inl laf)), (m14, .inl (cA 0, 200, .inl lbf)), (m32, .inl (cA 0, 40, .inl (scat (fun i => i) vt wtf b0))), (m33, .inl (cA 0, 40, .inl (scat (fun i => i) ve wyf b0)))]) rfl rfl (ads := [h0, m24, m25, m15, m16, m13, m14, m32, m33, m39, m40, m41, m42, m43]) rfl rfl (adc := [h0, m39, m40, m41, m42, m43]) rfl rfl rfl (fun H locs hP hD hS => ?_)
                refine lv_lstore_n (lv' := [(3, .long (dg (dg (dg (dg (cho cf m38 (m38 - 1)) ((6 : Int32).toInt64)) (m27.toInt64)) (v.toInt64)) ((bI (∀ i : Nat, i < b0 → ldc m0 m7 vt ve sa sb sha shb i)).toInt64))), (0, .ref h0), (1, .int v), (2, .int (bI (∀ i : Nat, i < b0 → ldc m0 m7 vt ve sa sb sha shb i)))]) hx hb dX8_coin_317 rfl hl (by decide) rfl (fun ls hl => ?_)
                refine lv_iload_n hx hb dX8_coin_318 rfl (lv_at hl 3 rfl) ?_
                refine lv_if_eq (tgt := 326) hx hb dX8_coin_319 (by decide) (fun c_319 => ?_) (fun c_319 => ?_)
                · skip
                  refine lv_iconst (v := 0) hx hb dX8_coin_326 (by decide) ?_
                  refine lv_topi (fun w8 e8 => ?_)
                  have e9 : w8 = (bI (∀ i : Nat, i < b0 → ldc m0 m7 vt ve sa sb sha shb i)) := (by rw [e8, c_319])
                  clear e8
                  subst e9
                  have hP9 : va_P D vwCl [(h0, .inr (7, [.int m0, .int m1, .int m2, .int m3, .int m4, .ref m5, .int m6, .int m7, .int m8, .ref m9, .ref m10, .ref m11, .int m12, .ref m13, .ref m14, .ref m15, .ref m16, .int m17, .ref m18, .ref m19, .ref m20, .ref m21, .ref m22, .ref m23, .ref m24, .ref m25, .int m26, .int m27, .int 0, .int (m29 + (1 - bI (∀ i : Nat, i < b0 → ldc m0 m7 vt ve sa sb sha shb i))), .int m30, .int 1, .ref m32, .ref m33, .ref m34, .ref m35, .int m36, .ref m37, .int (m38 + 1), .ref m39, .ref m40, .ref m41, .ref m42, .ref m43])), (m24, .inl (cA 0, 40, .inl stf)), (m25, .inl (cA 0, 40, .inl syf)), (m15, .inl (cA 0, 40, .inl saf)), (m16, .inl (cA 0, 40, .inl sbf)), (m13, .inl (cA 0, 200, .inl laf)), (m14, .inl (cA 0, 200, .inl lbf)), (m32, .inl (cA 0, 40, .inl (scat (fun i => i) vt wtf b0))), (m33, .inl (cA 0, 40, .inl (scat (fun i => i) ve wyf b0))), (m39, .inl (cA 0, 600, .inl (upd kf m38.toNatClampNeg 6))), (m40, .inl (cA 2, 600, .inr (.inl (fun i => ((upd xf m38.toNatClampNeg m27) i).toInt64)))), (m41, .inl (cA 2, 600, .inr (.inl (fun i => ((upd yf m38.toNatClampNeg v) i).toInt64)))), (m42, .inl (cA 2, 600, .inr (.inl (vp_updL zf m38.toNatClampNeg ((bI (∀ i : Nat, i < b0 → ldc m0 m7 vt ve sa sb sha shb i)).toInt64))))), (m43, .inl (cA 2, 600, .inr (.inl (vp_updL cf m38.toNatClampNeg (dg (dg (dg (dg (cho cf m38 (m38 - 1)) ((6 : Int32).toInt64)) (m27.toInt64)) (v.toInt64)) ((bI (∀ i : Nat, i < b0 → ldc m0 m7 vt ve sa sb sha shb i)).toInt64))))))] H := hP
                  exact W.iret (v := (bI (∀ i : Nat, i < b0 → ldc m0 m7 vt ve sa sb sha shb i))) hx hb hr (fun t ht hW => ⟨congrArg (fun z => Outcome.returned (some (Value.int z))) (rfl), by rw [ht]; exact hP9, hS.F ht⟩) hS.2.2 dX8_coin_327
                · exact absurd c_283 c_319
              · exact absurd c_283 c_306
            · skip
              refine lv_iconst (v := 0) hx hb dX8_coin_286 (by decide) ?_
              refine lv_goto (tgt := 291) hx hb dX8_coin_287 (by decide) ?_
              refine lv_topi (fun w8 e8 => ?_)
              have e9 : w8 = (1 - bI (∀ i : Nat, i < b0 → ldc m0 m7 vt ve sa sb sha shb i)) := (by rw [e8, bI_is1 c_283]; rfl)
              clear e8
              subst e9
              refine lv_iadd hx hb dX8_coin_291 ?_
              refine va_put (D := D) (ci := 7) (v := .int (m29 + (1 - bI (∀ i : Nat, i < b0 → ldc m0 m7 vt ve sa sb sha shb i)))) (ty := .int) (C := RX8) (T := TX8) (N := 44) hx hb hts hin_X8 tyX8 tyX8_ok nmX8 hown hK hP hD hS 0 rfl rfl 29 (by decide) (w_RX8_212) (fun _ h9 => h9) rfl (by decide +kernel) rfl rfl (Nat.le_of_ble_eq_true rfl) dX8_coin_292 (fun H locs hP hD hS => ?_)
              have hP : va_P D vwCl [(h0, .inr (7, [.int m0, .int m1, .int m2, .int m3, .int m4, .ref m5, .int m6, .int m7, .int m8, .ref m9, .ref m10, .ref m11, .int m12, .ref m13, .ref m14, .ref m15, .ref m16, .int m17, .ref m18, .ref m19, .ref m20, .ref m21, .ref m22, .ref m23, .ref m24, .ref m25, .int m26, .int m27, .int 0, .int (m29 + (1 - bI (∀ i : Nat, i < b0 → ldc m0 m7 vt ve sa sb sha shb i))), .int m30, .int 1, .ref m32, .ref m33, .ref m34, .ref m35, .int m36, .ref m37, .int m38, .ref m39, .ref m40, .ref m41, .ref m42, .ref m43])), (m24, .inl (cA 0, 40, .inl stf)), (m25, .inl (cA 0, 40, .inl syf)), (m15, .inl (cA 0, 40, .inl saf)), (m16, .inl (cA 0, 40, .inl sbf)), (m13, .inl (cA 0, 200, .inl laf)), (m14, .inl (cA 0, 200, .inl lbf)), (m32, .inl (cA 0, 40, .inl (scat (fun i => i) vt wtf b0))), (m33, .inl (cA 0, 40, .inl (scat (fun i => i) ve wyf b0))), (m39, .inl (cA 0, 600, .inl kf)), (m40, .inl (cA 2, 600, .inr (.inl (fun i => (xf i).toInt64)))), (m41, .inl (cA 2, 600, .inr (.inl (fun i => (yf i).toInt64)))), (m42, .inl (cA 2, 600, .inr (.inl zf))), (m43, .inl (cA 2, 600, .inr (.inl cf)))] H := hP
              have hD : va_D A [(h0, .inr (7, [.int m0, .int m1, .int m2, .int m3, .int m4, .ref m5, .int m6, .int m7, .int m8, .ref m9, .ref m10, .ref m11, .int m12, .ref m13, .ref m14, .ref m15, .ref m16, .int m17, .ref m18, .ref m19, .ref m20, .ref m21, .ref m22, .ref m23, .ref m24, .ref m25, .int m26, .int m27, .int 0, .int (m29 + (1 - bI (∀ i : Nat, i < b0 → ldc m0 m7 vt ve sa sb sha shb i))), .int m30, .int 1, .ref m32, .ref m33, .ref m34, .ref m35, .int m36, .ref m37, .int m38, .ref m39, .ref m40, .ref m41, .ref m42, .ref m43])), (m24, .inl (cA 0, 40, .inl stf)), (m25, .inl (cA 0, 40, .inl syf)), (m15, .inl (cA 0, 40, .inl saf)), (m16, .inl (cA 0, 40, .inl sbf)), (m13, .inl (cA 0, 200, .inl laf)), (m14, .inl (cA 0, 200, .inl lbf)), (m32, .inl (cA 0, 40, .inl (scat (fun i => i) vt wtf b0))), (m33, .inl (cA 0, 40, .inl (scat (fun i => i) ve wyf b0))), (m39, .inl (cA 0, 600, .inl kf)), (m40, .inl (cA 2, 600, .inr (.inl (fun i => (xf i).toInt64)))), (m41, .inl (cA 2, 600, .inr (.inl (fun i => (yf i).toInt64)))), (m42, .inl (cA 2, 600, .inr (.inl zf))), (m43, .inl (cA 2, 600, .inr (.inl cf)))] := hD
              refine lv_aload_n hx hb dX8_coin_295 rfl (lv_at hl 0 rfl) ?_
              refine lv_bipush (v := 6) hx hb dX8_coin_296 (by decide) ?_
              refine lv_aload_n hx hb dX8_coin_298 rfl (lv_at hl 0 rfl) ?_
              refine va_get (D := D) (ci := 7) (v := .int m27) (C := RX8) (T := TX8) (N := 44) hx hb hts hin_X8 hown hK hP 0 rfl rfl 27 (by decide) (w_RX8_203) (fun _ h9 => h9) rfl dX8_coin_299 ?_
              refine lv_i2l hx hb dX8_coin_302 rfl ?_
              refine lv_iload_n hx hb dX8_coin_303 rfl (lv_at hl 1 rfl) ?_
              refine lv_i2l hx hb dX8_coin_304 rfl ?_
              refine lv_iload_n hx hb dX8_coin_305 rfl (lv_at hl 2 rfl) ?_
              refine lv_if_eq (tgt := 313) hx hb dX8_coin_306 (by decide) (fun c_306 => ?_) (fun c_306 => ?_)
              · exact absurd c_306 c_283
              · skip
                refine lv_lconst (v := 1) hx hb dX8_coin_309 (by decide) ?_
                refine lv_goto (tgt := 314) hx hb dX8_coin_310 (by decide) ?_
                refine lv_topl (fun w8 e8 => ?_)
                have e9 : w8 = ((bI (∀ i : Nat, i < b0 → ldc m0 m7 vt ve sa sb sha shb i)).toInt64) := (by rw [e8, bI_is1 c_306]; rfl)
                clear e8
                subst e9
                refine wl_call1 (v := .long (dg (dg (dg (dg (cho cf m38 (m38 - 1)) ((6 : Int32).toInt64)) (m27.toInt64)) (v.toInt64)) ((bI (∀ i : Nat, i < b0 → ldc m0 m7 vt ve sa sb sha shb i)).toInt64))) (wc := [(h0, .inr (7, [.int m0, .int m1, .int m2, .int m3, .int m4, .ref m5, .int m6, .int m7, .int m8, .ref m9, .ref m10, .ref m11, .int m12, .ref m13, .ref m14, .ref m15, .ref m16, .int m17, .ref m18, .ref m19, .ref m20, .ref m21, .ref m22, .ref m23, .ref m24, .ref m25, .int m26, .int m27, .int 0, .int (m29 + (1 - bI (∀ i : Nat, i < b0 → ldc m0 m7 vt ve sa sb sha shb i))), .int m30, .int 1, .ref m32, .ref m33, .ref m34, .ref m35, .int m36, .ref m37, .int m38, .ref m39, .ref m40, .ref m41, .ref m42, .ref m43])), (m39, .inl (cA 0, 600, .inl kf)), (m40, .inl (cA 2, 600, .inr (.inl (fun i => (xf i).toInt64)))), (m41, .inl (cA 2, 600, .inr (.inl (fun i => (yf i).toInt64)))), (m42, .inl (cA 2, 600, .inr (.inl zf))), (m43, .inl (cA 2, 600, .inr (.inl cf)))]) (w1 := [(h0, .inr (7, [.int m0, .int m1, .int m2, .int m3, .int m4, .ref m5, .int m6, .int m7, .int m8, .ref m9, .ref m10, .ref m11, .int m12, .ref m13, .ref m14, .ref m15, .ref m16, .int m17, .ref m18, .ref m19, .ref m20, .ref m21, .ref m22, .ref m23, .ref m24, .ref m25, .int m26, .int m27, .int 0, .int (m29 + (1 - bI (∀ i : Nat, i < b0 → ldc m0 m7 vt ve sa sb sha shb i))), .int m30, .int 1, .ref m32, .ref m33, .ref m34, .ref m35, .int m36, .ref m37, .int (m38 + 1), .ref m39, .ref m40, .ref m41, .ref m42, .ref m43])), (m39, .inl (cA 0, 600, .inl (upd kf m38.toNatClampNeg 6))), (m40, .inl (cA 2, 600, .inr (.inl (fun i => ((upd xf m38.toNatClampNeg m27) i).toInt64)))), (m41, .inl (cA 2, 600, .inr (.inl (fun i => ((upd yf m38.toNatClampNeg v) i).toInt64)))), (m42, .inl (cA 2, 600, .inr (.inl (vp_updL zf m38.toNatClampNeg ((bI (∀ i : Nat, i < b0 → ldc m0 m7 vt ve sa sb sha shb i)).toInt64))))), (m43, .inl (cA 2, 600, .inr (.inl (vp_updL cf m38.toNatClampNeg (dg (dg (dg (dg (cho cf m38 (m38 - 1)) ((6 : Int32).toInt64)) (m27.toInt64)) (v.toInt64)) ((bI (∀ i : Nat, i < b0 → ldc m0 m7 vt ve sa sb sha shb i)).toInt64))))))]) (ws' := [(h0, .inr (7, [.int m0, .int m1, .int m2, .int m3, .int m4, .ref m5, .int m6, .int m7, .int m8, .ref m9, .ref m10, .ref m11, .int m12, .ref m13, .ref m14, .ref m15, .ref m16, .int m17, .ref m18, .ref m19, .ref m20, .ref m21, .ref m22, .ref m23, .ref m24, .ref m25, .int m26, .int m27, .int 0, .int (m29 + (1 - bI (∀ i : Nat, i < b0 → ldc m0 m7 vt ve sa sb sha shb i))), .int m30, .int 1, .ref m32, .ref m33, .ref m34, .ref m35, .int m36, .ref m37, .int (m38 + 1), .ref m39, .ref m40, .ref m41, .ref m42, .ref m43])), (m24, .inl (cA 0, 40, .inl stf)), (m25, .inl (cA 0, 40, .inl syf)), (m15, .inl (cA 0, 40, .inl saf)), (m16, .inl (cA 0, 40, .inl sbf)), (m13, .inl (cA 0, 200, .inl laf)), (m14, .inl (cA 0, 200, .inl lbf)), (m32, .inl (cA 0, 40, .inl (scat (fun i => i) vt wtf b0))), (m33, .inl (cA 0, 40, .inl (scat (fun i => i) ve wyf b0))), (m39, .inl (cA 0, 600, .inl (upd kf m38.toNatClampNeg 6))), (m40, .inl (cA 2, 600, .inr (.inl (fun i => ((upd xf m38.toNatClampNeg m27) i).toInt64)))), (m41, .inl (cA 2, 600, .inr (.inl (fun i => ((upd yf m38.toNatClampNeg v) i).toInt64)))), (m42, .inl (cA 2, 600, .inr (.inl (vp_updL zf m38.toNatClampNeg ((bI (∀ i : Nat, i < b0 → ldc m0 m7 vt ve sa sb sha shb i)).toInt64))))), (m43, .inl (cA 2, 600, .inr (.inl (vp_updL cf m38.toNatClampNeg (dg (dg (dg (dg (cho cf m38 (m38 - 1)) ((6 : Int32).toInt64)) (m27.toInt64)) (v.toInt64)) ((bI (∀ i : Nat, i < b0 → ldc m0 m7 vt ve sa sb sha shb i)).toInt64))))))]) (wn_V (As := [.int 6, .long m27.toInt64, .long v.toInt64, .long ((bI (∀ i : Nat, i < b0 → ldc m0 m7 vt ve sa sb sha shb i)).toInt64)]) (rest := []) (ci := 7) (fs := [.int m0, .int m1, .int m2, .int m3, .int m4, .ref m5, .int m6, .int m7, .int m8, .ref m9, .ref m10, .ref m11, .int m12, .ref m13, .ref m14, .ref m15, .ref m16, .int m17, .ref m18, .ref m19, .ref m20, .ref m21, .ref m22, .ref m23, .ref m24, .ref m25, .int m26, .int m27, .int 0, .int (m29 + (1 - bI (∀ i : Nat, i < b0 → ldc m0 m7 vt ve sa sb sha shb i))), .int m30, .int 1, .ref m32, .ref m33, .ref m34, .ref m35, .int m36, .ref m37, .int m38, .ref m39, .ref m40, .ref m41, .ref m42, .ref m43]) ⟨hx, hb, hml, hown, hts⟩ (c_X8_enter l D cA h0 m0 m1 m2 m3 m4 m5 m6 m7 m8 m9 m10 m11 m12 m13 m14 m15 m16 m17 m18 m19 m20 m21 m22 m23 m24 m25 m26 m27 0 (m29 + (1 - bI (∀ i : Nat, i < b0 → ldc m0 m7 vt ve sa sb sha shb i))) m30 1 m32 m33 m34 m35 m36 m37 m38 m39 m40 m41 m42 m43 kf xf yf zf cf 6 m27 v ((bI (∀ i : Nat, i < b0 → ldc m0 m7 vt ve sa sb sha shb i)).toInt64) n0 hbn h6) rfl (cwV 4 hts gX8_coin_X8_enter rfl rfl rfl (by decide +kernel) ⟨Nat.le_of_ble_eq_true rfl, Nat.le_of_ble_eq_true rfl⟩) hK hP hD [0, 9, 10, 11, 12, 13] rfl (by decide) rfl rfl rfl hl.1 rfl (Nat.le_of_ble_eq_true rfl) dX8_coin_314 ⟨Nat.le_of_ble_eq_true rfl, Nat.le_of_ble_eq_true rfl⟩) hP hD hS [0, 9, 10, 11, 12, 13] [1, 2, 3, 4, 5, 6, 7, 8] rfl rfl (wr := [(m24, .inl (cA 0, 40, .inl stf)), (m25, .inl (cA 0, 40, .inl syf)), (m15, .inl (cA 0, 40, .inl saf)), (m16, .inl (cA 0, 40, .inl sbf)), (m13, .inl (cA 0, 200, .inl laf)), (m14, .inl (cA 0, 200, .inl lbf)), (m32, .inl (cA 0, 40, .inl (scat (fun i => i) vt wtf b0))), (m33, .inl (cA 0, 40, .inl (scat (fun i => i) ve wyf b0)))]) rfl rfl (ads := [h0, m24, m25, m15, m16, m13, m14, m32, m33, m39, m40, m41, m42, m43]) rfl rfl (adc := [h0, m39, m40, m41, m42, m43]) rfl rfl rfl (fun H locs hP hD hS => ?_)
                refine lv_lstore_n (lv' := [(3, .long (dg (dg (dg (dg (cho cf m38 (m38 - 1)) ((6 : Int32).toInt64)) (m27.toInt64)) (v.toInt64)) ((bI (∀ i : Nat, i < b0 → ldc m0 m7 vt ve sa sb sha shb i)).toInt64))), (0, .ref h0), (1, .int v), (2, .int (bI (∀ i : Nat, i < b0 → ldc m0 m7 vt ve sa sb sha shb i)))]) hx hb dX8_coin_317 rfl hl (by decide) rfl (fun ls hl => ?_)
                refine lv_iload_n hx hb dX8_coin_318 rfl (lv_at hl 3 rfl) ?_
                refine lv_if_eq (tgt := 326) hx hb dX8_coin_319 (by decide) (fun c_319 => ?_) (fun c_319 => ?_)
                · exact absurd c_319 c_283
                · skip
                  refine lv_iconst (v := 1) hx hb dX8_coin_322 (by decide) ?_
                  refine lv_goto (tgt := 327) hx hb dX8_coin_323 (by decide) ?_
                  refine lv_topi (fun w8 e8 => ?_)
                  have e9 : w8 = (bI (∀ i : Nat, i < b0 → ldc m0 m7 vt ve sa sb sha shb i)) := (by rw [e8, bI_is1 c_319])
                  clear e8
                  subst e9
                  have hP9 : va_P D vwCl [(h0, .inr (7, [.int m0, .int m1, .int m2, .int m3, .int m4, .ref m5, .int m6, .int m7, .int m8, .ref m9, .ref m10, .ref m11, .int m12, .ref m13, .ref m14, .ref m15, .ref m16, .int m17, .ref m18, .ref m19, .ref m20, .ref m21, .ref m22, .ref m23, .ref m24, .ref m25, .int m26, .int m27, .int 0, .int (m29 + (1 - bI (∀ i : Nat, i < b0 → ldc m0 m7 vt ve sa sb sha shb i))), .int m30, .int 1, .ref m32, .ref m33, .ref m34, .ref m35, .int m36, .ref m37, .int (m38 + 1), .ref m39, .ref m40, .ref m41, .ref m42, .ref m43])), (m24, .inl (cA 0, 40, .inl stf)), (m25, .inl (cA 0, 40, .inl syf)), (m15, .inl (cA 0, 40, .inl saf)), (m16, .inl (cA 0, 40, .inl sbf)), (m13, .inl (cA 0, 200, .inl laf)), (m14, .inl (cA 0, 200, .inl lbf)), (m32, .inl (cA 0, 40, .inl (scat (fun i => i) vt wtf b0))), (m33, .inl (cA 0, 40, .inl (scat (fun i => i) ve wyf b0))), (m39, .inl (cA 0, 600, .inl (upd kf m38.toNatClampNeg 6))), (m40, .inl (cA 2, 600, .inr (.inl (fun i => ((upd xf m38.toNatClampNeg m27) i).toInt64)))), (m41, .inl (cA 2, 600, .inr (.inl (fun i => ((upd yf m38.toNatClampNeg v) i).toInt64)))), (m42, .inl (cA 2, 600, .inr (.inl (vp_updL zf m38.toNatClampNeg ((bI (∀ i : Nat, i < b0 → ldc m0 m7 vt ve sa sb sha shb i)).toInt64))))), (m43, .inl (cA 2, 600, .inr (.inl (vp_updL cf m38.toNatClampNeg (dg (dg (dg (dg (cho cf m38 (m38 - 1)) ((6 : Int32).toInt64)) (m27.toInt64)) (v.toInt64)) ((bI (∀ i : Nat, i < b0 → ldc m0 m7 vt ve sa sb sha shb i)).toInt64))))))] H := hP
                  exact W.iret (v := (bI (∀ i : Nat, i < b0 → ldc m0 m7 vt ve sa sb sha shb i))) hx hb hr (fun t ht hW => ⟨congrArg (fun z => Outcome.returned (some (Value.int z))) (rfl), by rw [ht]; exact hP9, hS.F ht⟩) hS.2.2 dX8_coin_327
          · skip
            refine lv_aload_n hx hb dX8_coin_30 rfl (lv_at hl 0 rfl) ?_
            refine va_get (D := D) (ci := 7) (v := .ref m24) (C := RX8) (T := TX8) (N := 44) hx hb hts hin_X8 hown hK hP 0 rfl rfl 24 (by decide) (w_RX8_53) (fun _ h9 => h9) rfl dX8_coin_31 ?_
            refine lv_iload_n hx hb dX8_coin_34 rfl (lv_at hl 3 rfl) ?_
            refine va_iald hx hb hK hP 1 0 rfl rfl (by rw [hz]; exact vp_in_nI (by have := lp_lt hz hnb (by omega) h2 c_27; omega) (by omega)) dX8_coin_35 ?_
            rw [mx_by hz (by have := lp_lt hz hnb (by omega) h2 c_27; omega) (hst k (lp_lt hz hnb (by omega) h2 c_27)).1]
            refine lv_istore (lv' := [(4, .int (vt k)), (0, .ref h0), (1, .int v), (2, .int gd), (3, .int z)]) hx hb dX8_coin_36 hl (by decide) rfl (fun ls hl => ?_)
            refine lv_iload_n hx hb dX8_coin_38 rfl (lv_at hl 2 rfl) ?_
            refine lv_if_ne (tgt := 129) hx hb dX8_coin_39 (by decide) (fun c_39 => ?_) (fun c_39 => ?_)
            · exact absurd hv c_39
            · skip
              refine lv_aload_n hx hb dX8_coin_42 rfl (lv_at hl 1 rfl) ?_
              refine va_get (D := D) (ci := 7) (v := .ref m32) (C := RX8) (T := TX8) (N := 44) hx hb hts hin_X8 hown hK hP 0 rfl rfl 32 (by decide) (w_RX8_59) (fun _ h9 => h9) rfl dX8_coin_43 ?_
              refine lv_iload_n hx hb dX8_coin_46 rfl (lv_at hl 4 rfl) ?_
              refine lv_iload hx hb dX8_coin_47 (lv_at hl 0 rfl) ?_
              refine va_iast hx hb hK hP hD hS 7 0 rfl rfl (by rw [hz]; exact vp_in_nI (by have := lp_lt hz hnb (by omega) h2 c_27; omega) (by omega)) dX8_coin_49 (fun H locs hP hD hS => ?_)
              have hP : va_P D vwCl [(h0, .inr (7, [.int m0, .int m1, .int m2, .int m3, .int m4, .ref m5, .int m6, .int m7, .int m8, .ref m9, .ref m10, .ref m11, .int m12, .ref m13, .ref m14, .ref m15, .ref m16, .int m17, .ref m18, .ref m19, .ref m20, .ref m21, .ref m22, .ref m23, .ref m24, .ref m25, .int m26, .int m27, .int m28, .int m29, .int m30, .int m31, .ref m32, .ref m33, .ref m34, .ref m35, .int m36, .ref m37, .int m38, .ref m39, .ref m40, .ref m41, .ref m42, .ref m43])), (m24, .inl (cA 0, 40, .inl stf)), (m25, .inl (cA 0, 40, .inl syf)), (m15, .inl (cA 0, 40, .inl saf)), (m16, .inl (cA 0, 40, .inl sbf)), (m13, .inl (cA 0, 200, .inl laf)), (m14, .inl (cA 0, 200, .inl lbf)), (m32, .inl (cA 0, 40, .inl (upd (scat (fun i => i) vt wtf k) z.toNatClampNeg (vt k)))), (m33, .inl (cA 0, 40, .inl (scat (fun i => i) ve wyf k))), (m39, .inl (cA 0, 600, .inl kf)), (m40, .inl (cA 2, 600, .inr (.inl (fun i => (xf i).toInt64)))), (m41, .inl (cA 2, 600, .inr (.inl (fun i => (yf i).toInt64)))), (m42, .inl (cA 2, 600, .inr (.inl zf))), (m43, .inl (cA 2, 600, .inr (.inl cf)))] H := hP
              have hD : va_D A [(h0, .inr (7, [.int m0, .int m1, .int m2, .int m3, .int m4, .ref m5, .int m6, .int m7, .int m8, .ref m9, .ref m10, .ref m11, .int m12, .ref m13, .ref m14, .ref m15, .ref m16, .int m17, .ref m18, .ref m19, .ref m20, .ref m21, .ref m22, .ref m23, .ref m24, .ref m25, .int m26, .int m27, .int m28, .int m29, .int m30, .int m31, .ref m32, .ref m33, .ref m34, .ref m35, .int m36, .ref m37, .int m38, .ref m39, .ref m40, .ref m41, .ref m42, .ref m43])), (m24, .inl (cA 0, 40, .inl stf)), (m25, .inl (cA 0, 40, .inl syf)), (m15, .inl (cA 0, 40, .inl saf)), (m16, .inl (cA 0, 40, .inl sbf)), (m13, .inl (cA 0, 200, .inl laf)), (m14, .inl (cA 0, 200, .inl lbf)), (m32, .inl (cA 0, 40, .inl (upd (scat (fun i => i) vt wtf k) z.toNatClampNeg (vt k)))), (m33, .inl (cA 0, 40, .inl (scat (fun i => i) ve wyf k))), (m39, .inl (cA 0, 600, .inl kf)), (m40, .inl (cA 2, 600, .inr (.inl (fun i => (xf i).toInt64)))), (m41, .inl (cA 2, 600, .inr (.inl (fun i => (yf i).toInt64)))), (m42, .inl (cA 2, 600, .inr (.inl zf))), (m43, .inl (cA 2, 600, .inr (.inl cf)))] := hD
              refine lv_aload_n hx hb dX8_coin_50 rfl (lv_at hl 1 rfl) ?_
              refine va_get (D := D) (ci := 7) (v := .ref m33) (C := RX8) (T := TX8) (N := 44) hx hb hts hin_X8 hown hK hP 0 rfl rfl 33 (by decide) (w_RX8_62) (fun _ h9 => h9) rfl dX8_coin_51 ?_
              refine lv_iload_n hx hb dX8_coin_54 rfl (lv_at hl 4 rfl) ?_
              refine lv_aload_n hx hb dX8_coin_55 rfl (lv_at hl 1 rfl) ?_
              refine va_get (D := D) (ci := 7) (v := .ref m25) (C := RX8) (T := TX8) (N := 44) hx hb hts hin_X8 hown hK hP 0 rfl rfl 25 (by decide) (w_RX8_56) (fun _ h9 => h9) rfl dX8_coin_56 ?_
              refine lv_iload_n hx hb dX8_coin_59 rfl (lv_at hl 4 rfl) ?_
              refine va_iald hx hb hK hP 2 0 rfl rfl (by rw [hz]; exact vp_in_nI (by have := lp_lt hz hnb (by omega) h2 c_27; omega) (by omega)) dX8_coin_60 ?_
              rw [mx_by hz (by have := lp_lt hz hnb (by omega) h2 c_27; omega) (hst k (lp_lt hz hnb (by omega) h2 c_27)).2]
              refine va_iast hx hb hK hP hD hS 8 0 rfl rfl (by rw [hz]; exact vp_in_nI (by have := lp_lt hz hnb (by omega) h2 c_27; omega) (by omega)) dX8_coin_61 (fun H locs hP hD hS => ?_)
              have hP : va_P D vwCl [(h0, .inr (7, [.int m0, .int m1, .int m2, .int m3, .int m4, .ref m5, .int m6, .int m7, .int m8, .ref m9, .ref m10, .ref m11, .int m12, .ref m13, .ref m14, .ref m15, .ref m16, .int m17, .ref m18, .ref m19, .ref m20, .ref m21, .ref m22, .ref m23, .ref m24, .ref m25, .int m26, .int m27, .int m28, .int m29, .int m30, .int m31, .ref m32, .ref m33, .ref m34, .ref m35, .int m36, .ref m37, .int m38, .ref m39, .ref m40, .ref m41, .ref m42, .ref m43])), (m24, .inl (cA 0, 40, .inl stf)), (m25, .inl (cA 0, 40, .inl syf)), (m15, .inl (cA 0, 40, .inl saf)), (m16, .inl (cA 0, 40, .inl sbf)), (m13, .inl (cA 0, 200, .inl laf)), (m14, .inl (cA 0, 200, .inl lbf)), (m32, .inl (cA 0, 40, .inl (upd (scat (fun i => i) vt wtf k) z.toNatClampNeg (vt k)))), (m33, .inl (cA 0, 40, .inl (upd (scat (fun i => i) ve wyf k) z.toNatClampNeg (ve k)))), (m39, .inl (cA 0, 600, .inl kf)), (m40, .inl (cA 2, 600, .inr (.inl (fun i => (xf i).toInt64)))), (m41, .inl (cA 2, 600, .inr (.inl (fun i => (yf i).toInt64)))), (m42, .inl (cA 2, 600, .inr (.inl zf))), (m43, .inl (cA 2, 600, .inr (.inl cf)))] H := hP
              have hD : va_D A [(h0, .inr (7, [.int m0, .int m1, .int m2, .int m3, .int m4, .ref m5, .int m6, .int m7, .int m8, .ref m9, .ref m10, .ref m11, .int m12, .ref m13, .ref m14, .ref m15, .ref m16, .int m17, .ref m18, .ref m19, .ref m20, .ref m21, .ref m22, .ref m23, .ref m24, .ref m25, .int m26, .int m27, .int m28, .int m29, .int m30, .int m31, .ref m32, .ref m33, .ref m34, .ref m35, .int m36, .ref m37, .int m38, .ref m39, .ref m40, .ref m41, .ref m42, .ref m43])), (m24, .inl (cA 0, 40, .inl stf)), (m25, .inl (cA 0, 40, .inl syf)), (m15, .inl (cA 0, 40, .inl saf)), (m16, .inl (cA 0, 40, .inl sbf)), (m13, .inl (cA 0, 200, .inl laf)), (m14, .inl (cA 0, 200, .inl lbf)), (m32, .inl (cA 0, 40, .inl (upd (scat (fun i => i) vt wtf k) z.toNatClampNeg (vt k)))), (m33, .inl (cA 0, 40, .inl (upd (scat (fun i => i) ve wyf k) z.toNatClampNeg (ve k)))), (m39, .inl (cA 0, 600, .inl kf)), (m40, .inl (cA 2, 600, .inr (.inl (fun i => (xf i).toInt64)))), (m41, .inl (cA 2, 600, .inr (.inl (fun i => (yf i).toInt64)))), (m42, .inl (cA 2, 600, .inr (.inl zf))), (m43, .inl (cA 2, 600, .inr (.inl cf)))] := hD
              refine lv_iload_n hx hb dX8_coin_62 rfl (lv_at hl 3 rfl) ?_
              refine lv_if_eq (tgt := 124) hx hb dX8_coin_63 (by decide) (fun c_63 => ?_) (fun c_63 => ?_)
              · skip
                refine lv_iconst (v := 0) hx hb dX8_coin_124 (by decide) ?_
                refine lv_topi (fun w8 e8 => ?_)
                have e9 : w8 = (bI (∀ i : Nat, i < (k + 1) → ldc m0 m7 vt ve sa sb sha shb i)) := (by rw [e8]; exact bI_f (fun h => bI_0 (hg.symm.trans c_63) (fun i hi => h i (by omega))))
                clear e8
                subst e9
                refine lv_istore_n (lv' := [(2, .int (bI (∀ i : Nat, i < (k + 1) → ldc m0 m7 vt ve sa sb sha shb i))), (4, .int (vt k)), (0, .ref h0), (1, .int v), (3, .int z)]) hx hb dX8_coin_125 rfl hl (by decide) rfl (fun ls hl => ?_)
                refine lv_goto (tgt := 261) hx hb dX8_coin_126 (by decide) ?_
                refine lv_iinc (v := (z + 1)) (lv' := [(3, .int (z + 1)), (2, .int (bI (∀ i : Nat, i < (k + 1) → ldc m0 m7 vt ve sa sb sha shb i))), (4, .int (vt k)), (0, .ref h0), (1, .int v)]) hx hb dX8_coin_261 hl (k := 4) rfl rfl (by decide) rfl (fun ls hl => ?_)
                refine lv_goto (tgt := 22) hx hb dX8_coin_264 (by decide) ?_
                have hk := lp_lt hz hnb (by omega) h2 c_27
                have e9 : (upd (scat (fun i => i) vt wtf k) z.toNatClampNeg (vt k)) = (scat (fun i => i) vt wtf (k + 1)) := scat_s (i8_k hz (by omega)) rfl
                have hP := va_P.arr (g' := (scat (fun i => i) vt wtf (k + 1))) hP 7 rfl (fun j _ => congrFun e9 j)
                have hD := va_D.arr (g' := (scat (fun i => i) vt wtf (k + 1))) hD 7 rfl
                clear e9
                have e9 : (upd (scat (fun i => i) ve wyf k) z.toNatClampNeg (ve k)) = (scat (fun i => i) ve wyf (k + 1)) := scat_s (i8_k hz (by omega)) rfl
                have hP := va_P.arr (g' := (scat (fun i => i) ve wyf (k + 1))) hP 8 rfl (fun j _ => congrFun e9 j)
                have hD := va_D.arr (g' := (scat (fun i => i) ve wyf (k + 1))) hD 8 rfl
                clear e9
                have hP : va_P D vwCl [(h0, .inr (7, [.int m0, .int m1, .int m2, .int m3, .int m4, .ref m5, .int m6, .int m7, .int m8, .ref m9, .ref m10, .ref m11, .int m12, .ref m13, .ref m14, .ref m15, .ref m16, .int m17, .ref m18, .ref m19, .ref m20, .ref m21, .ref m22, .ref m23, .ref m24, .ref m25, .int m26, .int m27, .int m28, .int m29, .int m30, .int m31, .ref m32, .ref m33, .ref m34, .ref m35, .int m36, .ref m37, .int m38, .ref m39, .ref m40, .ref m41, .ref m42, .ref m43])), (m24, .inl (cA 0, 40, .inl stf)), (m25, .inl (cA 0, 40, .inl syf)), (m15, .inl (cA 0, 40, .inl saf)), (m16, .inl (cA 0, 40, .inl sbf)), (m13, .inl (cA 0, 200, .inl laf)), (m14, .inl (cA 0, 200, .inl lbf)), (m32, .inl (cA 0, 40, .inl (scat (fun i => i) vt wtf (k + 1)))), (m33, .inl (cA 0, 40, .inl (scat (fun i => i) ve wyf (k + 1)))), (m39, .inl (cA 0, 600, .inl kf)), (m40, .inl (cA 2, 600, .inr (.inl (fun i => (xf i).toInt64)))), (m41, .inl (cA 2, 600, .inr (.inl (fun i => (yf i).toInt64)))), (m42, .inl (cA 2, 600, .inr (.inl zf))), (m43, .inl (cA 2, 600, .inr (.inl cf)))] H := hP
                have hD : va_D A [(h0, .inr (7, [.int m0, .int m1, .int m2, .int m3, .int m4, .ref m5, .int m6, .int m7, .int m8, .ref m9, .ref m10, .ref m11, .int m12, .ref m13, .ref m14, .ref m15, .ref m16, .int m17, .ref m18, .ref m19, .ref m20, .ref m21, .ref m22, .ref m23, .ref m24, .ref m25, .int m26, .int m27, .int m28, .int m29, .int m30, .int m31, .ref m32, .ref m33, .ref m34, .ref m35, .int m36, .ref m37, .int m38, .ref m39, .ref m40, .ref m41, .ref m42, .ref m43])), (m24, .inl (cA 0, 40, .inl stf)), (m25, .inl (cA 0, 40, .inl syf)), (m15, .inl (cA 0, 40, .inl saf)), (m16, .inl (cA 0, 40, .inl sbf)), (m13, .inl (cA 0, 200, .inl laf)), (m14, .inl (cA 0, 200, .inl lbf)), (m32, .inl (cA 0, 40, .inl (scat (fun i => i) vt wtf (k + 1)))), (m33, .inl (cA 0, 40, .inl (scat (fun i => i) ve wyf (k + 1)))), (m39, .inl (cA 0, 600, .inl kf)), (m40, .inl (cA 2, 600, .inr (.inl (fun i => (xf i).toInt64)))), (m41, .inl (cA 2, 600, .inr (.inl (fun i => (yf i).toInt64)))), (m42, .inl (cA 2, 600, .inr (.inl zf))), (m43, .inl (cA 2, 600, .inr (.inl cf)))] := hD
                exact ih (k + 1) (z + 1) _ (st_1 hz) (by omega) (by omega) rfl _ _ hP hD hS ls (lv_sub hl [3, 4, 1, 0] rfl)
              · skip
                refine lv_aload_n hx hb dX8_coin_66 rfl (lv_at hl 1 rfl) ?_
                refine va_get (D := D) (ci := 7) (v := .ref m15) (C := RX8) (T := TX8) (N := 44) hx hb hts hin_X8 hown hK hP 0 rfl rfl 15 (by decide) (w_RX8_29) (fun _ h9 => h9) rfl dX8_coin_67 ?_
                refine lv_iload hx hb dX8_coin_70 (lv_at hl 0 rfl) ?_
                refine va_iald hx hb hK hP 3 0 rfl rfl (by rw [(hmv k (lp_lt hz hnb (by omega) h2 c_27)).1]; exact vp_in_nI (Nat.lt_of_lt_of_le (hmv k (lp_lt hz hnb (by omega) h2 c_27)).2.1 hb4) (by omega)) dX8_coin_72 ?_
                rw [(hsh (nt vt k) (hmv k (lp_lt hz hnb (by omega) h2 c_27)).2.1).1]
                refine lv_aload_n hx hb dX8_coin_73 rfl (lv_at hl 1 rfl) ?_
                refine lv_aload_n hx hb dX8_coin_74 rfl (lv_at hl 1 rfl) ?_
                refine va_get (D := D) (ci := 7) (v := .int m26) (C := RX8) (T := TX8) (N := 44) hx hb hts hin_X8 hown hK hP 0 rfl rfl 26 (by decide) (w_RX8_191) (fun _ h9 => h9) rfl dX8_coin_75 ?_
                refine lv_iconst (v := 1) hx hb dX8_coin_78 (by decide) ?_
                refine lv_isub hx hb dX8_coin_79 ?_
                refine lv_iload_n hx hb dX8_coin_80 rfl (lv_at hl 4 rfl) ?_
                refine lv_aload_n hx hb dX8_coin_81 rfl (lv_at hl 1 rfl) ?_
                refine va_get (D := D) (ci := 7) (v := .ref m25) (C := RX8) (T := TX8) (N := 44) hx hb hts hin_X8 hown hK hP 0 rfl rfl 25 (by decide) (w_RX8_56) (fun _ h9 => h9) rfl dX8_coin_82 ?_
                refine lv_iload_n hx hb dX8_coin_85 rfl (lv_at hl 4 rfl) ?_
                refine va_iald hx hb hK hP 2 0 rfl rfl (by rw [hz]; exact vp_in_nI (by have := lp_lt hz hnb (by omega) h2 c_27; omega) (by omega)) dX8_coin_86 ?_
                rw [mx_by hz (by have := lp_lt hz hnb (by omega) h2 c_27; omega) (hst k (lp_lt hz hnb (by omega) h2 c_27)).2]
                refine rq_call1 (v := .int (tm m0 (laf (40 * mx0 + k)) (pw m0 32 (nt ve k) 1 4))) (rn_V (As := [.int (m26 - 1), .int z, .int (ve k)]) (rest := [.int (sha (nt vt k))]) (ci := 7) (fs := [.int m0, .int m1, .int m2, .int m3, .int m4, .ref m5, .int m6, .int m7, .int m8, .ref m9, .ref m10, .ref m11, .int m12, .ref m13, .ref m14, .ref m15, .ref m16, .int m17, .ref m18, .ref m19, .ref m20, .ref m21, .ref m22, .ref m23, .ref m24, .ref m25, .int m26, .int m27, .int m28, .int m29, .int m30, .int m31, .ref m32, .ref m33, .ref m34, .ref m35, .int m36, .ref m37, .int m38, .ref m39, .ref m40, .ref m41, .ref m42, .ref m43]) ⟨hx, hb, hml, hown, hts⟩ (c_X8_anewA l D cA h0 m0 m1 m2 m3 m4 m5 m6 m7 m8 m9 m10 m11 m12 m13 m14 m15 m16 m17 m18 m19 m20 m21 m22 m23 m24 m25 m26 m27 m28 m29 m30 m31 m32 m33 m34 m35 m36 m37 m38 m39 m40 m41 m42 m43 (m26 - 1) z (ve k) mx0 k (nt ve k) laf (by rw [hmx]; exact nI_pred mx0) (by omega) hz (by have := lp_lt hz hnb (by omega) h2 c_27; omega) (hmv k (lp_lt hz hnb (by omega) h2 c_27)).2.2 (nn_lt _) (iv_p hgp hp1.1 hp1.2)) rfl (cwV 3 hts gX8_coin_X8_anewA rfl rfl rfl (by decide +kernel) ⟨Nat.le_of_ble_eq_true rfl, Nat.le_of_ble_eq_true rfl⟩) hK hP [0, 5] rfl rfl rfl hl.1 rfl (Nat.le_of_ble_eq_true rfl) dX8_coin_87 ⟨Nat.le_of_ble_eq_true rfl, Nat.le_of_ble_eq_true rfl⟩) ?_
                rw [(hsa k (lp_lt hz hnb (by omega) h2 c_27)).1]
                refine lv_icmp_ne (tgt := 124) hx hb dX8_coin_90 (by decide) (fun c_90 => ?_) (fun c_90 => ?_)
                · skip
                  refine lv_iconst (v := 0) hx hb dX8_coin_124 (by decide) ?_
                  refine lv_topi (fun w8 e8 => ?_)
                  have e9 : w8 = (bI (∀ i : Nat, i < (k + 1) → ldc m0 m7 vt ve sa sb sha shb i)) := (by rw [e8]; exact bI_f (fun h => c_90 (h k (by omega)).1.symm))
                  clear e8
                  subst e9
                  refine lv_istore_n (lv' := [(2, .int (bI (∀ i : Nat, i < (k + 1) → ldc m0 m7 vt ve sa sb sha shb i))), (4, .int (vt k)), (0, .ref h0), (1, .int v), (3, .int z)]) hx hb dX8_coin_125 rfl hl (by decide) rfl (fun ls hl => ?_)
                  refine lv_goto (tgt := 261) hx hb dX8_coin_126 (by decide) ?_
                  refine lv_iinc (v := (z + 1)) (lv' := [(3, .int (z + 1)), (2, .int (bI (∀ i : Nat, i < (k + 1) → ldc m0 m7 vt ve sa sb sha shb i))), (4, .int (vt k)), (0, .ref h0), (1, .int v)]) hx hb dX8_coin_261 hl (k := 4) rfl rfl (by decide) rfl (fun ls hl => ?_)
                  refine lv_goto (tgt := 22) hx hb dX8_coin_264 (by decide) ?_
                  have hk := lp_lt hz hnb (by omega) h2 c_27
                  have e9 : (upd (scat (fun i => i) vt wtf k) z.toNatClampNeg (vt k)) = (scat (fun i => i) vt wtf (k + 1)) := scat_s (i8_k hz (by omega)) rfl
                  have hP := va_P.arr (g' := (scat (fun i => i) vt wtf (k + 1))) hP 7 rfl (fun j _ => congrFun e9 j)
                  have hD := va_D.arr (g' := (scat (fun i => i) vt wtf (k + 1))) hD 7 rfl
                  clear e9
                  have e9 : (upd (scat (fun i => i) ve wyf k) z.toNatClampNeg (ve k)) = (scat (fun i => i) ve wyf (k + 1)) := scat_s (i8_k hz (by omega)) rfl
                  have hP := va_P.arr (g' := (scat (fun i => i) ve wyf (k + 1))) hP 8 rfl (fun j _ => congrFun e9 j)
                  have hD := va_D.arr (g' := (scat (fun i => i) ve wyf (k + 1))) hD 8 rfl
                  clear e9
                  have hP : va_P D vwCl [(h0, .inr (7, [.int m0, .int m1, .int m2, .int m3, .int m4, .ref m5, .int m6, .int m7, .int m8, .ref m9, .ref m10, .ref m11, .int m12, .ref m13, .ref m14, .ref m15, .ref m16, .int m17, .ref m18, .ref m19, .ref m20, .ref m21, .ref m22, .ref m23, .ref m24, .ref m25, .int m26, .int m27, .int m28, .int m29, .int m30, .int m31, .ref m32, .ref m33, .ref m34, .ref m35, .int m36, .ref m37, .int m38, .ref m39, .ref m40, .ref m41, .ref m42, .ref m43])), (m24, .inl (cA 0, 40, .inl stf)), (m25, .inl (cA 0, 40, .inl syf)), (m15, .inl (cA 0, 40, .inl saf)), (m16, .inl (cA 0, 40, .inl sbf)), (m13, .inl (cA 0, 200, .inl laf)), (m14, .inl (cA 0, 200, .inl lbf)), (m32, .inl (cA 0, 40, .inl (scat (fun i => i) vt wtf (k + 1)))), (m33, .inl (cA 0, 40, .inl (scat (fun i => i) ve wyf (k + 1)))), (m39, .inl (cA 0, 600, .inl kf)), (m40, .inl (cA 2, 600, .inr (.inl (fun i => (xf i).toInt64)))), (m41, .inl (cA 2, 600, .inr (.inl (fun i => (yf i).toInt64)))), (m42, .inl (cA 2, 600, .inr (.inl zf))), (m43, .inl (cA 2, 600, .inr (.inl cf)))] H := hP
                  have hD : va_D A [(h0, .inr (7, [.int m0, .int m1, .int m2, .int m3, .int m4, .ref m5, .int m6, .int m7, .int m8, .ref m9, .ref m10, .ref m11, .int m12, .ref m13, .ref m14, .ref m15, .ref m16, .int m17, .ref m18, .ref m19, .ref m20, .ref m21, .ref m22, .ref m23, .ref m24, .ref m25, .int m26, .int m27, .int m28, .int m29, .int m30, .int m31, .ref m32, .ref m33, .ref m34, .ref m35, .int m36, .ref m37, .int m38, .ref m39, .ref m40, .ref m41, .ref m42, .ref m43])), (m24, .inl (cA 0, 40, .inl stf)), (m25, .inl (cA 0, 40, .inl syf)), (m15, .inl (cA 0, 40, .inl saf)), (m16, .inl (cA 0, 40, .inl sbf)), (m13, .inl (cA 0, 200, .inl laf)), (m14, .inl (cA 0, 200, .inl lbf)), (m32, .inl (cA 0, 40, .inl (scat (fun i => i) vt wtf (k + 1)))), (m33, .inl (cA 0, 40, .inl (scat (fun i => i) ve wyf (k + 1)))), (m39, .inl (cA 0, 600, .inl kf)), (m40, .inl (cA 2, 600, .inr (.inl (fun i => (xf i).toInt64)))), (m41, .inl (cA 2, 600, .inr (.inl (fun i => (yf i).toInt64)))), (m42, .inl (cA 2, 600, .inr (.inl zf))), (m43, .inl (cA 2, 600, .inr (.inl cf)))] := hD
                  exact ih (k + 1) (z + 1) _ (st_1 hz) (by omega) (by omega) rfl _ _ hP hD hS ls (lv_sub hl [3, 4, 1, 0] rfl)
                · skip
                  refine lv_aload_n hx hb dX8_coin_93 rfl (lv_at hl 1 rfl) ?_
                  refine va_get (D := D) (ci := 7) (v := .ref m16) (C := RX8) (T := TX8) (N := 44) hx hb hts hin_X8 hown hK hP 0 rfl rfl 16 (by decide) (w_RX8_32) (fun _ h9 => h9) rfl dX8_coin_94 ?_
                  refine lv_iload hx hb dX8_coin_97 (lv_at hl 0 rfl) ?_
                  refine va_iald hx hb hK hP 4 0 rfl rfl (by rw [(hmv k (lp_lt hz hnb (by omega) h2 c_27)).1]; exact vp_in_nI (Nat.lt_of_lt_of_le (hmv k (lp_lt hz hnb (by omega) h2 c_27)).2.1 hb4) (by omega)) dX8_coin_99 ?_
                  rw [(hsh (nt vt k) (hmv k (lp_lt hz hnb (by omega) h2 c_27)).2.1).2]
                  refine lv_aload_n hx hb dX8_coin_100 rfl (lv_at hl 1 rfl) ?_
                  refine lv_aload_n hx hb dX8_coin_101 rfl (lv_at hl 1 rfl) ?_
                  refine va_get (D := D) (ci := 7) (v := .int m26) (C := RX8) (T := TX8) (N := 44) hx hb hts hin_X8 hown hK hP 0 rfl rfl 26 (by decide) (w_RX8_191) (fun _ h9 => h9) rfl dX8_coin_102 ?_
                  refine lv_iconst (v := 1) hx hb dX8_coin_105 (by decide) ?_
                  refine lv_isub hx hb dX8_coin_106 ?_
                  refine lv_iload_n hx hb dX8_coin_107 rfl (lv_at hl 4 rfl) ?_
                  refine lv_aload_n hx hb dX8_coin_108 rfl (lv_at hl 1 rfl) ?_
                  refine va_get (D := D) (ci := 7) (v := .ref m25) (C := RX8) (T := TX8) (N := 44) hx hb hts hin_X8 hown hK hP 0 rfl rfl 25 (by decide) (w_RX8_56) (fun _ h9 => h9) rfl dX8_coin_109 ?_
                  refine lv_iload_n hx hb dX8_coin_112 rfl (lv_at hl 4 rfl) ?_
                  refine va_iald hx hb hK hP 2 0 rfl rfl (by rw [hz]; exact vp_in_nI (by have := lp_lt hz hnb (by omega) h2 c_27; omega) (by omega)) dX8_coin_113 ?_
                  rw [mx_by hz (by have := lp_lt hz hnb (by omega) h2 c_27; omega) (hst k (lp_lt hz hnb (by omega) h2 c_27)).2]
                  refine rq_call1 (v := .int (tm m0 (lbf (40 * mx0 + k)) (pw m0 32 (nt ve k) 1 m7))) (rn_V (As := [.int (m26 - 1), .int z, .int (ve k)]) (rest := [.int (shb (nt vt k))]) (ci := 7) (fs := [.int m0, .int m1, .int m2, .int m3, .int m4, .ref m5, .int m6, .int m7, .int m8, .ref m9, .ref m10, .ref m11, .int m12, .ref m13, .ref m14, .ref m15, .ref m16, .int m17, .ref m18, .ref m19, .ref m20, .ref m21, .ref m22, .ref m23, .ref m24, .ref m25, .int m26, .int m27, .int m28, .int m29, .int m30, .int m31, .ref m32, .ref m33, .ref m34, .ref m35, .int m36, .ref m37, .int m38, .ref m39, .ref m40, .ref m41, .ref m42, .ref m43]) ⟨hx, hb, hml, hown, hts⟩ (c_X8_anewB l D cA h0 m0 m1 m2 m3 m4 m5 m6 m7 m8 m9 m10 m11 m12 m13 m14 m15 m16 m17 m18 m19 m20 m21 m22 m23 m24 m25 m26 m27 m28 m29 m30 m31 m32 m33 m34 m35 m36 m37 m38 m39 m40 m41 m42 m43 (m26 - 1) z (ve k) mx0 k (nt ve k) lbf (by rw [hmx]; exact nI_pred mx0) (by omega) hz (by have := lp_lt hz hnb (by omega) h2 c_27; omega) (hmv k (lp_lt hz hnb (by omega) h2 c_27)).2.2 (nn_lt _) (iv_p hgp hp1.1 hp1.2)) rfl (cwV 3 hts gX8_coin_X8_anewB rfl rfl rfl (by decide +kernel) ⟨Nat.le_of_ble_eq_true rfl, Nat.le_of_ble_eq_true rfl⟩) hK hP [0, 6] rfl rfl rfl hl.1 rfl (Nat.le_of_ble_eq_true rfl) dX8_coin_114 ⟨Nat.le_of_ble_eq_true rfl, Nat.le_of_ble_eq_true rfl⟩) ?_
                  rw [(hsa k (lp_lt hz hnb (by omega) h2 c_27)).2]
                  refine lv_icmp_ne (tgt := 124) hx hb dX8_coin_117 (by decide) (fun c_117 => ?_) (fun c_117 => ?_)
                  · skip
                    refine lv_iconst (v := 0) hx hb dX8_coin_124 (by decide) ?_
                    refine lv_topi (fun w8 e8 => ?_)
                    have e9 : w8 = (bI (∀ i : Nat, i < (k + 1) → ldc m0 m7 vt ve sa sb sha shb i)) := (by rw [e8]; exact bI_f (fun h => c_117 (h k (by omega)).2.symm))
                    clear e8
                    subst e9
                    refine lv_istore_n (lv' := [(2, .int (bI (∀ i : Nat, i < (k + 1) → ldc m0 m7 vt ve sa sb sha shb i))), (4, .int (vt k)), (0, .ref h0), (1, .int v), (3, .int z)]) hx hb dX8_coin_125 rfl hl (by decide) rfl (fun ls hl => ?_)
                    refine lv_goto (tgt := 261) hx hb dX8_coin_126 (by decide) ?_
                    refine lv_iinc (v := (z + 1)) (lv' := [(3, .int (z + 1)), (2, .int (bI (∀ i : Nat, i < (k + 1) → ldc m0 m7 vt ve sa sb sha shb i))), (4, .int (vt k)), (0, .ref h0), (1, .int v)]) hx hb dX8_coin_261 hl (k := 4) rfl rfl (by decide) rfl (fun ls hl => ?_)
                    refine lv_goto (tgt := 22) hx hb dX8_coin_264 (by decide) ?_
                    have hk := lp_lt hz hnb (by omega) h2 c_27
                    have e9 : (upd (scat (fun i => i) vt wtf k) z.toNatClampNeg (vt k)) = (scat (fun i => i) vt wtf (k + 1)) := scat_s (i8_k hz (by omega)) rfl
                    have hP := va_P.arr (g' := (scat (fun i => i) vt wtf (k + 1))) hP 7 rfl (fun j _ => congrFun e9 j)
                    have hD := va_D.arr (g' := (scat (fun i => i) vt wtf (k + 1))) hD 7 rfl
                    clear e9
                    have e9 : (upd (scat (fun i => i) ve wyf k) z.toNatClampNeg (ve k)) = (scat (fun i => i) ve wyf (k + 1)) := scat_s (i8_k hz (by omega)) rfl
                    have hP := va_P.arr (g' := (scat (fun i => i) ve wyf (k + 1))) hP 8 rfl (fun j _ => congrFun e9 j)
                    have hD := va_D.arr (g' := (scat (fun i => i) ve wyf (k + 1))) hD 8 rfl
                    clear e9
                    have hP : va_P D vwCl [(h0, .inr (7, [.int m0, .int m1, .int m2, .int m3, .int m4, .ref m5, .int m6, .int m7, .int m8, .ref m9, .ref m10, .ref m11, .int m12, .ref m13, .ref m14, .ref m15, .ref m16, .int m17, .ref m18, .ref m19, .ref m20, .ref m21, .ref m22, .ref m23, .ref m24, .ref m25, .int m26, .int m27, .int m28, .int m29, .int m30, .int m31, .ref m32, .ref m33, .ref m34, .ref m35, .int m36, .ref m37, .int m38, .ref m39, .ref m40, .ref m41, .ref m42, .ref m43])), (m24, .inl (cA 0, 40, .inl stf)), (m25, .inl (cA 0, 40, .inl syf)), (m15, .inl (cA 0, 40, .inl saf)), (m16, .inl (cA 0, 40, .inl sbf)), (m13, .inl (cA 0, 200, .inl laf)), (m14, .inl (cA 0, 200, .inl lbf)), (m32, .inl (cA 0, 40, .inl (scat (fun i => i) vt wtf (k + 1)))), (m33, .inl (cA 0, 40, .inl (scat (fun i => i) ve wyf (k + 1)))), (m39, .inl (cA 0, 600, .inl kf)), (m40, .inl (cA 2, 600, .inr (.inl (fun i => (xf i).toInt64)))), (m41, .inl (cA 2, 600, .inr (.inl (fun i => (yf i).toInt64)))), (m42, .inl (cA 2, 600, .inr (.inl zf))), (m43, .inl (cA 2, 600, .inr (.inl cf)))] H := hP
                    have hD : va_D A [(h0, .inr (7, [.int m0, .int m1, .int m2, .int m3, .int m4, .ref m5, .int m6, .int m7, .int m8, .ref m9, .ref m10, .ref m11, .int m12, .ref m13, .ref m14, .ref m15, .ref m16, .int m17, .ref m18, .ref m19, .ref m20, .ref m21, .ref m22, .ref m23, .ref m24, .ref m25, .int m26, .int m27, .int m28, .int m29, .int m30, .int m31, .ref m32, .ref m33, .ref m34, .ref m35, .int m36, .ref m37, .int m38, .ref m39, .ref m40, .ref m41, .ref m42, .ref m43])), (m24, .inl (cA 0, 40, .inl stf)), (m25, .inl (cA 0, 40, .inl syf)), (m15, .inl (cA 0, 40, .inl saf)), (m16, .inl (cA 0, 40, .inl sbf)), (m13, .inl (cA 0, 200, .inl laf)), (m14, .inl (cA 0, 200, .inl lbf)), (m32, .inl (cA 0, 40, .inl (scat (fun i => i) vt wtf (k + 1)))), (m33, .inl (cA 0, 40, .inl (scat (fun i => i) ve wyf (k + 1)))), (m39, .inl (cA 0, 600, .inl kf)), (m40, .inl (cA 2, 600, .inr (.inl (fun i => (xf i).toInt64)))), (m41, .inl (cA 2, 600, .inr (.inl (fun i => (yf i).toInt64)))), (m42, .inl (cA 2, 600, .inr (.inl zf))), (m43, .inl (cA 2, 600, .inr (.inl cf)))] := hD
                    exact ih (k + 1) (z + 1) _ (st_1 hz) (by omega) (by omega) rfl _ _ hP hD hS ls (lv_sub hl [3, 4, 1, 0] rfl)
                  · skip
                    refine lv_iconst (v := 1) hx hb dX8_coin_120 (by decide) ?_
                    refine lv_goto (tgt := 125) hx hb dX8_coin_121 (by decide) ?_
                    refine lv_topi (fun w8 e8 => ?_)
                    have e9 : w8 = (bI (∀ i : Nat, i < (k + 1) → ldc m0 m7 vt ve sa sb sha shb i)) := (by rw [e8]; exact bI_t (ld_next (bI_1 (fun q => c_63 (hg.trans q))) c_90.symm c_117.symm))
                    clear e8
                    subst e9
                    refine lv_istore_n (lv' := [(2, .int (bI (∀ i : Nat, i < (k + 1) → ldc m0 m7 vt ve sa sb sha shb i))), (4, .int (vt k)), (0, .ref h0), (1, .int v), (3, .int z)]) hx hb dX8_coin_125 rfl hl (by decide) rfl (fun ls hl => ?_)
                    refine lv_goto (tgt := 261) hx hb dX8_coin_126 (by decide) ?_
                    refine lv_iinc (v := (z + 1)) (lv' := [(3, .int (z + 1)), (2, .int (bI (∀ i : Nat, i < (k + 1) → ldc m0 m7 vt ve sa sb sha shb i))), (4, .int (vt k)), (0, .ref h0), (1, .int v)]) hx hb dX8_coin_261 hl (k := 4) rfl rfl (by decide) rfl (fun ls hl => ?_)
                    refine lv_goto (tgt := 22) hx hb dX8_coin_264 (by decide) ?_
                    have hk := lp_lt hz hnb (by omega) h2 c_27
                    have e9 : (upd (scat (fun i => i) vt wtf k) z.toNatClampNeg (vt k)) = (scat (fun i => i) vt wtf (k + 1)) := scat_s (i8_k hz (by omega)) rfl
                    have hP := va_P.arr (g' := (scat (fun i => i) vt wtf (k + 1))) hP 7 rfl (fun j _ => congrFun e9 j)
                    have hD := va_D.arr (g' := (scat (fun i => i) vt wtf (k + 1))) hD 7 rfl
                    clear e9
                    have e9 : (upd (scat (fun i => i) ve wyf k) z.toNatClampNeg (ve k)) = (scat (fun i => i) ve wyf (k + 1)) := scat_s (i8_k hz (by omega)) rfl
                    have hP := va_P.arr (g' := (scat (fun i => i) ve wyf (k + 1))) hP 8 rfl (fun j _ => congrFun e9 j)
                    have hD := va_D.arr (g' := (scat (fun i => i) ve wyf (k + 1))) hD 8 rfl
                    clear e9
                    have hP : va_P D vwCl [(h0, .inr (7, [.int m0, .int m1, .int m2, .int m3, .int m4, .ref m5, .int m6, .int m7, .int m8, .ref m9, .ref m10, .ref m11, .int m12, .ref m13, .ref m14, .ref m15, .ref m16, .int m17, .ref m18, .ref m19, .ref m20, .ref m21, .ref m22, .ref m23, .ref m24, .ref m25, .int m26, .int m27, .int m28, .int m29, .int m30, .int m31, .ref m32, .ref m33, .ref m34, .ref m35, .int m36, .ref m37, .int m38, .ref m39, .ref m40, .ref m41, .ref m42, .ref m43])), (m24, .inl (cA 0, 40, .inl stf)), (m25, .inl (cA 0, 40, .inl syf)), (m15, .inl (cA 0, 40, .inl saf)), (m16, .inl (cA 0, 40, .inl sbf)), (m13, .inl (cA 0, 200, .inl laf)), (m14, .inl (cA 0, 200, .inl lbf)), (m32, .inl (cA 0, 40, .inl (scat (fun i => i) vt wtf (k + 1)))), (m33, .inl (cA 0, 40, .inl (scat (fun i => i) ve wyf (k + 1)))), (m39, .inl (cA 0, 600, .inl kf)), (m40, .inl (cA 2, 600, .inr (.inl (fun i => (xf i).toInt64)))), (m41, .inl (cA 2, 600, .inr (.inl (fun i => (yf i).toInt64)))), (m42, .inl (cA 2, 600, .inr (.inl zf))), (m43, .inl (cA 2, 600, .inr (.inl cf)))] H := hP
                    have hD : va_D A [(h0, .inr (7, [.int m0, .int m1, .int m2, .int m3, .int m4, .ref m5, .int m6, .int m7, .int m8, .ref m9, .ref m10, .ref m11, .int m12, .ref m13, .ref m14, .ref m15, .ref m16, .int m17, .ref m18, .ref m19, .ref m20, .ref m21, .ref m22, .ref m23, .ref m24, .ref m25, .int m26, .int m27, .int m28, .int m29, .int m30, .int m31, .ref m32, .ref m33, .ref m34, .ref m35, .int m36, .ref m37, .int m38, .ref m39, .ref m40, .ref m41, .ref m42, .ref m43])), (m24, .inl (cA 0, 40, .inl stf)), (m25, .inl (cA 0, 40, .inl syf)), (m15, .inl (cA 0, 40, .inl saf)), (m16, .inl (cA 0, 40, .inl sbf)), (m13, .inl (cA 0, 200, .inl laf)), (m14, .inl (cA 0, 200, .inl lbf)), (m32, .inl (cA 0, 40, .inl (scat (fun i => i) vt wtf (k + 1)))), (m33, .inl (cA 0, 40, .inl (scat (fun i => i) ve wyf (k + 1)))), (m39, .inl (cA 0, 600, .inl kf)), (m40, .inl (cA 2, 600, .inr (.inl (fun i => (xf i).toInt64)))), (m41, .inl (cA 2, 600, .inr (.inl (fun i => (yf i).toInt64)))), (m42, .inl (cA 2, 600, .inr (.inl zf))), (m43, .inl (cA 2, 600, .inr (.inl cf)))] := hD
                    exact ih (k + 1) (z + 1) _ (st_1 hz) (by omega) (by omega) rfl _ _ hP hD hS ls (lv_sub hl [3, 4, 1, 0] rfl)
      exact loop22 (b0 + 1) 0 0 1 rfl (by omega) (by omega) (bI_t (fun i h => by omega)) _ _ hP hD hS ls (lv_sub hl [2, 3, 1, 0] rfl)
    · exact absurd (show 0 ≤ v ∧ v ≤ 1 by rw [hv]; decide) (bI_0 c_13)

set_option maxHeartbeats 4000000 in
set_option maxRecDepth 100000 in
theorem c_X8_coin_1 (l : Launch) (D : va_G) (cA : Nat → ClassId) (h0 : Nat) (m0 : Int32) (m1 : Int32) (m2 : Int32) (m3 : Int32) (m4 : Int32) (m5 : Nat) (m6 : Int32) (m7 : Int32) (m8 : Int32) (m9 : Nat) (m10 : Nat) (m11 : Nat) (m12 : Int32) (m13 : Nat) (m14 : Nat) (m15 : Nat) (m16 : Nat) (m17 : Int32) (m18 : Nat) (m19 : Nat) (m20 : Nat) (m21 : Nat) (m22 : Nat) (m23 : Nat) (m24 : Nat) (m25 : Nat) (m26 : Int32) (m27 : Int32) (m28 : Int32) (m29 : Int32) (m30 : Int32) (m31 : Int32) (m32 : Nat) (m33 : Nat) (m34 : Nat) (m35 : Nat) (m36 : Int32) (m37 : Nat) (m38 : Int32) (m39 : Nat) (m40 : Nat) (m41 : Nat) (m42 : Nat) (m43 : Nat) (b0 : Nat) (mx0 : Nat) (p0 : Nat) (q0 : Nat) (n0 : Nat) (v : Int32) (stf : Nat → Int32) (syf : Nat → Int32) (saf : Nat → Int32) (sbf : Nat → Int32) (laf : Nat → Int32) (lbf : Nat → Int32) (mtf : Nat → Int32) (mbf : Nat → Int32) (wtf : Nat → Int32) (wyf : Nat → Int32) (vt : Nat → Int32) (ve : Nat → Int32) (ut : Nat → Int32) (ue : Nat → Int32) (wt : Nat → Int32) (we : Nat → Int32) (sha : Nat → Int32) (shb : Nat → Int32) (sa : Nat → Int32) (sb : Nat → Int32) (kf : Nat → Int32) (xf : Nat → Int32) (yf : Nat → Int32) (zf : Nat → Int64) (cf : Nat → Int64) (hd : ¬ m28 = 0) (hv : v = 1) (hmx : m26 = nI mx0) (hmx5 : mx0 ≤ 4) (hnb : m12 = nI b0) (hb4 : b0 ≤ 40) (hmv : ∀ i : Nat, i < b0 → (nn (vt i) ∧ nt vt i < b0) ∧ (nn (ve i) ∧ nt ve i < q0) ∧ (nn (ut i) ∧ nt ut i < b0) ∧ (nn (ue i) ∧ nt ue i < q0)) (hwv : whl vt b0) (hmm : ∀ i : Nat, i < b0 → mtf i = ut i ∧ mbf i = ue i) (hst : ∀ i : Nat, i < b0 → stf i = vt i ∧ syf i = ve i) (hsh : ∀ i : Nat, i < b0 → saf i = sha i ∧ sbf i = shb i) (hsa : ∀ i : Nat, i < b0 → laf (40 * mx0 + i) = sa i ∧ lbf (40 * mx0 + i) = sb i) (hgq : m1 = nI q0) (hq1 : 1 ≤ q0 ∧ q0 < 1000000) (hgp : m0 = nI p0) (hp1 : 2 ≤ p0 ∧ p0 < 1000000) (hbn : m38 = nI n0) (h6 : n0 < 600) : Met l yX8_coin wsX8_coin ({ frames := 2, cells := 0, slots := 0, locals := 52 }) (wPc vwCl D cA [(h0, .inr (7, [.int m0, .int m1, .int m2, .int m3, .int m4, .ref m5, .int m6, .int m7, .int m8, .ref m9, .ref m10, .ref m11, .int m12, .ref m13, .ref m14, .ref m15, .ref m16, .int m17, .ref m18, .ref m19, .ref m20, .ref m21, .ref m22, .ref m23, .ref m24, .ref m25, .int m26, .int m27, .int m28, .int m29, .int m30, .int m31, .ref m32, .ref m33, .ref m34, .ref m35, .int m36, .ref m37, .int m38, .ref m39, .ref m40, .ref m41, .ref m42, .ref m43])), (m24, .inl (cA 0, 40, .inl stf)), (m25, .inl (cA 0, 40, .inl syf)), (m15, .inl (cA 0, 40, .inl saf)), (m16, .inl (cA 0, 40, .inl sbf)), (m13, .inl (cA 0, 200, .inl laf)), (m14, .inl (cA 0, 200, .inl lbf)), (m22, .inl (cA 0, 40, .inl mtf)), (m23, .inl (cA 0, 40, .inl mbf)), (m32, .inl (cA 0, 40, .inl wtf)), (m33, .inl (cA 0, 40, .inl wyf)), (m39, .inl (cA 0, 600, .inl kf)), (m40, .inl (cA 2, 600, .inr (.inl (fun i => (xf i).toInt64)))), (m41, .inl (cA 2, 600, .inr (.inl (fun i => (yf i).toInt64)))), (m42, .inl (cA 2, 600, .inr (.inl zf))), (m43, .inl (cA 2, 600, .inr (.inl cf)))] [.ref h0, .int v]) (wq_x vwCl D [(h0, .inr (7, [.int m0, .int m1, .int m2, .int m3, .int m4, .ref m5, .int m6, .int m7, .int m8, .ref m9, .ref m10, .ref m11, .int m12, .ref m13, .ref m14, .ref m15, .ref m16, .int m17, .ref m18, .ref m19, .ref m20, .ref m21, .ref m22, .ref m23, .ref m24, .ref m25, .int m26, .int m27, .int 0, .int (m29 + (1 - bI (∀ i : Nat, i < b0 → ldc m0 m7 (scat (nt vt) ut wt b0) (scat (nt vt) (fun i => mn m1 (ue i) (ve i)) we b0) sha shb sa sb i))), .int m30, .int 1, .ref m32, .ref m33, .ref m34, .ref m35, .int m36, .ref m37, .int (m38 + 1), .ref m39, .ref m40, .ref m41, .ref m42, .ref m43])), (m24, .inl (cA 0, 40, .inl stf)), (m25, .inl (cA 0, 40, .inl syf)), (m15, .inl (cA 0, 40, .inl saf)), (m16, .inl (cA 0, 40, .inl sbf)), (m13, .inl (cA 0, 200, .inl laf)), (m14, .inl (cA 0, 200, .inl lbf)), (m22, .inl (cA 0, 40, .inl mtf)), (m23, .inl (cA 0, 40, .inl mbf)), (m32, .inl (cA 0, 40, .inl (scat (nt vt) ut wtf b0))), (m33, .inl (cA 0, 40, .inl (scat (nt vt) (fun i => mn m1 (ue i) (ve i)) wyf b0))), (m39, .inl (cA 0, 600, .inl (upd kf m38.toNatClampNeg 6))), (m40, .inl (cA 2, 600, .inr (.inl (fun i => ((upd xf m38.toNatClampNeg m27) i).toInt64)))), (m41, .inl (cA 2, 600, .inr (.inl (fun i => ((upd yf m38.toNatClampNeg v) i).toInt64)))), (m42, .inl (cA 2, 600, .inr (.inl (vp_updL zf m38.toNatClampNeg ((bI (∀ i : Nat, i < b0 → ldc m0 m7 (scat (nt vt) ut wt b0) (scat (nt vt) (fun i => mn m1 (ue i) (ve i)) we b0) sha shb sa sb i)).toInt64))))), (m43, .inl (cA 2, 600, .inr (.inl (vp_updL cf m38.toNatClampNeg (dg (dg (dg (dg (cho cf m38 (m38 - 1)) ((6 : Int32).toInt64)) (m27.toInt64)) (v.toInt64)) ((bI (∀ i : Nat, i < b0 → ldc m0 m7 (scat (nt vt) ut wt b0) (scat (nt vt) (fun i => mn m1 (ue i) (ve i)) we b0) sha shb sa sb i)).toInt64))))))] (some (.int (bI (∀ i : Nat, i < b0 → ldc m0 m7 (scat (nt vt) ut wt b0) (scat (nt vt) (fun i => mn m1 (ue i) (ve i)) we b0) sha shb sa sb i)))) (wA [(h0, .inr (7, [.int m0, .int m1, .int m2, .int m3, .int m4, .ref m5, .int m6, .int m7, .int m8, .ref m9, .ref m10, .ref m11, .int m12, .ref m13, .ref m14, .ref m15, .ref m16, .int m17, .ref m18, .ref m19, .ref m20, .ref m21, .ref m22, .ref m23, .ref m24, .ref m25, .int m26, .int m27, .int m28, .int m29, .int m30, .int m31, .ref m32, .ref m33, .ref m34, .ref m35, .int m36, .ref m37, .int m38, .ref m39, .ref m40, .ref m41, .ref m42, .ref m43])), (m24, .inl (cA 0, 40, .inl stf)), (m25, .inl (cA 0, 40, .inl syf)), (m15, .inl (cA 0, 40, .inl saf)), (m16, .inl (cA 0, 40, .inl sbf)), (m13, .inl (cA 0, 200, .inl laf)), (m14, .inl (cA 0, 200, .inl lbf)), (m22, .inl (cA 0, 40, .inl mtf)), (m23, .inl (cA 0, 40, .inl mbf)), (m32, .inl (cA 0, 40, .inl wtf)), (m33, .inl (cA 0, 40, .inl wyf)), (m39, .inl (cA 0, 600, .inl kf)), (m40, .inl (cA 2, 600, .inr (.inl (fun i => (xf i).toInt64)))), (m41, .inl (cA 2, 600, .inr (.inl (fun i => (yf i).toInt64)))), (m42, .inl (cA 2, 600, .inr (.inl zf))), (m43, .inl (cA 2, 600, .inr (.inl cf)))])) 0 0 (wA [(h0, .inr (7, [.int m0, .int m1, .int m2, .int m3, .int m4, .ref m5, .int m6, .int m7, .int m8, .ref m9, .ref m10, .ref m11, .int m12, .ref m13, .ref m14, .ref m15, .ref m16, .int m17, .ref m18, .ref m19, .ref m20, .ref m21, .ref m22, .ref m23, .ref m24, .ref m25, .int m26, .int m27, .int m28, .int m29, .int m30, .int m31, .ref m32, .ref m33, .ref m34, .ref m35, .int m36, .ref m37, .int m38, .ref m39, .ref m40, .ref m41, .ref m42, .ref m43])), (m24, .inl (cA 0, 40, .inl stf)), (m25, .inl (cA 0, 40, .inl syf)), (m15, .inl (cA 0, 40, .inl saf)), (m16, .inl (cA 0, 40, .inl sbf)), (m13, .inl (cA 0, 200, .inl laf)), (m14, .inl (cA 0, 200, .inl lbf)), (m22, .inl (cA 0, 40, .inl mtf)), (m23, .inl (cA 0, 40, .inl mbf)), (m32, .inl (cA 0, 40, .inl wtf)), (m33, .inl (cA 0, 40, .inl wyf)), (m39, .inl (cA 0, 600, .inl kf)), (m40, .inl (cA 2, 600, .inr (.inl (fun i => (xf i).toInt64)))), (m41, .inl (cA 2, 600, .inr (.inl (fun i => (yf i).toInt64)))), (m42, .inl (cA 2, 600, .inr (.inl zf))), (m43, .inl (cA 2, 600, .inr (.inl cf)))]) := by
  refine Met.ofW (cc := cX8_coin) (maxL := 7) (ret := (some .int)) (by decide) rfl ?_
  intro p e s m args below meth c s₁ B hml hv
  obtain ⟨rfl, hP, hK, hD0⟩ := hv
  have hx := B.exec
  have hb := B.bytes
  have hr := B.returns
  have hts := atoms_spec (ws := wsX8_coin) B.pre
  have hown : s.vm.findClass RX8 = some m.cls := findClass_of_methodNamed B.named
  have hlocks := B.notSynchronized
  have hin_X8 : ∀ w ∈ wsX80, w ∈ wsX8_coin := fun w h => List.mem_cons_of_mem _ (List.mem_append_right _ h)
  have w_RX8_181 := hts (.fieldLink RX8 181 "MixElectionModel" "isDue" "Z") (by decide +kernel)
  have w_RX8_170 := hts (.fieldLink RX8 170 "MixElectionModel" "many" "I") (by decide +kernel)
  have w_RX8_209 := hts (.fieldLink RX8 209 "MixElectionModel" "hasShown" "Z") (by decide +kernel)
  have w_RX8_212 := hts (.fieldLink RX8 212 "MixElectionModel" "rejected" "I") (by decide +kernel)
  have w_RX8_203 := hts (.fieldLink RX8 203 "MixElectionModel" "rounds" "I") (by decide +kernel)
  have w_RX8_53 := hts (.fieldLink RX8 53 "MixElectionModel" "shadowTo" "[I") (by decide +kernel)
  have w_RX8_50 := hts (.fieldLink RX8 50 "MixElectionModel" "mixBy" "[I") (by decide +kernel)
  have w_RX8_56 := hts (.fieldLink RX8 56 "MixElectionModel" "shadowBy" "[I") (by decide +kernel)
  have w_RX8_103 := hts (.fieldLink RX8 103 "MixElectionModel" "q" "I") (by decide +kernel)
  have w_RX8_191 := hts (.fieldLink RX8 191 "MixElectionModel" "mixes" "I") (by decide +kernel)
  have w_RX8_47 := hts (.fieldLink RX8 47 "MixElectionModel" "mixTo" "[I") (by decide +kernel)
  have w_RX8_59 := hts (.fieldLink RX8 59 "MixElectionModel" "shownTo" "[I") (by decide +kernel)
  have w_RX8_62 := hts (.fieldLink RX8 62 "MixElectionModel" "shownBy" "[I") (by decide +kernel)
  have w_RX8_23 := hts (.fieldLink RX8 23 "MixElectionModel" "listA" "[I") (by decide +kernel)
  have w_RX8_29 := hts (.fieldLink RX8 29 "MixElectionModel" "shadowA" "[I") (by decide +kernel)
  have w_RX8_26 := hts (.fieldLink RX8 26 "MixElectionModel" "listB" "[I") (by decide +kernel)
  have w_RX8_32 := hts (.fieldLink RX8 32 "MixElectionModel" "shadowB" "[I") (by decide +kernel)
  have w_RX8_146 := hts (.fieldLink RX8 146 "MixElectionModel" "h" "I") (by decide +kernel)
  have hD : va_D (wA [(h0, .inr (7, [.int m0, .int m1, .int m2, .int m3, .int m4, .ref m5, .int m6, .int m7, .int m8, .ref m9, .ref m10, .ref m11, .int m12, .ref m13, .ref m14, .ref m15, .ref m16, .int m17, .ref m18, .ref m19, .ref m20, .ref m21, .ref m22, .ref m23, .ref m24, .ref m25, .int m26, .int m27, .int m28, .int m29, .int m30, .int m31, .ref m32, .ref m33, .ref m34, .ref m35, .int m36, .ref m37, .int m38, .ref m39, .ref m40, .ref m41, .ref m42, .ref m43])), (m24, .inl (cA 0, 40, .inl stf)), (m25, .inl (cA 0, 40, .inl syf)), (m15, .inl (cA 0, 40, .inl saf)), (m16, .inl (cA 0, 40, .inl sbf)), (m13, .inl (cA 0, 200, .inl laf)), (m14, .inl (cA 0, 200, .inl lbf)), (m22, .inl (cA 0, 40, .inl mtf)), (m23, .inl (cA 0, 40, .inl mbf)), (m32, .inl (cA 0, 40, .inl wtf)), (m33, .inl (cA 0, 40, .inl wyf)), (m39, .inl (cA 0, 600, .inl kf)), (m40, .inl (cA 2, 600, .inr (.inl (fun i => (xf i).toInt64)))), (m41, .inl (cA 2, 600, .inr (.inl (fun i => (yf i).toInt64)))), (m42, .inl (cA 2, 600, .inr (.inl zf))), (m43, .inl (cA 2, 600, .inr (.inl cf)))]) [(h0, .inr (7, [.int m0, .int m1, .int m2, .int m3, .int m4, .ref m5, .int m6, .int m7, .int m8, .ref m9, .ref m10, .ref m11, .int m12, .ref m13, .ref m14, .ref m15, .ref m16, .int m17, .ref m18, .ref m19, .ref m20, .ref m21, .ref m22, .ref m23, .ref m24, .ref m25, .int m26, .int m27, .int m28, .int m29, .int m30, .int m31, .ref m32, .ref m33, .ref m34, .ref m35, .int m36, .ref m37, .int m38, .ref m39, .ref m40, .ref m41, .ref m42, .ref m43])), (m24, .inl (cA 0, 40, .inl stf)), (m25, .inl (cA 0, 40, .inl syf)), (m15, .inl (cA 0, 40, .inl saf)), (m16, .inl (cA 0, 40, .inl sbf)), (m13, .inl (cA 0, 200, .inl laf)), (m14, .inl (cA 0, 200, .inl lbf)), (m22, .inl (cA 0, 40, .inl mtf)), (m23, .inl (cA 0, 40, .inl mbf)), (m32, .inl (cA 0, 40, .inl wtf)), (m33, .inl (cA 0, 40, .inl wyf)), (m39, .inl (cA 0, 600, .inl kf)), (m40, .inl (cA 2, 600, .inr (.inl (fun i => (xf i).toInt64)))), (m41, .inl (cA 2, 600, .inr (.inl (fun i => (yf i).toInt64)))), (m42, .inl (cA 2, 600, .inr (.inl zf))), (m43, .inl (cA 2, 600, .inr (.inl cf)))] := ⟨hD0.1, fun k q h => List.mem_map.mpr ⟨q, List.mem_of_getElem? h, rfl⟩⟩
  have hS : va_S (wA [(h0, .inr (7, [.int m0, .int m1, .int m2, .int m3, .int m4, .ref m5, .int m6, .int m7, .int m8, .ref m9, .ref m10, .ref m11, .int m12, .ref m13, .ref m14, .ref m15, .ref m16, .int m17, .ref m18, .ref m19, .ref m20, .ref m21, .ref m22, .ref m23, .ref m24, .ref m25, .int m26, .int m27, .int m28, .int m29, .int m30, .int m31, .ref m32, .ref m33, .ref m34, .ref m35, .int m36, .ref m37, .int m38, .ref m39, .ref m40, .ref m41, .ref m42, .ref m43])), (m24, .inl (cA 0, 40, .inl stf)), (m25, .inl (cA 0, 40, .inl syf)), (m15, .inl (cA 0, 40, .inl saf)), (m16, .inl (cA 0, 40, .inl sbf)), (m13, .inl (cA 0, 200, .inl laf)), (m14, .inl (cA 0, 200, .inl lbf)), (m22, .inl (cA 0, 40, .inl mtf)), (m23, .inl (cA 0, 40, .inl mbf)), (m32, .inl (cA 0, 40, .inl wtf)), (m33, .inl (cA 0, 40, .inl wyf)), (m39, .inl (cA 0, 600, .inl kf)), (m40, .inl (cA 2, 600, .inr (.inl (fun i => (xf i).toInt64)))), (m41, .inl (cA 2, 600, .inr (.inl (fun i => (yf i).toInt64)))), (m42, .inl (cA 2, 600, .inr (.inl zf))), (m43, .inl (cA 2, 600, .inr (.inl cf)))]) s.heap s.heap [] := va_S.rf
  generalize hAe : wA [(h0, .inr (7, [.int m0, .int m1, .int m2, .int m3, .int m4, .ref m5, .int m6, .int m7, .int m8, .ref m9, .ref m10, .ref m11, .int m12, .ref m13, .ref m14, .ref m15, .ref m16, .int m17, .ref m18, .ref m19, .ref m20, .ref m21, .ref m22, .ref m23, .ref m24, .ref m25, .int m26, .int m27, .int m28, .int m29, .int m30, .int m31, .ref m32, .ref m33, .ref m34, .ref m35, .int m36, .ref m37, .int m38, .ref m39, .ref m40, .ref m41, .ref m42, .ref m43])), (m24, .inl (cA 0, 40, .inl stf)), (m25, .inl (cA 0, 40, .inl syf)), (m15, .inl (cA 0, 40, .inl saf)), (m16, .inl (cA 0, 40, .inl sbf)), (m13, .inl (cA 0, 200, .inl laf)), (m14, .inl (cA 0, 200, .inl lbf)), (m22, .inl (cA 0, 40, .inl mtf)), (m23, .inl (cA 0, 40, .inl mbf)), (m32, .inl (cA 0, 40, .inl wtf)), (m33, .inl (cA 0, 40, .inl wyf)), (m39, .inl (cA 0, 600, .inl kf)), (m40, .inl (cA 2, 600, .inr (.inl (fun i => (xf i).toInt64)))), (m41, .inl (cA 2, 600, .inr (.inl (fun i => (yf i).toInt64)))), (m42, .inl (cA 2, 600, .inr (.inl zf))), (m43, .inl (cA 2, 600, .inr (.inl cf)))] = A at hD hS ⊢
  have hP : va_P D vwCl [(h0, .inr (7, [.int m0, .int m1, .int m2, .int m3, .int m4, .ref m5, .int m6, .int m7, .int m8, .ref m9, .ref m10, .ref m11, .int m12, .ref m13, .ref m14, .ref m15, .ref m16, .int m17, .ref m18, .ref m19, .ref m20, .ref m21, .ref m22, .ref m23, .ref m24, .ref m25, .int m26, .int m27, .int m28, .int m29, .int m30, .int m31, .ref m32, .ref m33, .ref m34, .ref m35, .int m36, .ref m37, .int m38, .ref m39, .ref m40, .ref m41, .ref m42, .ref m43])), (m24, .inl (cA 0, 40, .inl stf)), (m25, .inl (cA 0, 40, .inl syf)), (m15, .inl (cA 0, 40, .inl saf)), (m16, .inl (cA 0, 40, .inl sbf)), (m13, .inl (cA 0, 200, .inl laf)), (m14, .inl (cA 0, 200, .inl lbf)), (m22, .inl (cA 0, 40, .inl mtf)), (m23, .inl (cA 0, 40, .inl mbf)), (m32, .inl (cA 0, 40, .inl wtf)), (m33, .inl (cA 0, 40, .inl wyf)), (m39, .inl (cA 0, 600, .inl kf)), (m40, .inl (cA 2, 600, .inr (.inl (fun i => (xf i).toInt64)))), (m41, .inl (cA 2, 600, .inr (.inl (fun i => (yf i).toInt64)))), (m42, .inl (cA 2, 600, .inr (.inl zf))), (m43, .inl (cA 2, 600, .inr (.inl cf)))] s.heap := hP
  have hl := lv_entry ([.ref h0, .int v]) (n := 7) (Nat.le_of_ble_eq_true rfl)
  rw [lg_entry_eq]
  generalize (lg_sl ([.ref h0, .int v]) ++ List.replicate (7 - (lg_sl ([.ref h0, .int v])).length) Slot.unset).toArray = ls at hl ⊢
  have hl : lv_has ls 7 [(0, .ref h0), (1, .int v)] := hl
  refine lv_aload_n hx hb dX8_coin_0 rfl (lv_at hl 0 rfl) ?_
  refine va_get (D := D) (ci := 7) (v := .int m28) (C := RX8) (T := TX8) (N := 44) hx hb hts hin_X8 hown hK hP 0 rfl rfl 28 (by decide) (w_RX8_181) (fun _ h9 => h9) rfl dX8_coin_1 ?_
  refine lv_if_eq (tgt := 16) hx hb dX8_coin_4 (by decide) (fun c_4 => ?_) (fun c_4 => ?_)
  · exact absurd c_4 hd
  · skip
    refine lv_iload_n hx hb dX8_coin_7 rfl (lv_at hl 1 rfl) ?_
    refine lv_iconst (v := 0) hx hb dX8_coin_8 (by decide) ?_
    refine lv_iconst (v := 1) hx hb dX8_coin_9 (by decide) ?_
    refine rq_call1 (v := .int (bI (0 ≤ v ∧ v ≤ 1))) (rn_S (As := [.int v, .int 0, .int 1]) (rest := []) ⟨hx, hb, hml, hown, hts⟩ (c_X8_in l D cA v 0 1) (va_cwS 3 hts gX8_coin_X8_in rfl rfl rfl (by decide +kernel) ⟨Nat.le_of_ble_eq_true rfl, Nat.le_of_ble_eq_true rfl⟩) hK hP [] rfl rfl hl.1 rfl (Nat.le_of_ble_eq_true rfl) dX8_coin_10 ⟨Nat.le_of_ble_eq_true rfl, Nat.le_of_ble_eq_true rfl⟩) ?_
    refine lv_if_ne (tgt := 18) hx hb dX8_coin_13 (by decide) (fun c_13 => ?_) (fun c_13 => ?_)
    · skip
      refine lv_iconst (v := 1) hx hb dX8_coin_18 (by decide) ?_
      refine lv_istore_n (lv' := [(2, .int 1), (0, .ref h0), (1, .int v)]) hx hb dX8_coin_19 rfl hl (by decide) rfl (fun ls hl => ?_)
      refine lv_iconst (v := 0) hx hb dX8_coin_20 (by decide) ?_
      refine lv_istore_n (lv' := [(3, .int 0), (2, .int 1), (0, .ref h0), (1, .int v)]) hx hb dX8_coin_21 rfl hl (by decide) rfl (fun ls hl => ?_)
      have loop22 : ∀ (f_ k : Nat) (z gd : Int32), z = nI k → b0 + 1 ≤ k + f_ → k ≤ b0 → gd = bI (∀ i : Nat, i < k → ld1 m0 m7 m1 vt ve ut ue sha shb sa sb i) → ∀ (H : Heap) (locs : List Loc), va_P D vwCl [(h0, .inr (7, [.int m0, .int m1, .int m2, .int m3, .int m4, .ref m5, .int m6, .int m7, .int m8, .ref m9, .ref m10, .ref m11, .int m12, .ref m13, .ref m14, .ref m15, .ref m16, .int m17, .ref m18, .ref m19, .ref m20, .ref m21, .ref m22, .ref m23, .ref m24, .ref m25, .int m26, .int m27, .int m28, .int m29, .int m30, .int m31, .ref m32, .ref m33, .ref m34, .ref m35, .int m36, .ref m37, .int m38, .ref m39, .ref m40, .ref m41, .ref m42, .ref m43])), (m24, .inl (cA 0, 40, .inl stf)), (m25, .inl (cA 0, 40, .inl syf)), (m15, .inl (cA 0, 40, .inl saf)), (m16, .inl (cA 0, 40, .inl sbf)), (m13, .inl (cA 0, 200, .inl laf)), (m14, .inl (cA 0, 200, .inl lbf)), (m22, .inl (cA 0, 40, .inl mtf)), (m23, .inl (cA 0, 40, .inl mbf)), (m32, .inl (cA 0, 40, .inl (scat (nt vt) ut wtf k))), (m33, .inl (cA 0, 40, .inl (scat (nt vt) (fun i => mn m1 (ue i) (ve i)) wyf k))), (m39, .inl (cA 0, 600, .inl kf)), (m40, .inl (cA 2, 600, .inr (.inl (fun i => (xf i).toInt64)))), (m41, .inl (cA 2, 600, .inr (.inl (fun i => (yf i).toInt64)))), (m42, .inl (cA 2, 600, .inr (.inl zf))), (m43, .inl (cA 2, 600, .inr (.inl cf)))] H → va_D A [(h0, .inr (7, [.int m0, .int m1, .int m2, .int m3, .int m4, .ref m5, .int m6, .int m7, .int m8, .ref m9, .ref m10, .ref m11, .int m12, .ref m13, .ref m14, .ref m15, .ref m16, .int m17, .ref m18, .ref m19, .ref m20, .ref m21, .ref m22, .ref m23, .ref m24, .ref m25, .int m26, .int m27, .int m28, .int m29, .int m30, .int m31, .ref m32, .ref m33, .ref m34, .ref m35, .int m36, .ref m37, .int m38, .ref m39, .ref m40, .ref m41, .ref m42, .ref m43])), (m24, .inl (cA 0, 40, .inl stf)), (m25, .inl (cA 0, 40, .inl syf)), (m15, .inl (cA 0, 40, .inl saf)), (m16, .inl (cA 0, 40, .inl sbf)), (m13, .inl (cA 0, 200, .inl laf)), (m14, .inl (cA 0, 200, .inl lbf)), (m22, .inl (cA 0, 40, .inl mtf)), (m23, .inl (cA 0, 40, .inl mbf)), (m32, .inl (cA 0, 40, .inl (scat (nt vt) ut wtf k))), (m33, .inl (cA 0, 40, .inl (scat (nt vt) (fun i => mn m1 (ue i) (ve i)) wyf k))), (m39, .inl (cA 0, 600, .inl kf)), (m40, .inl (cA 2, 600, .inr (.inl (fun i => (xf i).toInt64)))), (m41, .inl (cA 2, 600, .inr (.inl (fun i => (yf i).toInt64)))), (m42, .inl (cA 2, 600, .inr (.inl zf))), (m43, .inl (cA 2, 600, .inr (.inl cf)))] → va_S A s.heap H locs → ∀ ls : Array Slot, lv_has ls 7 [(0, .ref h0), (1, .int v), (2, .int gd), (3, .int z)] → W p l e (headSpec wsX8_coin ({ frames := 2, cells := 0, slots := 0, locals := 52 })).room s m [.ref h0, .int v].toArray below meth c H locs 0 0 (MQ below (wq_x vwCl D [(h0, .inr (7, [.int m0, .int m1, .int m2, .int m3, .int m4, .ref m5, .int m6, .int m7, .int m8, .ref m9, .ref m10, .ref m11, .int m12, .ref m13, .ref m14, .ref m15, .ref m16, .int m17, .ref m18, .ref m19, .ref m20, .ref m21, .ref m22, .ref m23, .ref m24, .ref m25, .int m26, .int m27, .int 0, .int (m29 + (1 - bI (∀ i : Nat, i < b0 → ldc m0 m7 (scat (nt vt) ut wt b0) (scat (nt vt) (fun i => mn m1 (ue i) (ve i)) we b0) sha shb sa sb i))), .int m30, .int 1, .ref m32, .ref m33, .ref m34, .ref m35, .int m36, .ref m37, .int (m38 + 1), .ref m39, .ref m40, .ref m41, .ref m42, .ref m43])), (m24, .inl (cA 0, 40, .inl stf)), (m25, .inl (cA 0, 40, .inl syf)), (m15, .inl (cA 0, 40, .inl saf)), (m16, .inl (cA 0, 40, .inl sbf)), (m13, .inl (cA 0, 200, .inl laf)), (m14, .inl (cA 0, 200, .inl lbf)), (m22, .inl (cA 0, 40, .inl mtf)), (m23, .inl (cA 0, 40, .inl mbf)), (m32, .inl (cA 0, 40, .inl (scat (nt vt) ut wtf b0))), (m33, .inl (cA 0, 40, .inl (scat (nt vt) (fun i => mn m1 (ue i) (ve i)) wyf b0))), (m39, .inl (cA 0, 600, .inl (upd kf m38.toNatClampNeg 6))), (m40, .inl (cA 2, 600, .inr (.inl (fun i => ((upd xf m38.toNatClampNeg m27) i).toInt64)))), (m41, .inl (cA 2, 600, .inr (.inl (fun i => ((upd yf m38.toNatClampNeg v) i).toInt64)))), (m42, .inl (cA 2, 600, .inr (.inl (vp_updL zf m38.toNatClampNeg ((bI (∀ i : Nat, i < b0 → ldc m0 m7 (scat (nt vt) ut wt b0) (scat (nt vt) (fun i => mn m1 (ue i) (ve i)) we b0) sha shb sa sb i)).toInt64))))), (m43, .inl (cA 2, 600, .inr (.inl (vp_updL cf m38.toNatClampNeg (dg (dg (dg (dg (cho cf m38 (m38 - 1)) ((6 : Int32).toInt64)) (m27.toInt64)) (v.toInt64)) ((bI (∀ i : Nat, i < b0 → ldc m0 m7 (scat (nt vt) ut wt b0) (scat (nt vt) (fun i => mn m1 (ue i) (ve i)) we b0) sha shb sa sb i)).toInt64))))))] (some (.int (bI (∀ i : Nat, i < b0 → ldc m0 m7 (scat (nt vt) ut wt b0) (scat (nt vt) (fun i => mn m1 (ue i) (ve i)) we b0) sha shb sa sb i)))) A) [.ref h0, .int v].toArray s 0 0 A) (F0 m 22 ls []) := by
        intro f
        induction f with
        | zero =>
          intro k z gd hz h1 h2
          omega
        | succ f ih =>
          intro k z gd hz h1 h2 hg H locs hP hD hS ls hl
          refine lv_iload_n hx hb dX8_coin_22 rfl (lv_at hl 3 rfl) ?_
          refine lv_aload_n hx hb dX8_coin_23 rfl (lv_at hl 0 rfl) ?_
          refine va_get (D := D) (ci := 7) (v := .int m12) (C := RX8) (T := TX8) (N := 44) hx hb hts hin_X8 hown hK hP 0 rfl rfl 12 (by decide) (w_RX8_170) (fun _ h9 => h9) rfl dX8_coin_24 ?_
          refine lv_icmp_ge (tgt := 267) hx hb dX8_coin_27 (by decide) (fun c_27 => ?_) (fun c_27 => ?_)
          · skip
            have hke := (lp_end hz hnb (by omega) h2 c_27).symm
            subst hke
            have hg := hg.trans (bI_iff (c1_iff (wt := wt) (we := we) hwv (fun i hi => (hmv i hi).1)))
            subst hg
            refine lv_aload_n hx hb dX8_coin_267 rfl (lv_at hl 0 rfl) ?_
            refine lv_iconst (v := 0) hx hb dX8_coin_268 (by decide) ?_
            refine va_put (D := D) (ci := 7) (v := .int 0) (ty := .boolean) (C := RX8) (T := TX8) (N := 44) hx hb hts hin_X8 tyX8 tyX8_ok nmX8 hown hK hP hD hS 0 rfl rfl 28 (by decide) (w_RX8_181) (fun _ h9 => h9) rfl (by decide +kernel) rfl rfl (Nat.le_of_ble_eq_true rfl) dX8_coin_269 (fun H locs hP hD hS => ?_)
            have hP : va_P D vwCl [(h0, .inr (7, [.int m0, .int m1, .int m2, .int m3, .int m4, .ref m5, .int m6, .int m7, .int m8, .ref m9, .ref m10, .ref m11, .int m12, .ref m13, .ref m14, .ref m15, .ref m16, .int m17, .ref m18, .ref m19, .ref m20, .ref m21, .ref m22, .ref m23, .ref m24, .ref m25, .int m26, .int m27, .int 0, .int m29, .int m30, .int m31, .ref m32, .ref m33, .ref m34, .ref m35, .int m36, .ref m37, .int m38, .ref m39, .ref m40, .ref m41, .ref m42, .ref m43])), (m24, .inl (cA 0, 40, .inl stf)), (m25, .inl (cA 0, 40, .inl syf)), (m15, .inl (cA 0, 40, .inl saf)), (m16, .inl (cA 0, 40, .inl sbf)), (m13, .inl (cA 0, 200, .inl laf)), (m14, .inl (cA 0, 200, .inl lbf)), (m22, .inl (cA 0, 40, .inl mtf)), (m23, .inl (cA 0, 40, .inl mbf)), (m32, .inl (cA 0, 40, .inl (scat (nt vt) ut wtf b0))), (m33, .inl (cA 0, 40, .inl (scat (nt vt) (fun i => mn m1 (ue i) (ve i)) wyf b0))), (m39, .inl (cA 0, 600, .inl kf)), (m40, .inl (cA 2, 600, .inr (.inl (fun i => (xf i).toInt64)))), (m41, .inl (cA 2, 600, .inr (.inl (fun i => (yf i).toInt64)))), (m42, .inl (cA 2, 600, .inr (.inl zf))), (m43, .inl (cA 2, 600, .inr (.inl cf)))] H := hP
            have hD : va_D A [(h0, .inr (7, [.int m0, .int m1, .int m2, .int m3, .int m4, .ref m5, .int m6, .int m7, .int m8, .ref m9, .ref m10, .ref m11, .int m12, .ref m13, .ref m14, .ref m15, .ref m16, .int m17, .ref m18, .ref m19, .ref m20, .ref m21, .ref m22, .ref m23, .ref m24, .ref m25, .int m26, .int m27, .int 0, .int m29, .int m30, .int m31, .ref m32, .ref m33, .ref m34, .ref m35, .int m36, .ref m37, .int m38, .ref m39, .ref m40, .ref m41, .ref m42, .ref m43])), (m24, .inl (cA 0, 40, .inl stf)), (m25, .inl (cA 0, 40, .inl syf)), (m15, .inl (cA 0, 40, .inl saf)), (m16, .inl (cA 0, 40, .inl sbf)), (m13, .inl (cA 0, 200, .inl laf)), (m14, .inl (cA 0, 200, .inl lbf)), (m22, .inl (cA 0, 40, .inl mtf)), (m23, .inl (cA 0, 40, .inl mbf)), (m32, .inl (cA 0, 40, .inl (scat (nt vt) ut wtf b0))), (m33, .inl (cA 0, 40, .inl (scat (nt vt) (fun i => mn m1 (ue i) (ve i)) wyf b0))), (m39, .inl (cA 0, 600, .inl kf)), (m40, .inl (cA 2, 600, .inr (.inl (fun i => (xf i).toInt64)))), (m41, .inl (cA 2, 600, .inr (.inl (fun i => (yf i).toInt64)))), (m42, .inl (cA 2, 600, .inr (.inl zf))), (m43, .inl (cA 2, 600, .inr (.inl cf)))] := hD
            refine lv_aload_n hx hb dX8_coin_272 rfl (lv_at hl 0 rfl) ?_
            refine lv_iconst (v := 1) hx hb dX8_coin_273 (by decide) ?_
            refine va_put (D := D) (ci := 7) (v := .int 1) (ty := .boolean) (C := RX8) (T := TX8) (N := 44) hx hb hts hin_X8 tyX8 tyX8_ok nmX8 hown hK hP hD hS 0 rfl rfl 31 (by decide) (w_RX8_209) (fun _ h9 => h9) rfl (by decide +kernel) rfl rfl (Nat.le_of_ble_eq_true rfl) dX8_coin_274 (fun H locs hP hD hS => ?_)
            have hP : va_P D vwCl [(h0, .inr (7, [.int m0, .int m1, .int m2, .int m3, .int m4, .ref m5, .int m6, .int m7, .int m8, .ref m9, .ref m10, .ref m11, .int m12, .ref m13, .ref m14, .ref m15, .ref m16, .int m17, .ref m18, .ref m19, .ref m20, .ref m21, .ref m22, .ref m23, .ref m24, .ref m25, .int m26, .int m27, .int 0, .int m29, .int m30, .int 1, .ref m32, .ref m33, .ref m34, .ref m35, .int m36, .ref m37, .int m38, .ref m39, .ref m40, .ref m41, .ref m42, .ref m43])), (m24, .inl (cA 0, 40, .inl stf)), (m25, .inl (cA 0, 40, .inl syf)), (m15, .inl (cA 0, 40, .inl saf)), (m16, .inl (cA 0, 40, .inl sbf)), (m13, .inl (cA 0, 200, .inl laf)), (m14, .inl (cA 0, 200, .inl lbf)), (m22, .inl (cA 0, 40, .inl mtf)), (m23, .inl (cA 0, 40, .inl mbf)), (m32, .inl (cA 0, 40, .inl (scat (nt vt) ut wtf b0))), (m33, .inl (cA 0, 40, .inl (scat (nt vt) (fun i => mn m1 (ue i) (ve i)) wyf b0))), (m39, .inl (cA 0, 600, .inl kf)), (m40, .inl (cA 2, 600, .inr (.inl (fun i => (xf i).toInt64)))), (m41, .inl (cA 2, 600, .inr (.inl (fun i => (yf i).toInt64)))), (m42, .inl (cA 2, 600, .inr (.inl zf))), (m43, .inl (cA 2, 600, .inr (.inl cf)))] H := hP
            have hD : va_D A [(h0, .inr (7, [.int m0, .int m1, .int m2, .int m3, .int m4, .ref m5, .int m6, .int m7, .int m8, .ref m9, .ref m10, .ref m11, .int m12, .ref m13, .ref m14, .ref m15, .ref m16, .int m17, .ref m18, .ref m19, .ref m20, .ref m21, .ref m22, .ref m23, .ref m24, .ref m25, .int m26, .int m27, .int 0, .int m29, .int m30, .int 1, .ref m32, .ref m33, .ref m34, .ref m35, .int m36, .ref m37, .int m38, .ref m39, .ref m40, .ref m41, .ref m42, .ref m43])), (m24, .inl (cA 0, 40, .inl stf)), (m25, .inl (cA 0, 40, .inl syf)), (m15, .inl (cA 0, 40, .inl saf)), (m16, .inl (cA 0, 40, .inl sbf)), (m13, .inl (cA 0, 200, .inl laf)), (m14, .inl (cA 0, 200, .inl lbf)), (m22, .inl (cA 0, 40, .inl mtf)), (m23, .inl (cA 0, 40, .inl mbf)), (m32, .inl (cA 0, 40, .inl (scat (nt vt) ut wtf b0))), (m33, .inl (cA 0, 40, .inl (scat (nt vt) (fun i => mn m1 (ue i) (ve i)) wyf b0))), (m39, .inl (cA 0, 600, .inl kf)), (m40, .inl (cA 2, 600, .inr (.inl (fun i => (xf i).toInt64)))), (m41, .inl (cA 2, 600, .inr (.inl (fun i => (yf i).toInt64)))), (m42, .inl (cA 2, 600, .inr (.inl zf))), (m43, .inl (cA 2, 600, .inr (.inl cf)))] := hD
            refine lv_aload_n hx hb dX8_coin_277 rfl (lv_at hl 0 rfl) ?_
            refine lv_dup hx hb dX8_coin_278 rfl ?_
            refine va_get (D := D) (ci := 7) (v := .int m29) (C := RX8) (T := TX8) (N := 44) hx hb hts hin_X8 hown hK hP 0 rfl rfl 29 (by decide) (w_RX8_212) (fun _ h9 => h9) rfl dX8_coin_279 ?_
            refine lv_iload_n hx hb dX8_coin_282 rfl (lv_at hl 2 rfl) ?_
            refine lv_if_eq (tgt := 290) hx hb dX8_coin_283 (by decide) (fun c_283 => ?_) (fun c_283 => ?_)
            · skip
              refine lv_iconst (v := 1) hx hb dX8_coin_290 (by decide) ?_
              refine lv_topi (fun w8 e8 => ?_)
              have e9 : w8 = (1 - bI (∀ i : Nat, i < b0 → ldc m0 m7 (scat (nt vt) ut wt b0) (scat (nt vt) (fun i => mn m1 (ue i) (ve i)) we b0) sha shb sa sb i)) := (by rw [e8, c_283]; rfl)
              clear e8
              subst e9
              refine lv_iadd hx hb dX8_coin_291 ?_
              refine va_put (D := D) (ci := 7) (v := .int (m29 + (1 - bI (∀ i : Nat, i < b0 → ldc m0 m7 (scat (nt vt) ut wt b0) (scat (nt vt) (fun i => mn m1 (ue i) (ve i)) we b0) sha shb sa sb i)))) (ty := .int) (C := RX8) (T := TX8) (N := 44) hx hb hts hin_X8 tyX8 tyX8_ok nmX8 hown hK hP hD hS 0 rfl rfl 29 (by decide) (w_RX8_212) (fun _ h9 => h9) rfl (by decide +kernel) rfl rfl (Nat.le_of_ble_eq_true rfl) dX8_coin_292 (fun H locs hP hD hS => ?_)
              have hP : va_P D vwCl [(h0, .inr (7, [.int m0, .int m1, .int m2, .int m3, .int m4, .ref m5, .int m6, .int m7, .int m8, .ref m9, .ref m10, .ref m11, .int m12, .ref m13, .ref m14, .ref m15, .ref m16, .int m17, .ref m18, .ref m19, .ref m20, .ref m21, .ref m22, .ref m23, .ref m24, .ref m25, .int m26, .int m27, .int 0, .int (m29 + (1 - bI (∀ i : Nat, i < b0 → ldc m0 m7 (scat (nt vt) ut wt b0) (scat (nt vt) (fun i => mn m1 (ue i) (ve i)) we b0) sha shb sa sb i))), .int m30, .int 1, .ref m32, .ref m33, .ref m34, .ref m35, .int m36, .ref m37, .int m38, .ref m39, .ref m40, .ref m41, .ref m42, .ref m43])), (m24, .inl (cA 0, 40, .inl stf)), (m25, .inl (cA 0, 40, .inl syf)), (m15, .inl (cA 0, 40, .inl saf)), (m16, .inl (cA 0, 40, .inl sbf)), (m13, .inl (cA 0, 200, .inl laf)), (m14, .inl (cA 0, 200, .inl lbf)), (m22, .inl (cA 0, 40, .inl mtf)), (m23, .inl (cA 0, 40, .inl mbf)), (m32, .inl (cA 0, 40, .inl (scat (nt vt) ut wtf b0))), (m33, .inl (cA 0, 40, .inl (scat (nt vt) (fun i => mn m1 (ue i) (ve i)) wyf b0))), (m39, .inl (cA 0, 600, .inl kf)), (m40, .inl (cA 2, 600, .inr (.inl (fun i => (xf i).toInt64)))), (m41, .inl (cA 2, 600, .inr (.inl (fun i => (yf i).toInt64)))), (m42, .inl (cA 2, 600, .inr (.inl zf))), (m43, .inl (cA 2, 600, .inr (.inl cf)))] H := hP
              have hD : va_D A [(h0, .inr (7, [.int m0, .int m1, .int m2, .int m3, .int m4, .ref m5, .int m6, .int m7, .int m8, .ref m9, .ref m10, .ref m11, .int m12, .ref m13, .ref m14, .ref m15, .ref m16, .int m17, .ref m18, .ref m19, .ref m20, .ref m21, .ref m22, .ref m23, .ref m24, .ref m25, .int m26, .int m27, .int 0, .int (m29 + (1 - bI (∀ i : Nat, i < b0 → ldc m0 m7 (scat (nt vt) ut wt b0) (scat (nt vt) (fun i => mn m1 (ue i) (ve i)) we b0) sha shb sa sb i))), .int m30, .int 1, .ref m32, .ref m33, .ref m34, .ref m35, .int m36, .ref m37, .int m38, .ref m39, .ref m40, .ref m41, .ref m42, .ref m43])), (m24, .inl (cA 0, 40, .inl stf)), (m25, .inl (cA 0, 40, .inl syf)), (m15, .inl (cA 0, 40, .inl saf)), (m16, .inl (cA 0, 40, .inl sbf)), (m13, .inl (cA 0, 200, .inl laf)), (m14, .inl (cA 0, 200, .inl lbf)), (m22, .inl (cA 0, 40, .inl mtf)), (m23, .inl (cA 0, 40, .inl mbf)), (m32, .inl (cA 0, 40, .inl (scat (nt vt) ut wtf b0))), (m33, .inl (cA 0, 40, .inl (scat (nt vt) (fun i => mn m1 (ue i) (ve i)) wyf b0))), (m39, .inl (cA 0, 600, .inl kf)), (m40, .inl (cA 2, 600, .inr (.inl (fun i => (xf i).toInt64)))), (m41, .inl (cA 2, 600, .inr (.inl (fun i => (yf i).toInt64)))), (m42, .inl (cA 2, 600, .inr (.inl zf))), (m43, .inl (cA 2, 600, .inr (.inl cf)))] := hD
              refine lv_aload_n hx hb dX8_coin_295 rfl (lv_at hl 0 rfl) ?_
              refine lv_bipush (v := 6) hx hb dX8_coin_296 (by decide) ?_
              refine lv_aload_n hx hb dX8_coin_298 rfl (lv_at hl 0 rfl) ?_
              refine va_get (D := D) (ci := 7) (v := .int m27) (C := RX8) (T := TX8) (N := 44) hx hb hts hin_X8 hown hK hP 0 rfl rfl 27 (by decide) (w_RX8_203) (fun _ h9 => h9) rfl dX8_coin_299 ?_
              refine lv_i2l hx hb dX8_coin_302 rfl ?_
              refine lv_iload_n hx hb dX8_coin_303 rfl (lv_at hl 1 rfl) ?_
              refine lv_i2l hx hb dX8_coin_304 rfl ?_
              refine lv_iload_n hx hb dX8_coin_305 rfl (lv_at hl 2 rfl) ?_
              refine lv_if_eq (tgt := 313) hx hb dX8_coin_306 (by decide) (fun c_306 => ?_) (fun c_306 => ?_)
              · skip
                refine lv_lconst (v := 0) hx hb dX8_coin_313 (by decide) ?_
                refine lv_topl (fun w8 e8 => ?_)
                have e9 : w8 = ((bI (∀ i : Nat, i < b0 → ldc m0 m7 (scat (nt vt) ut wt b0) (scat (nt vt) (fun i => mn m1 (ue i) (ve i)) we b0) sha shb sa sb i)).toInt64) := (by rw [e8, c_306]; rfl)
                clear e8
                subst e9
                refine wl_call1 (v := .long (dg (dg (dg (dg (cho cf m38 (m38 - 1)) ((6 : Int32).toInt64)) (m27.toInt64)) (v.toInt64)) ((bI (∀ i : Nat, i < b0 → ldc m0 m7 (scat (nt vt) ut wt b0) (scat (nt vt) (fun i => mn m1 (ue i) (ve i)) we b0) sha shb sa sb i)).toInt64))) (wc := [(h0, .inr (7, [.int m0, .int m1, .int m2, .int m3, .int m4, .ref m5, .int m6, .int m7, .int m8, .ref m9, .ref m10, .ref m11, .int m12, .ref m13, .ref m14, .ref m15, .ref m16, .int m17, .ref m18, .ref m19, .ref m20, .ref m21, .ref m22, .ref m23, .ref m24, .ref m25, .int m26, .int m27, .int 0, .int (m29 + (1 - bI (∀ i : Nat, i < b0 → ldc m0 m7 (scat (nt vt) ut wt b0) (scat (nt vt) (fun i => mn m1 (ue i) (ve i)) we b0) sha shb sa sb i))), .int m30, .int 1, .ref m32, .ref m33, .ref m34, .ref m35, .int m36, .ref m37, .int m38, .ref m39, .ref m40, .ref m41, .ref m42, .ref m43])), (m39, .inl (cA 0, 600, .inl kf)), (m40, .inl (cA 2, 600, .inr (.inl (fun i => (xf i).toInt64)))), (m41, .inl (cA 2, 600, .inr (.inl (fun i => (yf i).toInt64)))), (m42, .inl (cA 2, 600, .inr (.inl zf))), (m43, .inl (cA 2, 600, .inr (.inl cf)))]) (w1 := [(h0, .inr (7, [.int m0, .int m1, .int m2, .int m3, .int m4, .ref m5, .int m6, .int m7, .int m8, .ref m9, .ref m10, .ref m11, .int m12, .ref m13, .ref m14, .ref m15, .ref m16, .int m17, .ref m18, .ref m19, .ref m20, .ref m21, .ref m22, .ref m23, .ref m24, .ref m25, .int m26, .int m27, .int 0, .int (m29 + (1 - bI (∀ i : Nat, i < b0 → ldc m0 m7 (scat (nt vt) ut wt b0) (scat (nt vt) (fun i => mn m1 (ue i) (ve i)) we b0) sha shb sa sb i))), .int m30, .int 1, .ref m32, .ref m33, .ref m34, .ref m35, .int m36, .ref m37, .int (m38 + 1), .ref m39, .ref m40, .ref m41, .ref m42, .ref m43])), (m39, .inl (cA 0, 600, .inl (upd kf m38.toNatClampNeg 6))), (m40, .inl (cA 2, 600, .inr (.inl (fun i => ((upd xf m38.toNatClampNeg m27) i).toInt64)))), (m41, .inl (cA 2, 600, .inr (.inl (fun i => ((upd yf m38.toNatClampNeg v) i).toInt64)))), (m42, .inl (cA 2, 600, .inr (.inl (vp_updL zf m38.toNatClampNeg ((bI (∀ i : Nat, i < b0 → ldc m0 m7 (scat (nt vt) ut wt b0) (scat (nt vt) (fun i => mn m1 (ue i) (ve i)) we b0) sha shb sa sb i)).toInt64))))), (m43, .inl (cA 2, 600, .inr (.inl (vp_updL cf m38.toNatClampNeg (dg (dg (dg (dg (cho cf m38 (m38 - 1)) ((6 : Int32).toInt64)) (m27.toInt64)) (v.toInt64)) ((bI (∀ i : Nat, i < b0 → ldc m0 m7 (scat (nt vt) ut wt b0) (scat (nt vt) (fun i => mn m1 (ue i) (ve i)) we b0) sha shb sa sb i)).toInt64))))))]) (ws' := [(h0, .inr (7, [.int m0, .int m1, .int m2, .int m3, .int m4, .ref m5, .int m6, .int m7, .int m8, .ref m9, .ref m10, .ref m11, .int m12, .ref m13, .ref m14, .ref m15, .ref m16, .int m17, .ref m18, .ref m19, .ref m20, .ref m21, .ref m22, .ref m23, .ref m24, .ref m25, .int m26, .int m27, .int 0, .int (m29 + (1 - bI (∀ i : Nat, i < b0 → ldc m0 m7 (scat (nt vt) ut wt b0) (scat (nt vt) (fun i => mn m1 (ue i) (ve i)) we b0) sha shb sa sb i))), .int m30, .int 1, .ref m32, .ref m33, .ref m34, .ref m35, .int m36, .ref m37, .int (m38 + 1), .ref m39, .ref m40, .ref m41, .ref m42, .ref m43])), (m24, .inl (cA 0, 40, .inl stf)), (m25, .inl (cA 0, 40, .inl syf)), (m15, .inl (cA 0, 40, .inl saf)), (m16, .inl (cA 0, 40, .inl sbf)), (m13, .inl (cA 0, 200, .inl laf)), (m14, .inl (cA 0, 200, .inl lbf)), (m22, .inl (cA 0, 40, .inl mtf)), (m23, .inl (cA 0, 40, .inl mbf)), (m32, .inl (cA 0, 40, .inl (scat (nt vt) ut wtf b0))), (m33, .inl (cA 0, 40, .inl (scat (nt vt) (fun i => mn m1 (ue i) (ve i)) wyf b0))), (m39, .inl (cA 0, 600, .inl (upd kf m38.toNatClampNeg 6))), (m40, .inl (cA 2, 600, .inr (.inl (fun i => ((upd xf m38.toNatClampNeg m27) i).toInt64)))), (m41, .inl (cA 2, 600, .inr (.inl (fun i => ((upd yf m38.toNatClampNeg v) i).toInt64)))), (m42, .inl (cA 2, 600, .inr (.inl (vp_updL zf m38.toNatClampNeg ((bI (∀ i : Nat, i < b0 → ldc m0 m7 (scat (nt vt) ut wt b0) (scat (nt vt) (fun i => mn m1 (ue i) (ve i)) we b0) sha shb sa sb i)).toInt64))))), (m43, .inl (cA 2, 600, .inr (.inl (vp_updL cf m38.toNatClampNeg (dg (dg (dg (dg (cho cf m38 (m38 - 1)) ((6 : Int32).toInt64)) (m27.toInt64)) (v.toInt64)) ((bI (∀ i : Nat, i < b0 → ldc m0 m7 (scat (nt vt) ut wt b0) (scat (nt vt) (fun i => mn m1 (ue i) (ve i)) we b0) sha shb sa sb i)).toInt64))))))]) (wn_V (As := [.int 6, .long m27.toInt64, .long v.toInt64, .long ((bI (∀ i : Nat, i < b0 → ldc m0 m7 (scat (nt vt) ut wt b0) (scat (nt vt) (fun i => mn m1 (ue i) (ve i)) we b0) sha shb sa sb i)).toInt64)]) (rest := []) (ci := 7) (fs := [.int m0, .int m1, .int m2, .int m3, .int m4, .ref m5, .int m6, .int m7, .int m8, .ref m9, .ref m10, .ref m11, .int m12, .ref m13, .ref m14, .ref m15, .ref m16, .int m17, .ref m18, .ref m19, .ref m20, .ref m21, .ref m22, .ref m23, .ref m24, .ref m25, .int m26, .int m27, .int 0, .int (m29 + (1 - bI (∀ i : Nat, i < b0 → ldc m0 m7 (scat (nt vt) ut wt b0) (scat (nt vt) (fun i => mn m1 (ue i) (ve i)) we b0) sha shb sa sb i))), .int m30, .int 1, .ref m32, .ref m33, .ref m34, .ref m35, .int m36, .ref m37, .int m38, .ref m39, .ref m40, .ref m41, .ref m42, .ref m43]) ⟨hx, hb, hml, hown, hts⟩ (c_X8_enter l D cA h0 m0 m1 m2 m3 m4 m5 m6 m7 m8 m9 m10 m11 m12 m13 m14 m15 m16 m17 m18 m19 m20 m21 m22 m23 m24 m25 m26 m27 0 (m29 + (1 - bI (∀ i : Nat, i < b0 → ldc m0 m7 (scat (nt vt) ut wt b0) (scat (nt vt) (fun i => mn m1 (ue i) (ve i)) we b0) sha shb sa sb i))) m30 1 m32 m33 m34 m35 m36 m37 m38 m39 m40 m41 m42 m43 kf xf yf zf cf 6 m27 v ((bI (∀ i : Nat, i < b0 → ldc m0 m7 (scat (nt vt) ut wt b0) (scat (nt vt) (fun i => mn m1 (ue i) (ve i)) we b0) sha shb sa sb i)).toInt64) n0 hbn h6) rfl (cwV 4 hts gX8_coin_X8_enter rfl rfl rfl (by decide +kernel) ⟨Nat.le_of_ble_eq_true rfl, Nat.le_of_ble_eq_true rfl⟩) hK hP hD [0, 11, 12, 13, 14, 15] rfl (by decide) rfl rfl rfl hl.1 rfl (Nat.le_of_ble_eq_true rfl) dX8_coin_314 ⟨Nat.le_of_ble_eq_true rfl, Nat.le_of_ble_eq_true rfl⟩) hP hD hS [0, 11, 12, 13, 14, 15] [1, 2, 3, 4, 5, 6, 7, 8, 9, 10] rfl rfl (wr := [(m24, .inl (cA 0, 40, .inl stf)), (m25, .inl (cA 0, 40, .inl syf)), (m15, .inl (cA 0, 40, .inl saf)), (m16, .inl (cA 0, 40, .inl sbf)), (m13, .inl (cA 0, 200, .inl laf)), (m14, .inl (cA 0, 200, .inl lbf)), (m22, .inl (cA 0, 40, .inl mtf)), (m23, .inl (cA 0, 40, .inl mbf)), (m32, .inl (cA 0, 40, .inl (scat (nt vt) ut wtf b0))), (m33, .inl (cA 0, 40, .inl (scat (nt vt) (fun i => mn m1 (ue i) (ve i)) wyf b0)))]) rfl rfl (ads := [h0, m24, m25, m15, m16, m13, m14, m22, m23, m32, m33, m39, m40, m41, m42, m43]) rfl rfl (adc := [h0, m39, m40, m41, m42, m43]) rfl rfl rfl (fun H locs hP hD hS => ?_)
                refine lv_lstore_n (lv' := [(3, .long (dg (dg (dg (dg (cho cf m38 (m38 - 1)) ((6 : Int32).toInt64)) (m27.toInt64)) (v.toInt64)) ((bI (∀ i : Nat, i < b0 → ldc m0 m7 (scat (nt vt) ut wt b0) (scat (nt vt) (fun i => mn m1 (ue i) (ve i)) we b0) sha shb sa sb i)).toInt64))), (0, .ref h0), (1, .int v), (2, .int (bI (∀ i : Nat, i < b0 → ldc m0 m7 (scat (nt vt) ut wt b0) (scat (nt vt) (fun i => mn m1 (ue i) (ve i)) we b0) sha shb sa sb i)))]) hx hb dX8_coin_317 rfl hl (by decide) rfl (fun ls hl => ?_)
                refine lv_iload_n hx hb dX8_coin_318 rfl (lv_at hl 3 rfl) ?_
                refine lv_if_eq (tgt := 326) hx hb dX8_coin_319 (by decide) (fun c_319 => ?_) (fun c_319 => ?_)
                · skip
                  refine lv_iconst (v := 0) hx hb dX8_coin_326 (by decide) ?_
                  refine lv_topi (fun w8 e8 => ?_)
                  have e9 : w8 = (bI (∀ i : Nat, i < b0 → ldc m0 m7 (scat (nt vt) ut wt b0) (scat (nt vt) (fun i => mn m1 (ue i) (ve i)) we b0) sha shb sa sb i)) := (by rw [e8, c_319])
                  clear e8
                  subst e9
                  have hP9 : va_P D vwCl [(h0, .inr (7, [.int m0, .int m1, .int m2, .int m3, .int m4, .ref m5, .int m6, .int m7, .int m8, .ref m9, .ref m10, .ref m11, .int m12, .ref m13, .ref m14, .ref m15, .ref m16, .int m17, .ref m18, .ref m19, .ref m20, .ref m21, .ref m22, .ref m23, .ref m24, .ref m25, .int m26, .int m27, .int 0, .int (m29 + (1 - bI (∀ i : Nat, i < b0 → ldc m0 m7 (scat (nt vt) ut wt b0) (scat (nt vt) (fun i => mn m1 (ue i) (ve i)) we b0) sha shb sa sb i))), .int m30, .int 1, .ref m32, .ref m33, .ref m34, .ref m35, .int m36, .ref m37, .int (m38 + 1), .ref m39, .ref m40, .ref m41, .ref m42, .ref m43])), (m24, .inl (cA 0, 40, .inl stf)), (m25, .inl (cA 0, 40, .inl syf)), (m15, .inl (cA 0, 40, .inl saf)), (m16, .inl (cA 0, 40, .inl sbf)), (m13, .inl (cA 0, 200, .inl laf)), (m14, .inl (cA 0, 200, .inl lbf)), (m22, .inl (cA 0, 40, .inl mtf)), (m23, .inl (cA 0, 40, .inl mbf)), (m32, .inl (cA 0, 40, .inl (scat (nt vt) ut wtf b0))), (m33, .inl (cA 0, 40, .inl (scat (nt vt) (fun i => mn m1 (ue i) (ve i)) wyf b0))), (m39, .inl (cA 0, 600, .inl (upd kf m38.toNatClampNeg 6))), (m40, .inl (cA 2, 600, .inr (.inl (fun i => ((upd xf m38.toNatClampNeg m27) i).toInt64)))), (m41, .inl (cA 2, 600, .inr (.inl (fun i => ((upd yf m38.toNatClampNeg v) i).toInt64)))), (m42, .inl (cA 2, 600, .inr (.inl (vp_updL zf m38.toNatClampNeg ((bI (∀ i : Nat, i < b0 → ldc m0 m7 (scat (nt vt) ut wt b0) (scat (nt vt) (fun i => mn m1 (ue i) (ve i)) we b0) sha shb sa sb i)).toInt64))))), (m43, .inl (cA 2, 600, .inr (.inl (vp_updL cf m38.toNatClampNeg (dg (dg (dg (dg (cho cf m38 (m38 - 1)) ((6 : Int32).toInt64)) (m27.toInt64)) (v.toInt64)) ((bI (∀ i : Nat, i < b0 → ldc m0 m7 (scat (nt vt) ut wt b0) (scat (nt vt) (fun i => mn m1 (ue i) (ve i)) we b0) sha shb sa sb i)).toInt64))))))] H := hP
                  exact W.iret (v := (bI (∀ i : Nat, i < b0 → ldc m0 m7 (scat (nt vt) ut wt b0) (scat (nt vt) (fun i => mn m1 (ue i) (ve i)) we b0) sha shb sa sb i))) hx hb hr (fun t ht hW => ⟨congrArg (fun z => Outcome.returned (some (Value.int z))) (rfl), by rw [ht]; exact hP9, hS.F ht⟩) hS.2.2 dX8_coin_327
                · exact absurd c_283 c_319
              · exact absurd c_283 c_306
            · skip
              refine lv_iconst (v := 0) hx hb dX8_coin_286 (by decide) ?_
              refine lv_goto (tgt := 291) hx hb dX8_coin_287 (by decide) ?_
              refine lv_topi (fun w8 e8 => ?_)
              have e9 : w8 = (1 - bI (∀ i : Nat, i < b0 → ldc m0 m7 (scat (nt vt) ut wt b0) (scat (nt vt) (fun i => mn m1 (ue i) (ve i)) we b0) sha shb sa sb i)) := (by rw [e8, bI_is1 c_283]; rfl)
              clear e8
              subst e9
              refine lv_iadd hx hb dX8_coin_291 ?_
              refine va_put (D := D) (ci := 7) (v := .int (m29 + (1 - bI (∀ i : Nat, i < b0 → ldc m0 m7 (scat (nt vt) ut wt b0) (scat (nt vt) (fun i => mn m1 (ue i) (ve i)) we b0) sha shb sa sb i)))) (ty := .int) (C := RX8) (T := TX8) (N := 44) hx hb hts hin_X8 tyX8 tyX8_ok nmX8 hown hK hP hD hS 0 rfl rfl 29 (by decide) (w_RX8_212) (fun _ h9 => h9) rfl (by decide +kernel) rfl rfl (Nat.le_of_ble_eq_true rfl) dX8_coin_292 (fun H locs hP hD hS => ?_)
              have hP : va_P D vwCl [(h0, .inr (7, [.int m0, .int m1, .int m2, .int m3, .int m4, .ref m5, .int m6, .int m7, .int m8, .ref m9, .ref m10, .ref m11, .int m12, .ref m13, .ref m14, .ref m15, .ref m16, .int m17, .ref m18, .ref m19, .ref m20, .ref m21, .ref m22, .ref m23, .ref m24, .ref m25, .int m26, .int m27, .int 0, .int (m29 + (1 - bI (∀ i : Nat, i < b0 → ldc m0 m7 (scat (nt vt) ut wt b0) (scat (nt vt) (fun i => mn m1 (ue i) (ve i)) we b0) sha shb sa sb i))), .int m30, .int 1, .ref m32, .ref m33, .ref m34, .ref m35, .int m36, .ref m37, .int m38, .ref m39, .ref m40, .ref m41, .ref m42, .ref m43])), (m24, .inl (cA 0, 40, .inl stf)), (m25, .inl (cA 0, 40, .inl syf)), (m15, .inl (cA 0, 40, .inl saf)), (m16, .inl (cA 0, 40, .inl sbf)), (m13, .inl (cA 0, 200, .inl laf)), (m14, .inl (cA 0, 200, .inl lbf)), (m22, .inl (cA 0, 40, .inl mtf)), (m23, .inl (cA 0, 40, .inl mbf)), (m32, .inl (cA 0, 40, .inl (scat (nt vt) ut wtf b0))), (m33, .inl (cA 0, 40, .inl (scat (nt vt) (fun i => mn m1 (ue i) (ve i)) wyf b0))), (m39, .inl (cA 0, 600, .inl kf)), (m40, .inl (cA 2, 600, .inr (.inl (fun i => (xf i).toInt64)))), (m41, .inl (cA 2, 600, .inr (.inl (fun i => (yf i).toInt64)))), (m42, .inl (cA 2, 600, .inr (.inl zf))), (m43, .inl (cA 2, 600, .inr (.inl cf)))] H := hP
              have hD : va_D A [(h0, .inr (7, [.int m0, .int m1, .int m2, .int m3, .int m4, .ref m5, .int m6, .int m7, .int m8, .ref m9, .ref m10, .ref m11, .int m12, .ref m13, .ref m14, .ref m15, .ref m16, .int m17, .ref m18, .ref m19, .ref m20, .ref m21, .ref m22, .ref m23, .ref m24, .ref m25, .int m26, .int m27, .int 0, .int (m29 + (1 - bI (∀ i : Nat, i < b0 → ldc m0 m7 (scat (nt vt) ut wt b0) (scat (nt vt) (fun i => mn m1 (ue i) (ve i)) we b0) sha shb sa sb i))), .int m30, .int 1, .ref m32, .ref m33, .ref m34, .ref m35, .int m36, .ref m37, .int m38, .ref m39, .ref m40, .ref m41, .ref m42, .ref m43])), (m24, .inl (cA 0, 40, .inl stf)), (m25, .inl (cA 0, 40, .inl syf)), (m15, .inl (cA 0, 40, .inl saf)), (m16, .inl (cA 0, 40, .inl sbf)), (m13, .inl (cA 0, 200, .inl laf)), (m14, .inl (cA 0, 200, .inl lbf)), (m22, .inl (cA 0, 40, .inl mtf)), (m23, .inl (cA 0, 40, .inl mbf)), (m32, .inl (cA 0, 40, .inl (scat (nt vt) ut wtf b0))), (m33, .inl (cA 0, 40, .inl (scat (nt vt) (fun i => mn m1 (ue i) (ve i)) wyf b0))), (m39, .inl (cA 0, 600, .inl kf)), (m40, .inl (cA 2, 600, .inr (.inl (fun i => (xf i).toInt64)))), (m41, .inl (cA 2, 600, .inr (.inl (fun i => (yf i).toInt64)))), (m42, .inl (cA 2, 600, .inr (.inl zf))), (m43, .inl (cA 2, 600, .inr (.inl cf)))] := hD
              refine lv_aload_n hx hb dX8_coin_295 rfl (lv_at hl 0 rfl) ?_
              refine lv_bipush (v := 6) hx hb dX8_coin_296 (by decide) ?_
              refine lv_aload_n hx hb dX8_coin_298 rfl (lv_at hl 0 rfl) ?_
              refine va_get (D := D) (ci := 7) (v := .int m27) (C := RX8) (T := TX8) (N := 44) hx hb hts hin_X8 hown hK hP 0 rfl rfl 27 (by decide) (w_RX8_203) (fun _ h9 => h9) rfl dX8_coin_299 ?_
              refine lv_i2l hx hb dX8_coin_302 rfl ?_
              refine lv_iload_n hx hb dX8_coin_303 rfl (lv_at hl 1 rfl) ?_
              refine lv_i2l hx hb dX8_coin_304 rfl ?_
              refine lv_iload_n hx hb dX8_coin_305 rfl (lv_at hl 2 rfl) ?_
              refine lv_if_eq (tgt := 313) hx hb dX8_coin_306 (by decide) (fun c_306 => ?_) (fun c_306 => ?_)
              · exact absurd c_306 c_283
              · skip
                refine lv_lconst (v := 1) hx hb dX8_coin_309 (by decide) ?_
                refine lv_goto (tgt := 314) hx hb dX8_coin_310 (by decide) ?_
                refine lv_topl (fun w8 e8 => ?_)
                have e9 : w8 = ((bI (∀ i : Nat, i < b0 → ldc m0 m7 (scat (nt vt) ut wt b0) (scat (nt vt) (fun i => mn m1 (ue i) (ve i)) we b0) sha shb sa sb i)).toInt64) := (by rw [e8, bI_is1 c_306]; rfl)
                clear e8
                subst e9
                refine wl_call1 (v := .long (dg (dg (dg (dg (cho cf m38 (m38 - 1)) ((6 : Int32).toInt64)) (m27.toInt64)) (v.toInt64)) ((bI (∀ i : Nat, i < b0 → ldc m0 m7 (scat (nt vt) ut wt b0) (scat (nt vt) (fun i => mn m1 (ue i) (ve i)) we b0) sha shb sa sb i)).toInt64))) (wc := [(h0, .inr (7, [.int m0, .int m1, .int m2, .int m3, .int m4, .ref m5, .int m6, .int m7, .int m8, .ref m9, .ref m10, .ref m11, .int m12, .ref m13, .ref m14, .ref m15, .ref m16, .int m17, .ref m18, .ref m19, .ref m20, .ref m21, .ref m22, .ref m23, .ref m24, .ref m25, .int m26, .int m27, .int 0, .int (m29 + (1 - bI (∀ i : Nat, i < b0 → ldc m0 m7 (scat (nt vt) ut wt b0) (scat (nt vt) (fun i => mn m1 (ue i) (ve i)) we b0) sha shb sa sb i))), .int m30, .int 1, .ref m32, .ref m33, .ref m34, .ref m35, .int m36, .ref m37, .int m38, .ref m39, .ref m40, .ref m41, .ref m42, .ref m43])), (m39, .inl (cA 0, 600, .inl kf)), (m40, .inl (cA 2, 600, .inr (.inl (fun i => (xf i).toInt64)))), (m41, .inl (cA 2, 600, .inr (.inl (fun i => (yf i).toInt64)))), (m42, .inl (cA 2, 600, .inr (.inl zf))), (m43, .inl (cA 2, 600, .inr (.inl cf)))]) (w1 := [(h0, .inr (7, [.int m0, .int m1, .int m2, .int m3, .int m4, .ref m5, .int m6, .int m7, .int m8, .ref m9, .ref m10, .ref m11, .int m12, .ref m13, .ref m14, .ref m15, .ref m16, .int m17, .ref m18, .ref m19, .ref m20, .ref m21, .ref m22, .ref m23, .ref m24, .ref m25, .int m26, .int m27, .int 0, .int (m29 + (1 - bI (∀ i : Nat, i < b0 → ldc m0 m7 (scat (nt vt) ut wt b0) (scat (nt vt) (fun i => mn m1 (ue i) (ve i)) we b0) sha shb sa sb i))), .int m30, .int 1, .ref m32, .ref m33, .ref m34, .ref m35, .int m36, .ref m37, .int (m38 + 1), .ref m39, .ref m40, .ref m41, .ref m42, .ref m43])), (m39, .inl (cA 0, 600, .inl (upd kf m38.toNatClampNeg 6))), (m40, .inl (cA 2, 600, .inr (.inl (fun i => ((upd xf m38.toNatClampNeg m27) i).toInt64)))), (m41, .inl (cA 2, 600, .inr (.inl (fun i => ((upd yf m38.toNatClampNeg v) i).toInt64)))), (m42, .inl (cA 2, 600, .inr (.inl (vp_updL zf m38.toNatClampNeg ((bI (∀ i : Nat, i < b0 → ldc m0 m7 (scat (nt vt) ut wt b0) (scat (nt vt) (fun i => mn m1 (ue i) (ve i)) we b0) sha shb sa sb i)).toInt64))))), (m43, .inl (cA 2, 600, .inr (.inl (vp_updL cf m38.toNatClampNeg (dg (dg (dg (dg (cho cf m38 (m38 - 1)) ((6 : Int32).toInt64)) (m27.toInt64)) (v.toInt64)) ((bI (∀ i : Nat, i < b0 → ldc m0 m7 (scat (nt vt) ut wt b0) (scat (nt vt) (fun i => mn m1 (ue i) (ve i)) we b0) sha shb sa sb i)).toInt64))))))]) (ws' := [(h0, .inr (7, [.int m0, .int m1, .int m2, .int m3, .int m4, .ref m5, .int m6, .int m7, .int m8, .ref m9, .ref m10, .ref m11, .int m12, .ref m13, .ref m14, .ref m15, .ref m16, .int m17, .ref m18, .ref m19, .ref m20, .ref m21, .ref m22, .ref m23, .ref m24, .ref m25, .int m26, .int m27, .int 0, .int (m29 + (1 - bI (∀ i : Nat, i < b0 → ldc m0 m7 (scat (nt vt) ut wt b0) (scat (nt vt) (fun i => mn m1 (ue i) (ve i)) we b0) sha shb sa sb i))), .int m30, .int 1, .ref m32, .ref m33, .ref m34, .ref m35, .int m36, .ref m37, .int (m38 + 1), .ref m39, .ref m40, .ref m41, .ref m42, .ref m43])), (m24, .inl (cA 0, 40, .inl stf)), (m25, .inl (cA 0, 40, .inl syf)), (m15, .inl (cA 0, 40, .inl saf)), (m16, .inl (cA 0, 40, .inl sbf)), (m13, .inl (cA 0, 200, .inl laf)), (m14, .inl (cA 0, 200, .inl lbf)), (m22, .inl (cA 0, 40, .inl mtf)), (m23, .inl (cA 0, 40, .inl mbf)), (m32, .inl (cA 0, 40, .inl (scat (nt vt) ut wtf b0))), (m33, .inl (cA 0, 40, .inl (scat (nt vt) (fun i => mn m1 (ue i) (ve i)) wyf b0))), (m39, .inl (cA 0, 600, .inl (upd kf m38.toNatClampNeg 6))), (m40, .inl (cA 2, 600, .inr (.inl (fun i => ((upd xf m38.toNatClampNeg m27) i).toInt64)))), (m41, .inl (cA 2, 600, .inr (.inl (fun i => ((upd yf m38.toNatClampNeg v) i).toInt64)))), (m42, .inl (cA 2, 600, .inr (.inl (vp_updL zf m38.toNatClampNeg ((bI (∀ i : Nat, i < b0 → ldc m0 m7 (scat (nt vt) ut wt b0) (scat (nt vt) (fun i => mn m1 (ue i) (ve i)) we b0) sha shb sa sb i)).toInt64))))), (m43, .inl (cA 2, 600, .inr (.inl (vp_updL cf m38.toNatClampNeg (dg (dg (dg (dg (cho cf m38 (m38 - 1)) ((6 : Int32).toInt64)) (m27.toInt64)) (v.toInt64)) ((bI (∀ i : Nat, i < b0 → ldc m0 m7 (scat (nt vt) ut wt b0) (scat (nt vt) (fun i => mn m1 (ue i) (ve i)) we b0) sha shb sa sb i)).toInt64))))))]) (wn_V (As := [.int 6, .long m27.toInt64, .long v.toInt64, .long ((bI (∀ i : Nat, i < b0 → ldc m0 m7 (scat (nt vt) ut wt b0) (scat (nt vt) (fun i => mn m1 (ue i) (ve i)) we b0) sha shb sa sb i)).toInt64)]) (rest := []) (ci := 7) (fs := [.int m0, .int m1, .int m2, .int m3, .int m4, .ref m5, .int m6, .int m7, .int m8, .ref m9, .ref m10, .ref m11, .int m12, .ref m13, .ref m14, .ref m15, .ref m16, .int m17, .ref m18, .ref m19, .ref m20, .ref m21, .ref m22, .ref m23, .ref m24, .ref m25, .int m26, .int m27, .int 0, .int (m29 + (1 - bI (∀ i : Nat, i < b0 → ldc m0 m7 (scat (nt vt) ut wt b0) (scat (nt vt) (fun i => mn m1 (ue i) (ve i)) we b0) sha shb sa sb i))), .int m30, .int 1, .ref m32, .ref m33, .ref m34, .ref m35, .int m36, .ref m37, .int m38, .ref m39, .ref m40, .ref m41, .ref m42, .ref m43]) ⟨hx, hb, hml, hown, hts⟩ (c_X8_enter l D cA h0 m0 m1 m2 m3 m4 m5 m6 m7 m8 m9 m10 m11 m12 m13 m14 m15 m16 m17 m18 m19 m20 m21 m22 m23 m24 m25 m26 m27 0 (m29 + (1 - bI (∀ i : Nat, i < b0 → ldc m0 m7 (scat (nt vt) ut wt b0) (scat (nt vt) (fun i => mn m1 (ue i) (ve i)) we b0) sha shb sa sb i))) m30 1 m32 m33 m34 m35 m36 m37 m38 m39 m40 m41 m42 m43 kf xf yf zf cf 6 m27 v ((bI (∀ i : Nat, i < b0 → ldc m0 m7 (scat (nt vt) ut wt b0) (scat (nt vt) (fun i => mn m1 (ue i) (ve i)) we b0) sha shb sa sb i)).toInt64) n0 hbn h6) rfl (cwV 4 hts gX8_coin_X8_enter rfl rfl rfl (by decide +kernel) ⟨Nat.le_of_ble_eq_true rfl, Nat.le_of_ble_eq_true rfl⟩) hK hP hD [0, 11, 12, 13, 14, 15] rfl (by decide) rfl rfl rfl hl.1 rfl (Nat.le_of_ble_eq_true rfl) dX8_coin_314 ⟨Nat.le_of_ble_eq_true rfl, Nat.le_of_ble_eq_true rfl⟩) hP hD hS [0, 11, 12, 13, 14, 15] [1, 2, 3, 4, 5, 6, 7, 8, 9, 10] rfl rfl (wr := [(m24, .inl (cA 0, 40, .inl stf)), (m25, .inl (cA 0, 40, .inl syf)), (m15, .inl (cA 0, 40, .inl saf)), (m16, .inl (cA 0, 40, .inl sbf)), (m13, .inl (cA 0, 200, .inl laf)), (m14, .inl (cA 0, 200, .inl lbf)), (m22, .inl (cA 0, 40, .inl mtf)), (m23, .inl (cA 0, 40, .inl mbf)), (m32, .inl (cA 0, 40, .inl (scat (nt vt) ut wtf b0))), (m33, .inl (cA 0, 40, .inl (scat (nt vt) (fun i => mn m1 (ue i) (ve i)) wyf b0)))]) rfl rfl (ads := [h0, m24, m25, m15, m16, m13, m14, m22, m23, m32, m33, m39, m40, m41, m42, m43]) rfl rfl (adc := [h0, m39, m40, m41, m42, m43]) rfl rfl rfl (fun H locs hP hD hS => ?_)
                refine lv_lstore_n (lv' := [(3, .long (dg (dg (dg (dg (cho cf m38 (m38 - 1)) ((6 : Int32).toInt64)) (m27.toInt64)) (v.toInt64)) ((bI (∀ i : Nat, i < b0 → ldc m0 m7 (scat (nt vt) ut wt b0) (scat (nt vt) (fun i => mn m1 (ue i) (ve i)) we b0) sha shb sa sb i)).toInt64))), (0, .ref h0), (1, .int v), (2, .int (bI (∀ i : Nat, i < b0 → ldc m0 m7 (scat (nt vt) ut wt b0) (scat (nt vt) (fun i => mn m1 (ue i) (ve i)) we b0) sha shb sa sb i)))]) hx hb dX8_coin_317 rfl hl (by decide) rfl (fun ls hl => ?_)
                refine lv_iload_n hx hb dX8_coin_318 rfl (lv_at hl 3 rfl) ?_
                refine lv_if_eq (tgt := 326) hx hb dX8_coin_319 (by decide) (fun c_319 => ?_) (fun c_319 => ?_)
                · exact absurd c_319 c_283
                · skip
                  refine lv_iconst (v := 1) hx hb dX8_coin_322 (by decide) ?_
                  refine lv_goto (tgt := 327) hx hb dX8_coin_323 (by decide) ?_
                  refine lv_topi (fun w8 e8 => ?_)
                  have e9 : w8 = (bI (∀ i : Nat, i < b0 → ldc m0 m7 (scat (nt vt) ut wt b0) (scat (nt vt) (fun i => mn m1 (ue i) (ve i)) we b0) sha shb sa sb i)) := (by rw [e8, bI_is1 c_319])
                  clear e8
                  subst e9
                  have hP9 : va_P D vwCl [(h0, .inr (7, [.int m0, .int m1, .int m2, .int m3, .int m4, .ref m5, .int m6, .int m7, .int m8, .ref m9, .ref m10, .ref m11, .int m12, .ref m13, .ref m14, .ref m15, .ref m16, .int m17, .ref m18, .ref m19, .ref m20, .ref m21, .ref m22, .ref m23, .ref m24, .ref m25, .int m26, .int m27, .int 0, .int (m29 + (1 - bI (∀ i : Nat, i < b0 → ldc m0 m7 (scat (nt vt) ut wt b0) (scat (nt vt) (fun i => mn m1 (ue i) (ve i)) we b0) sha shb sa sb i))), .int m30, .int 1, .ref m32, .ref m33, .ref m34, .ref m35, .int m36, .ref m37, .int (m38 + 1), .ref m39, .ref m40, .ref m41, .ref m42, .ref m43])), (m24, .inl (cA 0, 40, .inl stf)), (m25, .inl (cA 0, 40, .inl syf)), (m15, .inl (cA 0, 40, .inl saf)), (m16, .inl (cA 0, 40, .inl sbf)), (m13, .inl (cA 0, 200, .inl laf)), (m14, .inl (cA 0, 200, .inl lbf)), (m22, .inl (cA 0, 40, .inl mtf)), (m23, .inl (cA 0, 40, .inl mbf)), (m32, .inl (cA 0, 40, .inl (scat (nt vt) ut wtf b0))), (m33, .inl (cA 0, 40, .inl (scat (nt vt) (fun i => mn m1 (ue i) (ve i)) wyf b0))), (m39, .inl (cA 0, 600, .inl (upd kf m38.toNatClampNeg 6))), (m40, .inl (cA 2, 600, .inr (.inl (fun i => ((upd xf m38.toNatClampNeg m27) i).toInt64)))), (m41, .inl (cA 2, 600, .inr (.inl (fun i => ((upd yf m38.toNatClampNeg v) i).toInt64)))), (m42, .inl (cA 2, 600, .inr (.inl (vp_updL zf m38.toNatClampNeg ((bI (∀ i : Nat, i < b0 → ldc m0 m7 (scat (nt vt) ut wt b0) (scat (nt vt) (fun i => mn m1 (ue i) (ve i)) we b0) sha shb sa sb i)).toInt64))))), (m43, .inl (cA 2, 600, .inr (.inl (vp_updL cf m38.toNatClampNeg (dg (dg (dg (dg (cho cf m38 (m38 - 1)) ((6 : Int32).toInt64)) (m27.toInt64)) (v.toInt64)) ((bI (∀ i : Nat, i < b0 → ldc m0 m7 (scat (nt vt) ut wt b0) (scat (nt vt) (fun i => mn m1 (ue i) (ve i)) we b0) sha shb sa sb i)).toInt64))))))] H := hP
                  exact W.iret (v := (bI (∀ i : Nat, i < b0 → ldc m0 m7 (scat (nt vt) ut wt b0) (scat (nt vt) (fun i => mn m1 (ue i) (ve i)) we b0) sha shb sa sb i))) hx hb hr (fun t ht hW => ⟨congrArg (fun z => Outcome.returned (some (Value.int z))) (rfl), by rw [ht]; exact hP9, hS.F ht⟩) hS.2.2 dX8_coin_327
          · skip
            refine lv_aload_n hx hb dX8_coin_30 rfl (lv_at hl 0 rfl) ?_
            refine va_get (D := D) (ci := 7) (v := .ref m24) (C := RX8) (T := TX8) (N := 44) hx hb hts hin_X8 hown hK hP 0 rfl rfl 24 (by decide) (w_RX8_53) (fun _ h9 => h9) rfl dX8_coin_31 ?_
            refine lv_iload_n hx hb dX8_coin_34 rfl (lv_at hl 3 rfl) ?_
            refine va_iald hx hb hK hP 1 0 rfl rfl (by rw [hz]; exact vp_in_nI (by have := lp_lt hz hnb (by omega) h2 c_27; omega) (by omega)) dX8_coin_35 ?_
            rw [mx_by hz (by have := lp_lt hz hnb (by omega) h2 c_27; omega) (hst k (lp_lt hz hnb (by omega) h2 c_27)).1]
            refine lv_istore (lv' := [(4, .int (vt k)), (0, .ref h0), (1, .int v), (2, .int gd), (3, .int z)]) hx hb dX8_coin_36 hl (by decide) rfl (fun ls hl => ?_)
            refine lv_iload_n hx hb dX8_coin_38 rfl (lv_at hl 2 rfl) ?_
            refine lv_if_ne (tgt := 129) hx hb dX8_coin_39 (by decide) (fun c_39 => ?_) (fun c_39 => ?_)
            · skip
              refine lv_aload_n hx hb dX8_coin_129 rfl (lv_at hl 1 rfl) ?_
              refine va_get (D := D) (ci := 7) (v := .ref m23) (C := RX8) (T := TX8) (N := 44) hx hb hts hin_X8 hown hK hP 0 rfl rfl 23 (by decide) (w_RX8_50) (fun _ h9 => h9) rfl dX8_coin_130 ?_
              refine lv_iload_n hx hb dX8_coin_133 rfl (lv_at hl 4 rfl) ?_
              refine va_iald hx hb hK hP 8 0 rfl rfl (by rw [hz]; exact vp_in_nI (by have := lp_lt hz hnb (by omega) h2 c_27; omega) (by omega)) dX8_coin_134 ?_
              rw [mx_by hz (by have := lp_lt hz hnb (by omega) h2 c_27; omega) (hmm k (lp_lt hz hnb (by omega) h2 c_27)).2]
              refine lv_aload_n hx hb dX8_coin_135 rfl (lv_at hl 1 rfl) ?_
              refine va_get (D := D) (ci := 7) (v := .ref m25) (C := RX8) (T := TX8) (N := 44) hx hb hts hin_X8 hown hK hP 0 rfl rfl 25 (by decide) (w_RX8_56) (fun _ h9 => h9) rfl dX8_coin_136 ?_
              refine lv_iload_n hx hb dX8_coin_139 rfl (lv_at hl 4 rfl) ?_
              refine va_iald hx hb hK hP 2 0 rfl rfl (by rw [hz]; exact vp_in_nI (by have := lp_lt hz hnb (by omega) h2 c_27; omega) (by omega)) dX8_coin_140 ?_
              rw [mx_by hz (by have := lp_lt hz hnb (by omega) h2 c_27; omega) (hst k (lp_lt hz hnb (by omega) h2 c_27)).2]
              refine lv_isub hx hb dX8_coin_141 ?_
              refine lv_aload_n hx hb dX8_coin_142 rfl (lv_at hl 1 rfl) ?_
              refine va_get (D := D) (ci := 7) (v := .int m1) (C := RX8) (T := TX8) (N := 44) hx hb hts hin_X8 hown hK hP 0 rfl rfl 1 (by decide) (w_RX8_103) (fun _ h9 => h9) rfl dX8_coin_143 ?_
              refine lv_iadd hx hb dX8_coin_146 ?_
              refine lv_aload_n hx hb dX8_coin_147 rfl (lv_at hl 1 rfl) ?_
              refine va_get (D := D) (ci := 7) (v := .int m1) (C := RX8) (T := TX8) (N := 44) hx hb hts hin_X8 hown hK hP 0 rfl rfl 1 (by decide) (w_RX8_103) (fun _ h9 => h9) rfl dX8_coin_148 ?_
              refine lv_irem hx hb dX8_coin_151 (nI_ne0z hgq (by omega) (by omega)) ?_
              refine lv_topi (fun w8 e8 => ?_)
              have e9 : w8 = (mn m1 (ue k) (ve k)) := (by rw [e8]; exact mn8 hgq hq1.2 (hmv k (lp_lt hz hnb (by omega) h2 c_27)).2.2.2 (hmv k (lp_lt hz hnb (by omega) h2 c_27)).2.1)
              clear e8
              subst e9
              refine lv_istore (lv' := [(5, .int (mn m1 (ue k) (ve k))), (4, .int (vt k)), (0, .ref h0), (1, .int v), (2, .int gd), (3, .int z)]) hx hb dX8_coin_152 hl (by decide) rfl (fun ls hl => ?_)
              refine lv_bipush (v := 40) hx hb dX8_coin_154 (by decide) ?_
              refine lv_aload_n hx hb dX8_coin_156 rfl (lv_at hl 2 rfl) ?_
              refine va_get (D := D) (ci := 7) (v := .int m26) (C := RX8) (T := TX8) (N := 44) hx hb hts hin_X8 hown hK hP 0 rfl rfl 26 (by decide) (w_RX8_191) (fun _ h9 => h9) rfl dX8_coin_157 ?_
              refine lv_imul hx hb dX8_coin_160 ?_
              refine lv_aload_n hx hb dX8_coin_161 rfl (lv_at hl 2 rfl) ?_
              refine va_get (D := D) (ci := 7) (v := .ref m22) (C := RX8) (T := TX8) (N := 44) hx hb hts hin_X8 hown hK hP 0 rfl rfl 22 (by decide) (w_RX8_47) (fun _ h9 => h9) rfl dX8_coin_162 ?_
              refine lv_iload_n hx hb dX8_coin_165 rfl (lv_at hl 5 rfl) ?_
              refine va_iald hx hb hK hP 7 0 rfl rfl (by rw [hz]; exact vp_in_nI (by have := lp_lt hz hnb (by omega) h2 c_27; omega) (by omega)) dX8_coin_166 ?_
              rw [mx_by hz (by have := lp_lt hz hnb (by omega) h2 c_27; omega) (hmm k (lp_lt hz hnb (by omega) h2 c_27)).1]
              refine lv_iadd hx hb dX8_coin_167 ?_
              refine lv_istore (lv' := [(6, .int ((40 * m26) + (ut k))), (5, .int (mn m1 (ue k) (ve k))), (4, .int (vt k)), (0, .ref h0), (1, .int v), (2, .int gd), (3, .int z)]) hx hb dX8_coin_168 hl (by decide) rfl (fun ls hl => ?_)
              refine lv_aload_n hx hb dX8_coin_170 rfl (lv_at hl 3 rfl) ?_
              refine va_get (D := D) (ci := 7) (v := .ref m32) (C := RX8) (T := TX8) (N := 44) hx hb hts hin_X8 hown hK hP 0 rfl rfl 32 (by decide) (w_RX8_59) (fun _ h9 => h9) rfl dX8_coin_171 ?_
              refine lv_iload hx hb dX8_coin_174 (lv_at hl 2 rfl) ?_
              refine lv_aload_n hx hb dX8_coin_176 rfl (lv_at hl 3 rfl) ?_
              refine va_get (D := D) (ci := 7) (v := .ref m22) (C := RX8) (T := TX8) (N := 44) hx hb hts hin_X8 hown hK hP 0 rfl rfl 22 (by decide) (w_RX8_47) (fun _ h9 => h9) rfl dX8_coin_177 ?_
              refine lv_iload_n hx hb dX8_coin_180 rfl (lv_at hl 6 rfl) ?_
              refine va_iald hx hb hK hP 7 0 rfl rfl (by rw [hz]; exact vp_in_nI (by have := lp_lt hz hnb (by omega) h2 c_27; omega) (by omega)) dX8_coin_181 ?_
              rw [mx_by hz (by have := lp_lt hz hnb (by omega) h2 c_27; omega) (hmm k (lp_lt hz hnb (by omega) h2 c_27)).1]
              refine va_iast hx hb hK hP hD hS 9 0 rfl rfl (by rw [(hmv k (lp_lt hz hnb (by omega) h2 c_27)).1.1]; exact vp_in_nI (Nat.lt_of_lt_of_le (hmv k (lp_lt hz hnb (by omega) h2 c_27)).1.2 hb4) (by omega)) dX8_coin_182 (fun H locs hP hD hS => ?_)
              have hP : va_P D vwCl [(h0, .inr (7, [.int m0, .int m1, .int m2, .int m3, .int m4, .ref m5, .int m6, .int m7, .int m8, .ref m9, .ref m10, .ref m11, .int m12, .ref m13, .ref m14, .ref m15, .ref m16, .int m17, .ref m18, .ref m19, .ref m20, .ref m21, .ref m22, .ref m23, .ref m24, .ref m25, .int m26, .int m27, .int m28, .int m29, .int m30, .int m31, .ref m32, .ref m33, .ref m34, .ref m35, .int m36, .ref m37, .int m38, .ref m39, .ref m40, .ref m41, .ref m42, .ref m43])), (m24, .inl (cA 0, 40, .inl stf)), (m25, .inl (cA 0, 40, .inl syf)), (m15, .inl (cA 0, 40, .inl saf)), (m16, .inl (cA 0, 40, .inl sbf)), (m13, .inl (cA 0, 200, .inl laf)), (m14, .inl (cA 0, 200, .inl lbf)), (m22, .inl (cA 0, 40, .inl mtf)), (m23, .inl (cA 0, 40, .inl mbf)), (m32, .inl (cA 0, 40, .inl (upd (scat (nt vt) ut wtf k) (vt k).toNatClampNeg (ut k)))), (m33, .inl (cA 0, 40, .inl (scat (nt vt) (fun i => mn m1 (ue i) (ve i)) wyf k))), (m39, .inl (cA 0, 600, .inl kf)), (m40, .inl (cA 2, 600, .inr (.inl (fun i => (xf i).toInt64)))), (m41, .inl (cA 2, 600, .inr (.inl (fun i => (yf i).toInt64)))), (m42, .inl (cA 2, 600, .inr (.inl zf))), (m43, .inl (cA 2, 600, .inr (.inl cf)))] H := hP
              have hD : va_D A [(h0, .inr (7, [.int m0, .int m1, .int m2, .int m3, .int m4, .ref m5, .int m6, .int m7, .int m8, .ref m9, .ref m10, .ref m11, .int m12, .ref m13, .ref m14, .ref m15, .ref m16, .int m17, .ref m18, .ref m19, .ref m20, .ref m21, .ref m22, .ref m23, .ref m24, .ref m25, .int m26, .int m27, .int m28, .int m29, .int m30, .int m31, .ref m32, .ref m33, .ref m34, .ref m35, .int m36, .ref m37, .int m38, .ref m39, .ref m40, .ref m41, .ref m42, .ref m43])), (m24, .inl (cA 0, 40, .inl stf)), (m25, .inl (cA 0, 40, .inl syf)), (m15, .inl (cA 0, 40, .inl saf)), (m16, .inl (cA 0, 40, .inl sbf)), (m13, .inl (cA 0, 200, .inl laf)), (m14, .inl (cA 0, 200, .inl lbf)), (m22, .inl (cA 0, 40, .inl mtf)), (m23, .inl (cA 0, 40, .inl mbf)), (m32, .inl (cA 0, 40, .inl (upd (scat (nt vt) ut wtf k) (vt k).toNatClampNeg (ut k)))), (m33, .inl (cA 0, 40, .inl (scat (nt vt) (fun i => mn m1 (ue i) (ve i)) wyf k))), (m39, .inl (cA 0, 600, .inl kf)), (m40, .inl (cA 2, 600, .inr (.inl (fun i => (xf i).toInt64)))), (m41, .inl (cA 2, 600, .inr (.inl (fun i => (yf i).toInt64)))), (m42, .inl (cA 2, 600, .inr (.inl zf))), (m43, .inl (cA 2, 600, .inr (.inl cf)))] := hD
              refine lv_aload_n hx hb dX8_coin_183 rfl (lv_at hl 3 rfl) ?_
              refine va_get (D := D) (ci := 7) (v := .ref m33) (C := RX8) (T := TX8) (N := 44) hx hb hts hin_X8 hown hK hP 0 rfl rfl 33 (by decide) (w_RX8_62) (fun _ h9 => h9) rfl dX8_coin_184 ?_
              refine lv_iload hx hb dX8_coin_187 (lv_at hl 2 rfl) ?_
              refine lv_iload hx hb dX8_coin_189 (lv_at hl 1 rfl) ?_
              refine va_iast hx hb hK hP hD hS 10 0 rfl rfl (by rw [(hmv k (lp_lt hz hnb (by omega) h2 c_27)).1.1]; exact vp_in_nI (Nat.lt_of_lt_of_le (hmv k (lp_lt hz hnb (by omega) h2 c_27)).1.2 hb4) (by omega)) dX8_coin_191 (fun H locs hP hD hS => ?_)
              have hP : va_P D vwCl [(h0, .inr (7, [.int m0, .int m1, .int m2, .int m3, .int m4, .ref m5, .int m6, .int m7, .int m8, .ref m9, .ref m10, .ref m11, .int m12, .ref m13, .ref m14, .ref m15, .ref m16, .int m17, .ref m18, .ref m19, .ref m20, .ref m21, .ref m22, .ref m23, .ref m24, .ref m25, .int m26, .int m27, .int m28, .int m29, .int m30, .int m31, .ref m32, .ref m33, .ref m34, .ref m35, .int m36, .ref m37, .int m38, .ref m39, .ref m40, .ref m41, .ref m42, .ref m43])), (m24, .inl (cA 0, 40, .inl stf)), (m25, .inl (cA 0, 40, .inl syf)), (m15, .inl (cA 0, 40, .inl saf)), (m16, .inl (cA 0, 40, .inl sbf)), (m13, .inl (cA 0, 200, .inl laf)), (m14, .inl (cA 0, 200, .inl lbf)), (m22, .inl (cA 0, 40, .inl mtf)), (m23, .inl (cA 0, 40, .inl mbf)), (m32, .inl (cA 0, 40, .inl (upd (scat (nt vt) ut wtf k) (vt k).toNatClampNeg (ut k)))), (m33, .inl (cA 0, 40, .inl (upd (scat (nt vt) (fun i => mn m1 (ue i) (ve i)) wyf k) (vt k).toNatClampNeg (mn m1 (ue k) (ve k))))), (m39, .inl (cA 0, 600, .inl kf)), (m40, .inl (cA 2, 600, .inr (.inl (fun i => (xf i).toInt64)))), (m41, .inl (cA 2, 600, .inr (.inl (fun i => (yf i).toInt64)))), (m42, .inl (cA 2, 600, .inr (.inl zf))), (m43, .inl (cA 2, 600, .inr (.inl cf)))] H := hP
              have hD : va_D A [(h0, .inr (7, [.int m0, .int m1, .int m2, .int m3, .int m4, .ref m5, .int m6, .int m7, .int m8, .ref m9, .ref m10, .ref m11, .int m12, .ref m13, .ref m14, .ref m15, .ref m16, .int m17, .ref m18, .ref m19, .ref m20, .ref m21, .ref m22, .ref m23, .ref m24, .ref m25, .int m26, .int m27, .int m28, .int m29, .int m30, .int m31, .ref m32, .ref m33, .ref m34, .ref m35, .int m36, .ref m37, .int m38, .ref m39, .ref m40, .ref m41, .ref m42, .ref m43])), (m24, .inl (cA 0, 40, .inl stf)), (m25, .inl (cA 0, 40, .inl syf)), (m15, .inl (cA 0, 40, .inl saf)), (m16, .inl (cA 0, 40, .inl sbf)), (m13, .inl (cA 0, 200, .inl laf)), (m14, .inl (cA 0, 200, .inl lbf)), (m22, .inl (cA 0, 40, .inl mtf)), (m23, .inl (cA 0, 40, .inl mbf)), (m32, .inl (cA 0, 40, .inl (upd (scat (nt vt) ut wtf k) (vt k).toNatClampNeg (ut k)))), (m33, .inl (cA 0, 40, .inl (upd (scat (nt vt) (fun i => mn m1 (ue i) (ve i)) wyf k) (vt k).toNatClampNeg (mn m1 (ue k) (ve k))))), (m39, .inl (cA 0, 600, .inl kf)), (m40, .inl (cA 2, 600, .inr (.inl (fun i => (xf i).toInt64)))), (m41, .inl (cA 2, 600, .inr (.inl (fun i => (yf i).toInt64)))), (m42, .inl (cA 2, 600, .inr (.inl zf))), (m43, .inl (cA 2, 600, .inr (.inl cf)))] := hD
              refine lv_iload_n hx hb dX8_coin_192 rfl (lv_at hl 5 rfl) ?_
              refine lv_if_eq (tgt := 259) hx hb dX8_coin_193 (by decide) (fun c_193 => ?_) (fun c_193 => ?_)
              · skip
                refine lv_iconst (v := 0) hx hb dX8_coin_259 (by decide) ?_
                refine lv_topi (fun w8 e8 => ?_)
                have e9 : w8 = (bI (∀ i : Nat, i < (k + 1) → ld1 m0 m7 m1 vt ve ut ue sha shb sa sb i)) := (by rw [e8]; exact bI_f (fun h => bI_0 (hg.symm.trans c_193) (fun i hi => h i (by omega))))
                clear e8
                subst e9
                refine lv_istore_n (lv' := [(2, .int (bI (∀ i : Nat, i < (k + 1) → ld1 m0 m7 m1 vt ve ut ue sha shb sa sb i))), (6, .int ((40 * m26) + (ut k))), (5, .int (mn m1 (ue k) (ve k))), (4, .int (vt k)), (0, .ref h0), (1, .int v), (3, .int z)]) hx hb dX8_coin_260 rfl hl (by decide) rfl (fun ls hl => ?_)
                refine lv_iinc (v := (z + 1)) (lv' := [(3, .int (z + 1)), (2, .int (bI (∀ i : Nat, i < (k + 1) → ld1 m0 m7 m1 vt ve ut ue sha shb sa sb i))), (6, .int ((40 * m26) + (ut k))), (5, .int (mn m1 (ue k) (ve k))), (4, .int (vt k)), (0, .ref h0), (1, .int v)]) hx hb dX8_coin_261 hl (k := 6) rfl rfl (by decide) rfl (fun ls hl => ?_)
                refine lv_goto (tgt := 22) hx hb dX8_coin_264 (by decide) ?_
                have hk := lp_lt hz hnb (by omega) h2 c_27
                have e9 : (upd (scat (nt vt) ut wtf k) (vt k).toNatClampNeg (ut k)) = (scat (nt vt) ut wtf (k + 1)) := scat_s rfl rfl
                have hP := va_P.arr (g' := (scat (nt vt) ut wtf (k + 1))) hP 9 rfl (fun j _ => congrFun e9 j)
                have hD := va_D.arr (g' := (scat (nt vt) ut wtf (k + 1))) hD 9 rfl
                clear e9
                have e9 : (upd (scat (nt vt) (fun i => mn m1 (ue i) (ve i)) wyf k) (vt k).toNatClampNeg (mn m1 (ue k) (ve k))) = (scat (nt vt) (fun i => mn m1 (ue i) (ve i)) wyf (k + 1)) := scat_s rfl rfl
                have hP := va_P.arr (g' := (scat (nt vt) (fun i => mn m1 (ue i) (ve i)) wyf (k + 1))) hP 10 rfl (fun j _ => congrFun e9 j)
                have hD := va_D.arr (g' := (scat (nt vt) (fun i => mn m1 (ue i) (ve i)) wyf (k + 1))) hD 10 rfl
                clear e9
                have hP : va_P D vwCl [(h0, .inr (7, [.int m0, .int m1, .int m2, .int m3, .int m4, .ref m5, .int m6, .int m7, .int m8, .ref m9, .ref m10, .ref m11, .int m12, .ref m13, .ref m14, .ref m15, .ref m16, .int m17, .ref m18, .ref m19, .ref m20, .ref m21, .ref m22, .ref m23, .ref m24, .ref m25, .int m26, .int m27, .int m28, .int m29, .int m30, .int m31, .ref m32, .ref m33, .ref m34, .ref m35, .int m36, .ref m37, .int m38, .ref m39, .ref m40, .ref m41, .ref m42, .ref m43])), (m24, .inl (cA 0, 40, .inl stf)), (m25, .inl (cA 0, 40, .inl syf)), (m15, .inl (cA 0, 40, .inl saf)), (m16, .inl (cA 0, 40, .inl sbf)), (m13, .inl (cA 0, 200, .inl laf)), (m14, .inl (cA 0, 200, .inl lbf)), (m22, .inl (cA 0, 40, .inl mtf)), (m23, .inl (cA 0, 40, .inl mbf)), (m32, .inl (cA 0, 40, .inl (scat (nt vt) ut wtf (k + 1)))), (m33, .inl (cA 0, 40, .inl (scat (nt vt) (fun i => mn m1 (ue i) (ve i)) wyf (k + 1)))), (m39, .inl (cA 0, 600, .inl kf)), (m40, .inl (cA 2, 600, .inr (.inl (fun i => (xf i).toInt64)))), (m41, .inl (cA 2, 600, .inr (.inl (fun i => (yf i).toInt64)))), (m42, .inl (cA 2, 600, .inr (.inl zf))), (m43, .inl (cA 2, 600, .inr (.inl cf)))] H := hP
                have hD : va_D A [(h0, .inr (7, [.int m0, .int m1, .int m2, .int m3, .int m4, .ref m5, .int m6, .int m7, .int m8, .ref m9, .ref m10, .ref m11, .int m12, .ref m13, .ref m14, .ref m15, .ref m16, .int m17, .ref m18, .ref m19, .ref m20, .ref m21, .ref m22, .ref m23, .ref m24, .ref m25, .int m26, .int m27, .int m28, .int m29, .int m30, .int m31, .ref m32, .ref m33, .ref m34, .ref m35, .int m36, .ref m37, .int m38, .ref m39, .ref m40, .ref m41, .ref m42, .ref m43])), (m24, .inl (cA 0, 40, .inl stf)), (m25, .inl (cA 0, 40, .inl syf)), (m15, .inl (cA 0, 40, .inl saf)), (m16, .inl (cA 0, 40, .inl sbf)), (m13, .inl (cA 0, 200, .inl laf)), (m14, .inl (cA 0, 200, .inl lbf)), (m22, .inl (cA 0, 40, .inl mtf)), (m23, .inl (cA 0, 40, .inl mbf)), (m32, .inl (cA 0, 40, .inl (scat (nt vt) ut wtf (k + 1)))), (m33, .inl (cA 0, 40, .inl (scat (nt vt) (fun i => mn m1 (ue i) (ve i)) wyf (k + 1)))), (m39, .inl (cA 0, 600, .inl kf)), (m40, .inl (cA 2, 600, .inr (.inl (fun i => (xf i).toInt64)))), (m41, .inl (cA 2, 600, .inr (.inl (fun i => (yf i).toInt64)))), (m42, .inl (cA 2, 600, .inr (.inl zf))), (m43, .inl (cA 2, 600, .inr (.inl cf)))] := hD
                exact ih (k + 1) (z + 1) _ (st_1 hz) (by omega) (by omega) rfl _ _ hP hD hS ls (lv_sub hl [5, 6, 1, 0] rfl)
              · skip
                refine lv_aload_n hx hb dX8_coin_196 rfl (lv_at hl 3 rfl) ?_
                refine va_get (D := D) (ci := 7) (v := .ref m13) (C := RX8) (T := TX8) (N := 44) hx hb hts hin_X8 hown hK hP 0 rfl rfl 13 (by decide) (w_RX8_23) (fun _ h9 => h9) rfl dX8_coin_197 ?_
                refine lv_iload hx hb dX8_coin_200 (lv_at hl 0 rfl) ?_
                refine va_iald hx hb hK hP 5 0 rfl rfl (c1_in hmx hmx5 (hmv k (lp_lt hz hnb (by omega) h2 c_27)).2.2.1 hb4) dX8_coin_202 ?_
                rw [c1_at hmx hmx5 (hmv k (lp_lt hz hnb (by omega) h2 c_27)).2.2.1 hb4 (fun i hi => (hsa i hi).1)]
                refine lv_aload_n hx hb dX8_coin_203 rfl (lv_at hl 3 rfl) ?_
                refine lv_aload_n hx hb dX8_coin_204 rfl (lv_at hl 3 rfl) ?_
                refine va_get (D := D) (ci := 7) (v := .ref m15) (C := RX8) (T := TX8) (N := 44) hx hb hts hin_X8 hown hK hP 0 rfl rfl 15 (by decide) (w_RX8_29) (fun _ h9 => h9) rfl dX8_coin_205 ?_
                refine lv_iload hx hb dX8_coin_208 (lv_at hl 2 rfl) ?_
                refine va_iald hx hb hK hP 3 0 rfl rfl (by rw [(hmv k (lp_lt hz hnb (by omega) h2 c_27)).1.1]; exact vp_in_nI (Nat.lt_of_lt_of_le (hmv k (lp_lt hz hnb (by omega) h2 c_27)).1.2 hb4) (by omega)) dX8_coin_210 ?_
                rw [(hsh (nt vt k) (hmv k (lp_lt hz hnb (by omega) h2 c_27)).1.2).1]
                refine lv_aload_n hx hb dX8_coin_211 rfl (lv_at hl 3 rfl) ?_
                refine lv_iconst (v := 4) hx hb dX8_coin_212 (by decide) ?_
                refine lv_iload hx hb dX8_coin_213 (lv_at hl 1 rfl) ?_
                refine rq_call1 (v := .int (pw m0 32 ((mn m1 (ue k) (ve k)).toNatClampNeg) 1 4)) (rn_V (As := [.int 4, .int (mn m1 (ue k) (ve k))]) (rest := [.int (sha (nt vt k)), .ref h0, .int (sa (nt ut k))]) (ci := 7) (fs := [.int m0, .int m1, .int m2, .int m3, .int m4, .ref m5, .int m6, .int m7, .int m8, .ref m9, .ref m10, .ref m11, .int m12, .ref m13, .ref m14, .ref m15, .ref m16, .int m17, .ref m18, .ref m19, .ref m20, .ref m21, .ref m22, .ref m23, .ref m24, .ref m25, .int m26, .int m27, .int m28, .int m29, .int m30, .int m31, .ref m32, .ref m33, .ref m34, .ref m35, .int m36, .ref m37, .int m38, .ref m39, .ref m40, .ref m41, .ref m42, .ref m43]) ⟨hx, hb, hml, hown, hts⟩ (c_X8_power l D cA h0 m0 m1 m2 m3 m4 m5 m6 m7 m8 m9 m10 m11 m12 m13 m14 m15 m16 m17 m18 m19 m20 m21 m22 m23 m24 m25 m26 m27 m28 m29 m30 m31 m32 m33 m34 m35 m36 m37 m38 m39 m40 m41 m42 m43 4 (mn m1 (ue k) (ve k)) ((mn m1 (ue k) (ve k)).toNatClampNeg) (mn_nn hgq hq1.2 (hmv k (lp_lt hz hnb (by omega) h2 c_27)).2.2.2 (hmv k (lp_lt hz hnb (by omega) h2 c_27)).2.1) (nn_lt _) (iv_p hgp hp1.1 hp1.2)) rfl (cwV 2 hts gX8_coin_X8_power rfl rfl rfl (by decide +kernel) ⟨Nat.le_of_ble_eq_true rfl, Nat.le_of_ble_eq_true rfl⟩) hK hP [0] rfl rfl rfl hl.1 rfl (Nat.le_of_ble_eq_true rfl) dX8_coin_215 ⟨Nat.le_of_ble_eq_true rfl, Nat.le_of_ble_eq_true rfl⟩) ?_
                refine rq_call1 (v := .int (tm m0 (sha (nt vt k)) (pw m0 32 ((mn m1 (ue k) (ve k)).toNatClampNeg) 1 4))) (rn_V (As := [.int (sha (nt vt k)), .int (pw m0 32 ((mn m1 (ue k) (ve k)).toNatClampNeg) 1 4)]) (rest := [.int (sa (nt ut k))]) (ci := 7) (fs := [.int m0, .int m1, .int m2, .int m3, .int m4, .ref m5, .int m6, .int m7, .int m8, .ref m9, .ref m10, .ref m11, .int m12, .ref m13, .ref m14, .ref m15, .ref m16, .int m17, .ref m18, .ref m19, .ref m20, .ref m21, .ref m22, .ref m23, .ref m24, .ref m25, .int m26, .int m27, .int m28, .int m29, .int m30, .int m31, .ref m32, .ref m33, .ref m34, .ref m35, .int m36, .ref m37, .int m38, .ref m39, .ref m40, .ref m41, .ref m42, .ref m43]) ⟨hx, hb, hml, hown, hts⟩ (c_X8_times l D cA h0 m0 m1 m2 m3 m4 m5 m6 m7 m8 m9 m10 m11 m12 m13 m14 m15 m16 m17 m18 m19 m20 m21 m22 m23 m24 m25 m26 m27 m28 m29 m30 m31 m32 m33 m34 m35 m36 m37 m38 m39 m40 m41 m42 m43 (sha (nt vt k)) (pw m0 32 ((mn m1 (ue k) (ve k)).toNatClampNeg) 1 4) (iv_p hgp hp1.1 hp1.2)) rfl (cwV 2 hts gX8_coin_X8_times rfl rfl rfl (by decide +kernel) ⟨Nat.le_of_ble_eq_true rfl, Nat.le_of_ble_eq_true rfl⟩) hK hP [0] rfl rfl rfl hl.1 rfl (Nat.le_of_ble_eq_true rfl) dX8_coin_218 ⟨Nat.le_of_ble_eq_true rfl, Nat.le_of_ble_eq_true rfl⟩) ?_
                refine lv_icmp_ne (tgt := 259) hx hb dX8_coin_221 (by decide) (fun c_221 => ?_) (fun c_221 => ?_)
                · skip
                  refine lv_iconst (v := 0) hx hb dX8_coin_259 (by decide) ?_
                  refine lv_topi (fun w8 e8 => ?_)
                  have e9 : w8 = (bI (∀ i : Nat, i < (k + 1) → ld1 m0 m7 m1 vt ve ut ue sha shb sa sb i)) := (by rw [e8]; exact bI_f (fun h => c_221 (h k (by omega)).1.symm))
                  clear e8
                  subst e9
                  refine lv_istore_n (lv' := [(2, .int (bI (∀ i : Nat, i < (k + 1) → ld1 m0 m7 m1 vt ve ut ue sha shb sa sb i))), (6, .int ((40 * m26) + (ut k))), (5, .int (mn m1 (ue k) (ve k))), (4, .int (vt k)), (0, .ref h0), (1, .int v), (3, .int z)]) hx hb dX8_coin_260 rfl hl (by decide) rfl (fun ls hl => ?_)
                  refine lv_iinc (v := (z + 1)) (lv' := [(3, .int (z + 1)), (2, .int (bI (∀ i : Nat, i < (k + 1) → ld1 m0 m7 m1 vt ve ut ue sha shb sa sb i))), (6, .int ((40 * m26) + (ut k))), (5, .int (mn m1 (ue k) (ve k))), (4, .int (vt k)), (0, .ref h0), (1, .int v)]) hx hb dX8_coin_261 hl (k := 6) rfl rfl (by decide) rfl (fun ls hl => ?_)
                  refine lv_goto (tgt := 22) hx hb dX8_coin_264 (by decide) ?_
                  have hk := lp_lt hz hnb (by omega) h2 c_27
                  have e9 : (upd (scat (nt vt) ut wtf k) (vt k).toNatClampNeg (ut k)) = (scat (nt vt) ut wtf (k + 1)) := scat_s rfl rfl
                  have hP := va_P.arr (g' := (scat (nt vt) ut wtf (k + 1))) hP 9 rfl (fun j _ => congrFun e9 j)
                  have hD := va_D.arr (g' := (scat (nt vt) ut wtf (k + 1))) hD 9 rfl
                  clear e9
                  have e9 : (upd (scat (nt vt) (fun i => mn m1 (ue i) (ve i)) wyf k) (vt k).toNatClampNeg (mn m1 (ue k) (ve k))) = (scat (nt vt) (fun i => mn m1 (ue i) (ve i)) wyf (k + 1)) := scat_s rfl rfl
                  have hP := va_P.arr (g' := (scat (nt vt) (fun i => mn m1 (ue i) (ve i)) wyf (k + 1))) hP 10 rfl (fun j _ => congrFun e9 j)
                  have hD := va_D.arr (g' := (scat (nt vt) (fun i => mn m1 (ue i) (ve i)) wyf (k + 1))) hD 10 rfl
                  clear e9
                  have hP : va_P D vwCl [(h0, .inr (7, [.int m0, .int m1, .int m2, .int m3, .int m4, .ref m5, .int m6, .int m7, .int m8, .ref m9, .ref m10, .ref m11, .int m12, .ref m13, .ref m14, .ref m15, .ref m16, .int m17, .ref m18, .ref m19, .ref m20, .ref m21, .ref m22, .ref m23, .ref m24, .ref m25, .int m26, .int m27, .int m28, .int m29, .int m30, .int m31, .ref m32, .ref m33, .ref m34, .ref m35, .int m36, .ref m37, .int m38, .ref m39, .ref m40, .ref m41, .ref m42, .ref m43])), (m24, .inl (cA 0, 40, .inl stf)), (m25, .inl (cA 0, 40, .inl syf)), (m15, .inl (cA 0, 40, .inl saf)), (m16, .inl (cA 0, 40, .inl sbf)), (m13, .inl (cA 0, 200, .inl laf)), (m14, .inl (cA 0, 200, .inl lbf)), (m22, .inl (cA 0, 40, .inl mtf)), (m23, .inl (cA 0, 40, .inl mbf)), (m32, .inl (cA 0, 40, .inl (scat (nt vt) ut wtf (k + 1)))), (m33, .inl (cA 0, 40, .inl (scat (nt vt) (fun i => mn m1 (ue i) (ve i)) wyf (k + 1)))), (m39, .inl (cA 0, 600, .inl kf)), (m40, .inl (cA 2, 600, .inr (.inl (fun i => (xf i).toInt64)))), (m41, .inl (cA 2, 600, .inr (.inl (fun i => (yf i).toInt64)))), (m42, .inl (cA 2, 600, .inr (.inl zf))), (m43, .inl (cA 2, 600, .inr (.inl cf)))] H := hP
                  have hD : va_D A [(h0, .inr (7, [.int m0, .int m1, .int m2, .int m3, .int m4, .ref m5, .int m6, .int m7, .int m8, .ref m9, .ref m10, .ref m11, .int m12, .ref m13, .ref m14, .ref m15, .ref m16, .int m17, .ref m18, .ref m19, .ref m20, .ref m21, .ref m22, .ref m23, .ref m24, .ref m25, .int m26, .int m27, .int m28, .int m29, .int m30, .int m31, .ref m32, .ref m33, .ref m34, .ref m35, .int m36, .ref m37, .int m38, .ref m39, .ref m40, .ref m41, .ref m42, .ref m43])), (m24, .inl (cA 0, 40, .inl stf)), (m25, .inl (cA 0, 40, .inl syf)), (m15, .inl (cA 0, 40, .inl saf)), (m16, .inl (cA 0, 40, .inl sbf)), (m13, .inl (cA 0, 200, .inl laf)), (m14, .inl (cA 0, 200, .inl lbf)), (m22, .inl (cA 0, 40, .inl mtf)), (m23, .inl (cA 0, 40, .inl mbf)), (m32, .inl (cA 0, 40, .inl (scat (nt vt) ut wtf (k + 1)))), (m33, .inl (cA 0, 40, .inl (scat (nt vt) (fun i => mn m1 (ue i) (ve i)) wyf (k + 1)))), (m39, .inl (cA 0, 600, .inl kf)), (m40, .inl (cA 2, 600, .inr (.inl (fun i => (xf i).toInt64)))), (m41, .inl (cA 2, 600, .inr (.inl (fun i => (yf i).toInt64)))), (m42, .inl (cA 2, 600, .inr (.inl zf))), (m43, .inl (cA 2, 600, .inr (.inl cf)))] := hD
                  exact ih (k + 1) (z + 1) _ (st_1 hz) (by omega) (by omega) rfl _ _ hP hD hS ls (lv_sub hl [5, 6, 1, 0] rfl)
                · skip
                  refine lv_aload_n hx hb dX8_coin_224 rfl (lv_at hl 3 rfl) ?_
                  refine va_get (D := D) (ci := 7) (v := .ref m14) (C := RX8) (T := TX8) (N := 44) hx hb hts hin_X8 hown hK hP 0 rfl rfl 14 (by decide) (w_RX8_26) (fun _ h9 => h9) rfl dX8_coin_225 ?_
                  refine lv_iload hx hb dX8_coin_228 (lv_at hl 0 rfl) ?_
                  refine va_iald hx hb hK hP 6 0 rfl rfl (c1_in hmx hmx5 (hmv k (lp_lt hz hnb (by omega) h2 c_27)).2.2.1 hb4) dX8_coin_230 ?_
                  rw [c1_at hmx hmx5 (hmv k (lp_lt hz hnb (by omega) h2 c_27)).2.2.1 hb4 (fun i hi => (hsa i hi).2)]
                  refine lv_aload_n hx hb dX8_coin_231 rfl (lv_at hl 3 rfl) ?_
                  refine lv_aload_n hx hb dX8_coin_232 rfl (lv_at hl 3 rfl) ?_
                  refine va_get (D := D) (ci := 7) (v := .ref m16) (C := RX8) (T := TX8) (N := 44) hx hb hts hin_X8 hown hK hP 0 rfl rfl 16 (by decide) (w_RX8_32) (fun _ h9 => h9) rfl dX8_coin_233 ?_
                  refine lv_iload hx hb dX8_coin_236 (lv_at hl 2 rfl) ?_
                  refine va_iald hx hb hK hP 4 0 rfl rfl (by rw [(hmv k (lp_lt hz hnb (by omega) h2 c_27)).1.1]; exact vp_in_nI (Nat.lt_of_lt_of_le (hmv k (lp_lt hz hnb (by omega) h2 c_27)).1.2 hb4) (by omega)) dX8_coin_238 ?_
                  rw [(hsh (nt vt k) (hmv k (lp_lt hz hnb (by omega) h2 c_27)).1.2).2]
                  refine lv_aload_n hx hb dX8_coin_239 rfl (lv_at hl 3 rfl) ?_
                  refine lv_aload_n hx hb dX8_coin_240 rfl (lv_at hl 3 rfl) ?_
                  refine va_get (D := D) (ci := 7) (v := .int m7) (C := RX8) (T := TX8) (N := 44) hx hb hts hin_X8 hown hK hP 0 rfl rfl 7 (by decide) (w_RX8_146) (fun _ h9 => h9) rfl dX8_coin_241 ?_
                  refine lv_iload hx hb dX8_coin_244 (lv_at hl 1 rfl) ?_
                  refine rq_call1 (v := .int (pw m0 32 ((mn m1 (ue k) (ve k)).toNatClampNeg) 1 m7)) (rn_V (As := [.int m7, .int (mn m1 (ue k) (ve k))]) (rest := [.int (shb (nt vt k)), .ref h0, .int (sb (nt ut k))]) (ci := 7) (fs := [.int m0, .int m1, .int m2, .int m3, .int m4, .ref m5, .int m6, .int m7, .int m8, .ref m9, .ref m10, .ref m11, .int m12, .ref m13, .ref m14, .ref m15, .ref m16, .int m17, .ref m18, .ref m19, .ref m20, .ref m21, .ref m22, .ref m23, .ref m24, .ref m25, .int m26, .int m27, .int m28, .int m29, .int m30, .int m31, .ref m32, .ref m33, .ref m34, .ref m35, .int m36, .ref m37, .int m38, .ref m39, .ref m40, .ref m41, .ref m42, .ref m43]) ⟨hx, hb, hml, hown, hts⟩ (c_X8_power l D cA h0 m0 m1 m2 m3 m4 m5 m6 m7 m8 m9 m10 m11 m12 m13 m14 m15 m16 m17 m18 m19 m20 m21 m22 m23 m24 m25 m26 m27 m28 m29 m30 m31 m32 m33 m34 m35 m36 m37 m38 m39 m40 m41 m42 m43 m7 (mn m1 (ue k) (ve k)) ((mn m1 (ue k) (ve k)).toNatClampNeg) (mn_nn hgq hq1.2 (hmv k (lp_lt hz hnb (by omega) h2 c_27)).2.2.2 (hmv k (lp_lt hz hnb (by omega) h2 c_27)).2.1) (nn_lt _) (iv_p hgp hp1.1 hp1.2)) rfl (cwV 2 hts gX8_coin_X8_power rfl rfl rfl (by decide +kernel) ⟨Nat.le_of_ble_eq_true rfl, Nat.le_of_ble_eq_true rfl⟩) hK hP [0] rfl rfl rfl hl.1 rfl (Nat.le_of_ble_eq_true rfl) dX8_coin_246 ⟨Nat.le_of_ble_eq_true rfl, Nat.le_of_ble_eq_true rfl⟩) ?_
                  refine rq_call1 (v := .int (tm m0 (shb (nt vt k)) (pw m0 32 ((mn m1 (ue k) (ve k)).toNatClampNeg) 1 m7))) (rn_V (As := [.int (shb (nt vt k)), .int (pw m0 32 ((mn m1 (ue k) (ve k)).toNatClampNeg) 1 m7)]) (rest := [.int (sb (nt ut k))]) (ci := 7) (fs := [.int m0, .int m1, .int m2, .int m3, .int m4, .ref m5, .int m6, .int m7, .int m8, .ref m9, .ref m10, .ref m11, .int m12, .ref m13, .ref m14, .ref m15, .ref m16, .int m17, .ref m18, .ref m19, .ref m20, .ref m21, .ref m22, .ref m23, .ref m24, .ref m25, .int m26, .int m27, .int m28, .int m29, .int m30, .int m31, .ref m32, .ref m33, .ref m34, .ref m35, .int m36, .ref m37, .int m38, .ref m39, .ref m40, .ref m41, .ref m42, .ref m43]) ⟨hx, hb, hml, hown, hts⟩ (c_X8_times l D cA h0 m0 m1 m2 m3 m4 m5 m6 m7 m8 m9 m10 m11 m12 m13 m14 m15 m16 m17 m18 m19 m20 m21 m22 m23 m24 m25 m26 m27 m28 m29 m30 m31 m32 m33 m34 m35 m36 m37 m38 m39 m40 m41 m42 m43 (shb (nt vt k)) (pw m0 32 ((mn m1 (ue k) (ve k)).toNatClampNeg) 1 m7) (iv_p hgp hp1.1 hp1.2)) rfl (cwV 2 hts gX8_coin_X8_times rfl rfl rfl (by decide +kernel) ⟨Nat.le_of_ble_eq_true rfl, Nat.le_of_ble_eq_true rfl⟩) hK hP [0] rfl rfl rfl hl.1 rfl (Nat.le_of_ble_eq_true rfl) dX8_coin_249 ⟨Nat.le_of_ble_eq_true rfl, Nat.le_of_ble_eq_true rfl⟩) ?_
                  refine lv_icmp_ne (tgt := 259) hx hb dX8_coin_252 (by decide) (fun c_252 => ?_) (fun c_252 => ?_)
                  · skip
                    refine lv_iconst (v := 0) hx hb dX8_coin_259 (by decide) ?_
                    refine lv_topi (fun w8 e8 => ?_)
                    have e9 : w8 = (bI (∀ i : Nat, i < (k + 1) → ld1 m0 m7 m1 vt ve ut ue sha shb sa sb i)) := (by rw [e8]; exact bI_f (fun h => c_252 (h k (by omega)).2.symm))
                    clear e8
                    subst e9
                    refine lv_istore_n (lv' := [(2, .int (bI (∀ i : Nat, i < (k + 1) → ld1 m0 m7 m1 vt ve ut ue sha shb sa sb i))), (6, .int ((40 * m26) + (ut k))), (5, .int (mn m1 (ue k) (ve k))), (4, .int (vt k)), (0, .ref h0), (1, .int v), (3, .int z)]) hx hb dX8_coin_260 rfl hl (by decide) rfl (fun ls hl => ?_)
                    refine lv_iinc (v := (z + 1)) (lv' := [(3, .int (z + 1)), (2, .int (bI (∀ i : Nat, i < (k + 1) → ld1 m0 m7 m1 vt ve ut ue sha shb sa sb i))), (6, .int ((40 * m26) + (ut k))), (5, .int (mn m1 (ue k) (ve k))), (4, .int (vt k)), (0, .ref h0), (1, .int v)]) hx hb dX8_coin_261 hl (k := 6) rfl rfl (by decide) rfl (fun ls hl => ?_)
                    refine lv_goto (tgt := 22) hx hb dX8_coin_264 (by decide) ?_
                    have hk := lp_lt hz hnb (by omega) h2 c_27
                    have e9 : (upd (scat (nt vt) ut wtf k) (vt k).toNatClampNeg (ut k)) = (scat (nt vt) ut wtf (k + 1)) := scat_s rfl rfl
                    have hP := va_P.arr (g' := (scat (nt vt) ut wtf (k + 1))) hP 9 rfl (fun j _ => congrFun e9 j)
                    have hD := va_D.arr (g' := (scat (nt vt) ut wtf (k + 1))) hD 9 rfl
                    clear e9
                    have e9 : (upd (scat (nt vt) (fun i => mn m1 (ue i) (ve i)) wyf k) (vt k).toNatClampNeg (mn m1 (ue k) (ve k))) = (scat (nt vt) (fun i => mn m1 (ue i) (ve i)) wyf (k + 1)) := scat_s rfl rfl
                    have hP := va_P.arr (g' := (scat (nt vt) (fun i => mn m1 (ue i) (ve i)) wyf (k + 1))) hP 10 rfl (fun j _ => congrFun e9 j)
                    have hD := va_D.arr (g' := (scat (nt vt) (fun i => mn m1 (ue i) (ve i)) wyf (k + 1))) hD 10 rfl
                    clear e9
                    have hP : va_P D vwCl [(h0, .inr (7, [.int m0, .int m1, .int m2, .int m3, .int m4, .ref m5, .int m6, .int m7, .int m8, .ref m9, .ref m10, .ref m11, .int m12, .ref m13, .ref m14, .ref m15, .ref m16, .int m17, .ref m18, .ref m19, .ref m20, .ref m21, .ref m22, .ref m23, .ref m24, .ref m25, .int m26, .int m27, .int m28, .int m29, .int m30, .int m31, .ref m32, .ref m33, .ref m34, .ref m35, .int m36, .ref m37, .int m38, .ref m39, .ref m40, .ref m41, .ref m42, .ref m43])), (m24, .inl (cA 0, 40, .inl stf)), (m25, .inl (cA 0, 40, .inl syf)), (m15, .inl (cA 0, 40, .inl saf)), (m16, .inl (cA 0, 40, .inl sbf)), (m13, .inl (cA 0, 200, .inl laf)), (m14, .inl (cA 0, 200, .inl lbf)), (m22, .inl (cA 0, 40, .inl mtf)), (m23, .inl (cA 0, 40, .inl mbf)), (m32, .inl (cA 0, 40, .inl (scat (nt vt) ut wtf (k + 1)))), (m33, .inl (cA 0, 40, .inl (scat (nt vt) (fun i => mn m1 (ue i) (ve i)) wyf (k + 1)))), (m39, .inl (cA 0, 600, .inl kf)), (m40, .inl (cA 2, 600, .inr (.inl (fun i => (xf i).toInt64)))), (m41, .inl (cA 2, 600, .inr (.inl (fun i => (yf i).toInt64)))), (m42, .inl (cA 2, 600, .inr (.inl zf))), (m43, .inl (cA 2, 600, .inr (.inl cf)))] H := hP
                    have hD : va_D A [(h0, .inr (7, [.int m0, .int m1, .int m2, .int m3, .int m4, .ref m5, .int m6, .int m7, .int m8, .ref m9, .ref m10, .ref m11, .int m12, .ref m13, .ref m14, .ref m15, .ref m16, .int m17, .ref m18, .ref m19, .ref m20, .ref m21, .ref m22, .ref m23, .ref m24, .ref m25, .int m26, .int m27, .int m28, .int m29, .int m30, .int m31, .ref m32, .ref m33, .ref m34, .ref m35, .int m36, .ref m37, .int m38, .ref m39, .ref m40, .ref m41, .ref m42, .ref m43])), (m24, .inl (cA 0, 40, .inl stf)), (m25, .inl (cA 0, 40, .inl syf)), (m15, .inl (cA 0, 40, .inl saf)), (m16, .inl (cA 0, 40, .inl sbf)), (m13, .inl (cA 0, 200, .inl laf)), (m14, .inl (cA 0, 200, .inl lbf)), (m22, .inl (cA 0, 40, .inl mtf)), (m23, .inl (cA 0, 40, .inl mbf)), (m32, .inl (cA 0, 40, .inl (scat (nt vt) ut wtf (k + 1)))), (m33, .inl (cA 0, 40, .inl (scat (nt vt) (fun i => mn m1 (ue i) (ve i)) wyf (k + 1)))), (m39, .inl (cA 0, 600, .inl kf)), (m40, .inl (cA 2, 600, .inr (.inl (fun i => (xf i).toInt64)))), (m41, .inl (cA 2, 600, .inr (.inl (fun i => (yf i).toInt64)))), (m42, .inl (cA 2, 600, .inr (.inl zf))), (m43, .inl (cA 2, 600, .inr (.inl cf)))] := hD
                    exact ih (k + 1) (z + 1) _ (st_1 hz) (by omega) (by omega) rfl _ _ hP hD hS ls (lv_sub hl [5, 6, 1, 0] rfl)
                  · skip
                    refine lv_iconst (v := 1) hx hb dX8_coin_255 (by decide) ?_
                    refine lv_goto (tgt := 260) hx hb dX8_coin_256 (by decide) ?_
                    refine lv_topi (fun w8 e8 => ?_)
                    have e9 : w8 = (bI (∀ i : Nat, i < (k + 1) → ld1 m0 m7 m1 vt ve ut ue sha shb sa sb i)) := (by rw [e8]; exact bI_t (l1_next (bI_1 (fun q => c_193 (hg.trans q))) c_221.symm c_252.symm))
                    clear e8
                    subst e9
                    refine lv_istore_n (lv' := [(2, .int (bI (∀ i : Nat, i < (k + 1) → ld1 m0 m7 m1 vt ve ut ue sha shb sa sb i))), (6, .int ((40 * m26) + (ut k))), (5, .int (mn m1 (ue k) (ve k))), (4, .int (vt k)), (0, .ref h0), (1, .int v), (3, .int z)]) hx hb dX8_coin_260 rfl hl (by decide) rfl (fun ls hl => ?_)
                    refine lv_iinc (v := (z + 1)) (lv' := [(3, .int (z + 1)), (2, .int (bI (∀ i : Nat, i < (k + 1) → ld1 m0 m7 m1 vt ve ut ue sha shb sa sb i))), (6, .int ((40 * m26) + (ut k))), (5, .int (mn m1 (ue k) (ve k))), (4, .int (vt k)), (0, .ref h0), (1, .int v)]) hx hb dX8_coin_261 hl (k := 6) rfl rfl (by decide) rfl (fun ls hl => ?_)
                    refine lv_goto (tgt := 22) hx hb dX8_coin_264 (by decide) ?_
                    have hk := lp_lt hz hnb (by omega) h2 c_27
                    have e9 : (upd (scat (nt vt) ut wtf k) (vt k).toNatClampNeg (ut k)) = (scat (nt vt) ut wtf (k + 1)) := scat_s rfl rfl
                    have hP := va_P.arr (g' := (scat (nt vt) ut wtf (k + 1))) hP 9 rfl (fun j _ => congrFun e9 j)
                    have hD := va_D.arr (g' := (scat (nt vt) ut wtf (k + 1))) hD 9 rfl
                    clear e9
                    have e9 : (upd (scat (nt vt) (fun i => mn m1 (ue i) (ve i)) wyf k) (vt k).toNatClampNeg (mn m1 (ue k) (ve k))) = (scat (nt vt) (fun i => mn m1 (ue i) (ve i)) wyf (k + 1)) := scat_s rfl rfl
                    have hP := va_P.arr (g' := (scat (nt vt) (fun i => mn m1 (ue i) (ve i)) wyf (k + 1))) hP 10 rfl (fun j _ => congrFun e9 j)
                    have hD := va_D.arr (g' := (scat (nt vt) (fun i => mn m1 (ue i) (ve i)) wyf (k + 1))) hD 10 rfl
                    clear e9
                    have hP : va_P D vwCl [(h0, .inr (7, [.int m0, .int m1, .int m2, .int m3, .int m4, .ref m5, .int m6, .int m7, .int m8, .ref m9, .ref m10, .ref m11, .int m12, .ref m13, .ref m14, .ref m15, .ref m16, .int m17, .ref m18, .ref m19, .ref m20, .ref m21, .ref m22, .ref m23, .ref m24, .ref m25, .int m26, .int m27, .int m28, .int m29, .int m30, .int m31, .ref m32, .ref m33, .ref m34, .ref m35, .int m36, .ref m37, .int m38, .ref m39, .ref m40, .ref m41, .ref m42, .ref m43])), (m24, .inl (cA 0, 40, .inl stf)), (m25, .inl (cA 0, 40, .inl syf)), (m15, .inl (cA 0, 40, .inl saf)), (m16, .inl (cA 0, 40, .inl sbf)), (m13, .inl (cA 0, 200, .inl laf)), (m14, .inl (cA 0, 200, .inl lbf)), (m22, .inl (cA 0, 40, .inl mtf)), (m23, .inl (cA 0, 40, .inl mbf)), (m32, .inl (cA 0, 40, .inl (scat (nt vt) ut wtf (k + 1)))), (m33, .inl (cA 0, 40, .inl (scat (nt vt) (fun i => mn m1 (ue i) (ve i)) wyf (k + 1)))), (m39, .inl (cA 0, 600, .inl kf)), (m40, .inl (cA 2, 600, .inr (.inl (fun i => (xf i).toInt64)))), (m41, .inl (cA 2, 600, .inr (.inl (fun i => (yf i).toInt64)))), (m42, .inl (cA 2, 600, .inr (.inl zf))), (m43, .inl (cA 2, 600, .inr (.inl cf)))] H := hP
                    have hD : va_D A [(h0, .inr (7, [.int m0, .int m1, .int m2, .int m3, .int m4, .ref m5, .int m6, .int m7, .int m8, .ref m9, .ref m10, .ref m11, .int m12, .ref m13, .ref m14, .ref m15, .ref m16, .int m17, .ref m18, .ref m19, .ref m20, .ref m21, .ref m22, .ref m23, .ref m24, .ref m25, .int m26, .int m27, .int m28, .int m29, .int m30, .int m31, .ref m32, .ref m33, .ref m34, .ref m35, .int m36, .ref m37, .int m38, .ref m39, .ref m40, .ref m41, .ref m42, .ref m43])), (m24, .inl (cA 0, 40, .inl stf)), (m25, .inl (cA 0, 40, .inl syf)), (m15, .inl (cA 0, 40, .inl saf)), (m16, .inl (cA 0, 40, .inl sbf)), (m13, .inl (cA 0, 200, .inl laf)), (m14, .inl (cA 0, 200, .inl lbf)), (m22, .inl (cA 0, 40, .inl mtf)), (m23, .inl (cA 0, 40, .inl mbf)), (m32, .inl (cA 0, 40, .inl (scat (nt vt) ut wtf (k + 1)))), (m33, .inl (cA 0, 40, .inl (scat (nt vt) (fun i => mn m1 (ue i) (ve i)) wyf (k + 1)))), (m39, .inl (cA 0, 600, .inl kf)), (m40, .inl (cA 2, 600, .inr (.inl (fun i => (xf i).toInt64)))), (m41, .inl (cA 2, 600, .inr (.inl (fun i => (yf i).toInt64)))), (m42, .inl (cA 2, 600, .inr (.inl zf))), (m43, .inl (cA 2, 600, .inr (.inl cf)))] := hD
                    exact ih (k + 1) (z + 1) _ (st_1 hz) (by omega) (by omega) rfl _ _ hP hD hS ls (lv_sub hl [5, 6, 1, 0] rfl)
            · exact absurd c_39 (by rw [hv]; decide)
      exact loop22 (b0 + 1) 0 0 1 rfl (by omega) (by omega) (bI_t (fun i h => by omega)) _ _ hP hD hS ls (lv_sub hl [2, 3, 1, 0] rfl)
    · exact absurd (show 0 ≤ v ∧ v ≤ 1 by rw [hv]; decide) (bI_0 c_13)

set_option maxHeartbeats 4000000 in
set_option maxRecDepth 100000 in
theorem c_X8_shareOf (l : Launch) (D : va_G) (cA : Nat → ClassId) (h0 : Nat) (m0 : Int32) (m1 : Int32) (m2 : Int32) (m3 : Int32) (m4 : Int32) (m5 : Nat) (m6 : Int32) (m7 : Int32) (m8 : Int32) (m9 : Nat) (m10 : Nat) (m11 : Nat) (m12 : Int32) (m13 : Nat) (m14 : Nat) (m15 : Nat) (m16 : Nat) (m17 : Int32) (m18 : Nat) (m19 : Nat) (m20 : Nat) (m21 : Nat) (m22 : Nat) (m23 : Nat) (m24 : Nat) (m25 : Nat) (m26 : Int32) (m27 : Int32) (m28 : Int32) (m29 : Int32) (m30 : Int32) (m31 : Int32) (m32 : Nat) (m33 : Nat) (m34 : Nat) (m35 : Nat) (m36 : Int32) (m37 : Nat) (m38 : Int32) (m39 : Nat) (m40 : Nat) (m41 : Nat) (m42 : Nat) (m43 : Nat) (j : Int32) (j0 : Nat) (k0 : Nat) (q0 : Nat) (cf_ : Nat → Int32) (htk : m4 = nI k0) (hk5 : k0 ≤ 5) (hgq : m1 = nI q0) (hq1 : 5 ≤ q0 ∧ q0 < 1000000) (hj : j = nI j0) (hj5 : j0 ≤ 5) (hcf : ∀ i : Nat, i < k0 → nn (cf_ i) ∧ nt cf_ i < q0) : Met l yX8_shareOf wsX8_shareOf ({ frames := 0, cells := 0, slots := 0, locals := 0 }) (rPc vwCl D cA [(h0, .inr (7, [.int m0, .int m1, .int m2, .int m3, .int m4, .ref m5, .int m6, .int m7, .int m8, .ref m9, .ref m10, .ref m11, .int m12, .ref m13, .ref m14, .ref m15, .ref m16, .int m17, .ref m18, .ref m19, .ref m20, .ref m21, .ref m22, .ref m23, .ref m24, .ref m25, .int m26, .int m27, .int m28, .int m29, .int m30, .int m31, .ref m32, .ref m33, .ref m34, .ref m35, .int m36, .ref m37, .int m38, .ref m39, .ref m40, .ref m41, .ref m42, .ref m43])), (m5, .inl (cA 0, 5, .inl cf_))] [.ref h0, .int j]) (rq_x (some (.int (shr m1 j cf_ k0 0)))) 0 0 (fun _ => False) := by
  refine Met.ofW (cc := cX8_shareOf) (maxL := 5) (ret := (some .int)) (by decide) rfl ?_
  intro p e s m args below meth c s₁ B hml hv
  obtain ⟨rfl, hP, hK⟩ := hv
  have hx := B.exec
  have hb := B.bytes
  have hr := B.returns
  have hts := atoms_spec (ws := wsX8_shareOf) B.pre
  have hown : s.vm.findClass RX8 = some m.cls := findClass_of_methodNamed B.named
  have hlocks := B.notSynchronized
  have hin_X8 : ∀ w ∈ wsX80, w ∈ wsX8_shareOf := fun w h => List.mem_cons_of_mem _ (List.mem_append_right _ h)
  have w_RX8_112 := hts (.fieldLink RX8 112 "MixElectionModel" "threshold" "I") (by decide +kernel)
  have w_RX8_7 := hts (.fieldLink RX8 7 "MixElectionModel" "secret" "[I") (by decide +kernel)
  have w_RX8_103 := hts (.fieldLink RX8 103 "MixElectionModel" "q" "I") (by decide +kernel)
  have hl := lv_entry ([.ref h0, .int j]) (n := 5) (Nat.le_of_ble_eq_true rfl)
  rw [lg_entry_eq]
  generalize (lg_sl ([.ref h0, .int j]) ++ List.replicate (5 - (lg_sl ([.ref h0, .int j])).length) Slot.unset).toArray = ls at hl ⊢
  have hl : lv_has ls 5 [(0, .ref h0), (1, .int j)] := hl
  refine lv_lconst (v := 0) hx hb dX8_shareOf_0 (by decide) ?_
  refine lv_lstore_n (lv' := [(2, .long 0), (0, .ref h0), (1, .int j)]) hx hb dX8_shareOf_1 rfl hl (by decide) rfl (fun ls hl => ?_)
  refine lv_aload_n hx hb dX8_shareOf_2 rfl (lv_at hl 1 rfl) ?_
  refine va_get (D := D) (ci := 7) (v := .int m4) (C := RX8) (T := TX8) (N := 44) hx hb hts hin_X8 hown hK hP 0 rfl rfl 4 (by decide) (w_RX8_112) (fun _ h9 => h9) rfl dX8_shareOf_3 ?_
  refine lv_iconst (v := 1) hx hb dX8_shareOf_6 (by decide) ?_
  refine lv_isub hx hb dX8_shareOf_7 ?_
  refine lv_istore (lv' := [(4, .int (m4 - 1)), (2, .long 0), (0, .ref h0), (1, .int j)]) hx hb dX8_shareOf_8 hl (by decide) rfl (fun ls hl => ?_)
  have loop10 : ∀ (f_ k a : Nat) (z v : Int32) (d : Int64), z = nI k - 1 → k < f_ → k ≤ k0 → shr m1 j cf_ k v = shr m1 j cf_ k0 0 → d = v.toInt64 → v = nI a → a < q0 → ∀ ls : Array Slot, lv_has ls 5 [(0, .ref h0), (1, .int j), (2, .long d), (4, .int z)] → W p l e (headSpec wsX8_shareOf ({ frames := 0, cells := 0, slots := 0, locals := 0 })).room s m [.ref h0, .int j].toArray below meth c s.heap [] 0 0 (MQ below (rq_x (some (.int (shr m1 j cf_ k0 0)))) [.ref h0, .int j].toArray s 0 0 (fun _ => False)) (F0 m 10 ls []) := by
    intro f
    induction f with
    | zero =>
      intro k a z v d hz h1
      omega
    | succ f ih =>
      intro k a z v d hz h1 h2 hv hd ha ha1 ls hl
      refine lv_iload hx hb dX8_shareOf_10 (lv_at hl 3 rfl) ?_
      refine lv_if_lt (tgt := 41) hx hb dX8_shareOf_12 (by decide) (fun c_12 => ?_) (fun c_12 => ?_)
      · skip
        refine lv_lload_n hx hb dX8_shareOf_41 rfl (lv_at hl 2 rfl) ?_
        refine lv_l2i hx hb dX8_shareOf_42 rfl ?_
        exact W.iret (v := d.toInt32) hx hb hr (fun t ht hW => ⟨congrArg (fun z => Outcome.returned (some (Value.int z))) ((by rw [hd]; exact so8_end hz (by omega) c_12 ha (by omega) hv)), ht⟩) (fun _ h => by cases h) dX8_shareOf_43
      · skip
        obtain ⟨k2, hk2, hz2⟩ := so_pos hz (by omega) c_12
        subst hk2
        refine lv_lload_n hx hb dX8_shareOf_15 rfl (lv_at hl 2 rfl) ?_
        refine lv_iload_n hx hb dX8_shareOf_16 rfl (lv_at hl 1 rfl) ?_
        refine lv_i2l hx hb dX8_shareOf_17 rfl ?_
        refine lv_lmul hx hb dX8_shareOf_18 ?_
        refine lv_aload_n hx hb dX8_shareOf_19 rfl (lv_at hl 0 rfl) ?_
        refine va_get (D := D) (ci := 7) (v := .ref m5) (C := RX8) (T := TX8) (N := 44) hx hb hts hin_X8 hown hK hP 0 rfl rfl 5 (by decide) (w_RX8_7) (fun _ h9 => h9) rfl dX8_shareOf_20 ?_
        refine lv_iload hx hb dX8_shareOf_23 (lv_at hl 3 rfl) ?_
        refine va_iald hx hb hK hP 1 0 rfl rfl (by rw [hz2]; exact vp_in_nI (by omega) (by omega)) dX8_shareOf_25 ?_
        refine lv_i2l hx hb dX8_shareOf_26 rfl ?_
        refine lv_ladd hx hb dX8_shareOf_27 ?_
        refine lv_aload_n hx hb dX8_shareOf_28 rfl (lv_at hl 0 rfl) ?_
        refine va_get (D := D) (ci := 7) (v := .int m1) (C := RX8) (T := TX8) (N := 44) hx hb hts hin_X8 hown hK hP 0 rfl rfl 1 (by decide) (w_RX8_103) (fun _ h9 => h9) rfl dX8_shareOf_29 ?_
        refine lv_i2l hx hb dX8_shareOf_32 rfl ?_
        refine lv_lrem hx hb dX8_shareOf_33 (tm_ne (iv_p hgq (by omega) hq1.2)) ?_
        refine lv_topl (fun w8 e8 => ?_)
        have e9 : w8 = ((pl m1 (tm m1 v j) (cf_ k2)).toInt64) := (by rw [e8, hd, i8_k hz2 (by omega)]; exact so8 hgq hq1 ha ha1 hj hj5 (hcf k2 (by omega)))
        clear e8
        subst e9
        refine lv_lstore_n (lv' := [(2, .long ((pl m1 (tm m1 v j) (cf_ k2)).toInt64)), (0, .ref h0), (1, .int j), (4, .int z)]) hx hb dX8_shareOf_34 rfl hl (by decide) rfl (fun ls hl => ?_)
        refine lv_iinc (v := (z + (-1))) (lv' := [(4, .int (z + (-1))), (2, .long ((pl m1 (tm m1 v j) (cf_ k2)).toInt64)), (0, .ref h0), (1, .int j)]) hx hb dX8_shareOf_35 hl (k := 3) rfl rfl (by decide) rfl (fun ls hl => ?_)
        refine lv_goto (tgt := 10) hx hb dX8_shareOf_38 (by decide) ?_
        obtain ⟨a2, ha2, ha3⟩ := so8_n hgq hq1 ha ha1 hj hj5 (hcf k2 (by omega))
        exact ih k2 a2 (z + (-1)) _ _ (so_dec hz2) (by omega) (by omega) hv rfl ha2 ha3 ls (lv_sub hl [2, 3, 1, 0] rfl)
  exact loop10 (k0 + 1) k0 0 _ 0 0 (by rw [htk]) (by omega) (by omega) rfl rfl rfl (by omega) ls (lv_sub hl [2, 3, 1, 0] rfl)

set_option maxHeartbeats 4000000 in
set_option maxRecDepth 100000 in
theorem c_X8_share_no (l : Launch) (D : va_G) (cA : Nat → ClassId) (h0 : Nat) (m0 : Int32) (m1 : Int32) (m2 : Int32) (m3 : Int32) (m4 : Int32) (m5 : Nat) (m6 : Int32) (m7 : Int32) (m8 : Int32) (m9 : Nat) (m10 : Nat) (m11 : Nat) (m12 : Int32) (m13 : Nat) (m14 : Nat) (m15 : Nat) (m16 : Nat) (m17 : Int32) (m18 : Nat) (m19 : Nat) (m20 : Nat) (m21 : Nat) (m22 : Nat) (m23 : Nat) (m24 : Nat) (m25 : Nat) (m26 : Int32) (m27 : Int32) (m28 : Int32) (m29 : Int32) (m30 : Int32) (m31 : Int32) (m32 : Nat) (m33 : Nat) (m34 : Nat) (m35 : Nat) (m36 : Int32) (m37 : Nat) (m38 : Int32) (m39 : Nat) (m40 : Nat) (m41 : Nat) (m42 : Nat) (m43 : Nat) (j : Int32) (t0 : Nat) (mx0 : Nat) (gvn : Nat → Int32) (hno : ¬ (m6 = 2 ∧ ¬ m26 < 1 ∧ m28 = 0 ∧ ((1 ≤ j ∧ j ≤ m3) ∧ gvn j.toNatClampNeg = 0))) (hts0 : m3 = nI t0) (ht5 : t0 ≤ 5) (hmx : m26 = nI mx0) (hmx5 : mx0 ≤ 4) : Met l yX8_share wsX8_share ({ frames := 1, cells := 0, slots := 0, locals := 22 }) (rPc vwCl D cA [(h0, .inr (7, [.int m0, .int m1, .int m2, .int m3, .int m4, .ref m5, .int m6, .int m7, .int m8, .ref m9, .ref m10, .ref m11, .int m12, .ref m13, .ref m14, .ref m15, .ref m16, .int m17, .ref m18, .ref m19, .ref m20, .ref m21, .ref m22, .ref m23, .ref m24, .ref m25, .int m26, .int m27, .int m28, .int m29, .int m30, .int m31, .ref m32, .ref m33, .ref m34, .ref m35, .int m36, .ref m37, .int m38, .ref m39, .ref m40, .ref m41, .ref m42, .ref m43])), (m34, .inl (cA 1, 6, .inl gvn))] [.ref h0, .int j]) (rq_x (some (.int (-1)))) 0 0 (fun _ => False) := by
  refine Met.ofW (cc := cX8_share) (maxL := 7) (ret := (some .int)) (by decide) rfl ?_
  intro p e s m args below meth c s₁ B hml hv
  obtain ⟨rfl, hP, hK⟩ := hv
  have hx := B.exec
  have hb := B.bytes
  have hr := B.returns
  have hts := atoms_spec (ws := wsX8_share) B.pre
  have hown : s.vm.findClass RX8 = some m.cls := findClass_of_methodNamed B.named
  have hlocks := B.notSynchronized
  have hin_X8 : ∀ w ∈ wsX80, w ∈ wsX8_share := fun w h => List.mem_cons_of_mem _ (List.mem_append_right _ h)
  have w_RX8_140 := hts (.fieldLink RX8 140 "MixElectionModel" "stage" "I") (by decide +kernel)
  have w_RX8_109 := hts (.fieldLink RX8 109 "MixElectionModel" "trustees" "I") (by decide +kernel)
  have w_RX8_65 := hts (.fieldLink RX8 65 "MixElectionModel" "hasGiven" "[Z") (by decide +kernel)
  have w_RX8_191 := hts (.fieldLink RX8 191 "MixElectionModel" "mixes" "I") (by decide +kernel)
  have w_RX8_181 := hts (.fieldLink RX8 181 "MixElectionModel" "isDue" "Z") (by decide +kernel)
  have hl := lv_entry ([.ref h0, .int j]) (n := 7) (Nat.le_of_ble_eq_true rfl)
  rw [lg_entry_eq]
  generalize (lg_sl ([.ref h0, .int j]) ++ List.replicate (7 - (lg_sl ([.ref h0, .int j])).length) Slot.unset).toArray = ls at hl ⊢
  have hl : lv_has ls 7 [(0, .ref h0), (1, .int j)] := hl
  refine lv_aload_n hx hb dX8_share_0 rfl (lv_at hl 0 rfl) ?_
  refine va_get (D := D) (ci := 7) (v := .int m6) (C := RX8) (T := TX8) (N := 44) hx hb hts hin_X8 hown hK hP 0 rfl rfl 6 (by decide) (w_RX8_140) (fun _ h9 => h9) rfl dX8_share_1 ?_
  refine lv_iconst (v := 2) hx hb dX8_share_4 (by decide) ?_
  refine lv_icmp_ne (tgt := 43) hx hb dX8_share_5 (by decide) (fun c_5 => ?_) (fun c_5 => ?_)
  · skip
    refine lv_iconst (v := (-1)) hx hb dX8_share_43 (by decide) ?_
    exact W.iret (v := (-1)) hx hb hr (fun t ht hW => ⟨congrArg (fun z => Outcome.returned (some (Value.int z))) (rfl), ht⟩) (fun _ h => by cases h) dX8_share_44
  · skip
    refine lv_iload_n hx hb dX8_share_8 rfl (lv_at hl 1 rfl) ?_
    refine lv_iconst (v := 1) hx hb dX8_share_9 (by decide) ?_
    refine lv_aload_n hx hb dX8_share_10 rfl (lv_at hl 0 rfl) ?_
    refine va_get (D := D) (ci := 7) (v := .int m3) (C := RX8) (T := TX8) (N := 44) hx hb hts hin_X8 hown hK hP 0 rfl rfl 3 (by decide) (w_RX8_109) (fun _ h9 => h9) rfl dX8_share_11 ?_
    refine rq_call1 (v := .int (bI (1 ≤ j ∧ j ≤ m3))) (rn_S (As := [.int j, .int 1, .int m3]) (rest := []) ⟨hx, hb, hml, hown, hts⟩ (c_X8_in l D cA j 1 m3) (va_cwS 3 hts gX8_share_X8_in rfl rfl rfl (by decide +kernel) ⟨Nat.le_of_ble_eq_true rfl, Nat.le_of_ble_eq_true rfl⟩) hK hP [] rfl rfl hl.1 rfl (Nat.le_of_ble_eq_true rfl) dX8_share_14 ⟨Nat.le_of_ble_eq_true rfl, Nat.le_of_ble_eq_true rfl⟩) ?_
    refine lv_if_eq (tgt := 43) hx hb dX8_share_17 (by decide) (fun c_17 => ?_) (fun c_17 => ?_)
    · skip
      refine lv_iconst (v := (-1)) hx hb dX8_share_43 (by decide) ?_
      exact W.iret (v := (-1)) hx hb hr (fun t ht hW => ⟨congrArg (fun z => Outcome.returned (some (Value.int z))) (rfl), ht⟩) (fun _ h => by cases h) dX8_share_44
    · skip
      refine lv_aload_n hx hb dX8_share_20 rfl (lv_at hl 0 rfl) ?_
      refine va_get (D := D) (ci := 7) (v := .ref m34) (C := RX8) (T := TX8) (N := 44) hx hb hts hin_X8 hown hK hP 0 rfl rfl 34 (by decide) (w_RX8_65) (fun _ h9 => h9) rfl dX8_share_21 ?_
      refine lv_iload_n hx hb dX8_share_24 rfl (lv_at hl 1 rfl) ?_
      refine va_zald hx hb hK hP 1 1 rfl rfl (gv_in (bI_1 c_17) hts0 ht5) dX8_share_25 ?_
      refine lv_if_ne (tgt := 43) hx hb dX8_share_26 (by decide) (fun c_26 => ?_) (fun c_26 => ?_)
      · skip
        refine lv_iconst (v := (-1)) hx hb dX8_share_43 (by decide) ?_
        exact W.iret (v := (-1)) hx hb hr (fun t ht hW => ⟨congrArg (fun z => Outcome.returned (some (Value.int z))) (rfl), ht⟩) (fun _ h => by cases h) dX8_share_44
      · skip
        refine lv_aload_n hx hb dX8_share_29 rfl (lv_at hl 0 rfl) ?_
        refine va_get (D := D) (ci := 7) (v := .int m26) (C := RX8) (T := TX8) (N := 44) hx hb hts hin_X8 hown hK hP 0 rfl rfl 26 (by decide) (w_RX8_191) (fun _ h9 => h9) rfl dX8_share_30 ?_
        refine lv_if_eq (tgt := 43) hx hb dX8_share_33 (by decide) (fun c_33 => ?_) (fun c_33 => ?_)
        · skip
          refine lv_iconst (v := (-1)) hx hb dX8_share_43 (by decide) ?_
          exact W.iret (v := (-1)) hx hb hr (fun t ht hW => ⟨congrArg (fun z => Outcome.returned (some (Value.int z))) (rfl), ht⟩) (fun _ h => by cases h) dX8_share_44
        · skip
          refine lv_aload_n hx hb dX8_share_36 rfl (lv_at hl 0 rfl) ?_
          refine va_get (D := D) (ci := 7) (v := .int m28) (C := RX8) (T := TX8) (N := 44) hx hb hts hin_X8 hown hK hP 0 rfl rfl 28 (by decide) (w_RX8_181) (fun _ h9 => h9) rfl dX8_share_37 ?_
          refine lv_if_eq (tgt := 45) hx hb dX8_share_40 (by decide) (fun c_40 => ?_) (fun c_40 => ?_)
          · skip
            exact absurd ⟨c_5, (ne_0 hmx (by omega)).mpr c_33, c_40, bI_1 c_17, c_26⟩ hno
          · skip
            refine lv_iconst (v := (-1)) hx hb dX8_share_43 (by decide) ?_
            exact W.iret (v := (-1)) hx hb hr (fun t ht hW => ⟨congrArg (fun z => Outcome.returned (some (Value.int z))) (rfl), ht⟩) (fun _ h => by cases h) dX8_share_44

set_option maxHeartbeats 4000000 in
set_option maxRecDepth 100000 in
theorem c_X8_share_ok (l : Launch) (D : va_G) (cA : Nat → ClassId) (h0 : Nat) (m0 : Int32) (m1 : Int32) (m2 : Int32) (m3 : Int32) (m4 : Int32) (m5 : Nat) (m6 : Int32) (m7 : Int32) (m8 : Int32) (m9 : Nat) (m10 : Nat) (m11 : Nat) (m12 : Int32) (m13 : Nat) (m14 : Nat) (m15 : Nat) (m16 : Nat) (m17 : Int32) (m18 : Nat) (m19 : Nat) (m20 : Nat) (m21 : Nat) (m22 : Nat) (m23 : Nat) (m24 : Nat) (m25 : Nat) (m26 : Int32) (m27 : Int32) (m28 : Int32) (m29 : Int32) (m30 : Int32) (m31 : Int32) (m32 : Nat) (m33 : Nat) (m34 : Nat) (m35 : Nat) (m36 : Int32) (m37 : Nat) (m38 : Int32) (m39 : Nat) (m40 : Nat) (m41 : Nat) (m42 : Nat) (m43 : Nat) (j : Int32) (j0 : Nat) (t0 : Nat) (mx0 : Nat) (b0 : Nat) (k0 : Nat) (q0 : Nat) (p0 : Nat) (e0 : Nat) (n0 : Nat) (cf_ : Nat → Int32) (gvn : Nat → Int32) (gvf : Nat → Int32) (laf : Nat → Int32) (sa : Nat → Int32) (kf : Nat → Int32) (xf : Nat → Int32) (yf : Nat → Int32) (zf : Nat → Int64) (cf : Nat → Int64) (hok : m6 = 2 ∧ ¬ m26 < 1 ∧ m28 = 0 ∧ ((1 ≤ j ∧ j ≤ m3) ∧ gvn j.toNatClampNeg = 0)) (hts0 : m3 = nI t0) (ht5 : t0 ≤ 5) (hmx : m26 = nI mx0) (hmx5 : mx0 ≤ 4) (hnb : m12 = nI b0) (hb4 : b0 ≤ 40) (htk : m4 = nI k0) (hk5 : k0 ≤ 5) (hgq : m1 = nI q0) (hq1 : 5 ≤ q0 ∧ q0 < 1000000) (hgp : m0 = nI p0) (hp1 : 2 ≤ p0 ∧ p0 < 1000000) (hj : j = nI j0) (hj5 : j0 ≤ 5) (hcf : ∀ i : Nat, i < k0 → nn (cf_ i) ∧ nt cf_ i < q0) (hsa : ∀ i : Nat, i < b0 → laf (40 * mx0 + i) = sa i) (he0 : shr m1 j cf_ k0 0 = nI e0) (he9 : e0 < 2 ^ 31) (hbn : m38 = nI n0) (h6 : n0 < 600) : Met l yX8_share wsX8_share ({ frames := 2, cells := 0, slots := 0, locals := 52 }) (wPc vwCl D cA [(h0, .inr (7, [.int m0, .int m1, .int m2, .int m3, .int m4, .ref m5, .int m6, .int m7, .int m8, .ref m9, .ref m10, .ref m11, .int m12, .ref m13, .ref m14, .ref m15, .ref m16, .int m17, .ref m18, .ref m19, .ref m20, .ref m21, .ref m22, .ref m23, .ref m24, .ref m25, .int m26, .int m27, .int m28, .int m29, .int m30, .int m31, .ref m32, .ref m33, .ref m34, .ref m35, .int m36, .ref m37, .int m38, .ref m39, .ref m40, .ref m41, .ref m42, .ref m43])), (m5, .inl (cA 0, 5, .inl cf_)), (m34, .inl (cA 1, 6, .inl gvn)), (m35, .inl (cA 0, 240, .inl gvf)), (m13, .inl (cA 0, 200, .inl laf)), (m39, .inl (cA 0, 600, .inl kf)), (m40, .inl (cA 2, 600, .inr (.inl (fun i => (xf i).toInt64)))), (m41, .inl (cA 2, 600, .inr (.inl (fun i => (yf i).toInt64)))), (m42, .inl (cA 2, 600, .inr (.inl zf))), (m43, .inl (cA 2, 600, .inr (.inl cf)))] [.ref h0, .int j]) (wq_x vwCl D [(h0, .inr (7, [.int m0, .int m1, .int m2, .int m3, .int m4, .ref m5, .int m6, .int m7, .int m8, .ref m9, .ref m10, .ref m11, .int m12, .ref m13, .ref m14, .ref m15, .ref m16, .int m17, .ref m18, .ref m19, .ref m20, .ref m21, .ref m22, .ref m23, .ref m24, .ref m25, .int m26, .int m27, .int m28, .int m29, .int m30, .int m31, .ref m32, .ref m33, .ref m34, .ref m35, .int (m36 + 1), .ref m37, .int (m38 + 1), .ref m39, .ref m40, .ref m41, .ref m42, .ref m43])), (m5, .inl (cA 0, 5, .inl cf_)), (m34, .inl (cA 1, 6, .inl (upd gvn j.toNatClampNeg (vp_nar .boolean 1)))), (m35, .inl (cA 0, 240, .inl (scat (fun i => 40 * j0 + i) (fun i => pw m0 32 e0 1 (sa i)) gvf b0))), (m13, .inl (cA 0, 200, .inl laf)), (m39, .inl (cA 0, 600, .inl (upd kf m38.toNatClampNeg 7))), (m40, .inl (cA 2, 600, .inr (.inl (fun i => ((upd xf m38.toNatClampNeg j) i).toInt64)))), (m41, .inl (cA 2, 600, .inr (.inl (fun i => ((upd yf m38.toNatClampNeg 0) i).toInt64)))), (m42, .inl (cA 2, 600, .inr (.inl (vp_updL zf m38.toNatClampNeg (dg1 (fun i => pw m0 32 e0 1 (sa i)) b0))))), (m43, .inl (cA 2, 600, .inr (.inl (vp_updL cf m38.toNatClampNeg (dg (dg (dg (dg (cho cf m38 (m38 - 1)) ((7 : Int32).toInt64)) (j.toInt64)) ((0 : Int32).toInt64)) (dg1 (fun i => pw m0 32 e0 1 (sa i)) b0))))))] (some (.int (m36 + 1))) (wA [(h0, .inr (7, [.int m0, .int m1, .int m2, .int m3, .int m4, .ref m5, .int m6, .int m7, .int m8, .ref m9, .ref m10, .ref m11, .int m12, .ref m13, .ref m14, .ref m15, .ref m16, .int m17, .ref m18, .ref m19, .ref m20, .ref m21, .ref m22, .ref m23, .ref m24, .ref m25, .int m26, .int m27, .int m28, .int m29, .int m30, .int m31, .ref m32, .ref m33, .ref m34, .ref m35, .int m36, .ref m37, .int m38, .ref m39, .ref m40, .ref m41, .ref m42, .ref m43])), (m5, .inl (cA 0, 5, .inl cf_)), (m34, .inl (cA 1, 6, .inl gvn)), (m35, .inl (cA 0, 240, .inl gvf)), (m13, .inl (cA 0, 200, .inl laf)), (m39, .inl (cA 0, 600, .inl kf)), (m40, .inl (cA 2, 600, .inr (.inl (fun i => (xf i).toInt64)))), (m41, .inl (cA 2, 600, .inr (.inl (fun i => (yf i).toInt64)))), (m42, .inl (cA 2, 600, .inr (.inl zf))), (m43, .inl (cA 2, 600, .inr (.inl cf)))])) 0 0 (wA [(h0, .inr (7, [.int m0, .int m1, .int m2, .int m3, .int m4, .ref m5, .int m6, .int m7, .int m8, .ref m9, .ref m10, .ref m11, .int m12, .ref m13, .ref m14, .ref m15, .ref m16, .int m17, .ref m18, .ref m19, .ref m20, .ref m21, .ref m22, .ref m23, .ref m24, .ref m25, .int m26, .int m27, .int m28, .int m29, .int m30, .int m31, .ref m32, .ref m33, .ref m34, .ref m35, .int m36, .ref m37, .int m38, .ref m39, .ref m40, .ref m41, .ref m42, .ref m43])), (m5, .inl (cA 0, 5, .inl cf_)), (m34, .inl (cA 1, 6, .inl gvn)), (m35, .inl (cA 0, 240, .inl gvf)), (m13, .inl (cA 0, 200, .inl laf)), (m39, .inl (cA 0, 600, .inl kf)), (m40, .inl (cA 2, 600, .inr (.inl (fun i => (xf i).toInt64)))), (m41, .inl (cA 2, 600, .inr (.inl (fun i => (yf i).toInt64)))), (m42, .inl (cA 2, 600, .inr (.inl zf))), (m43, .inl (cA 2, 600, .inr (.inl cf)))]) := by
  refine Met.ofW (cc := cX8_share) (maxL := 7) (ret := (some .int)) (by decide) rfl ?_
  intro p e s m args below meth c s₁ B hml hv
  obtain ⟨rfl, hP, hK, hD0⟩ := hv
  have hx := B.exec
  have hb := B.bytes
  have hr := B.returns
  have hts := atoms_spec (ws := wsX8_share) B.pre
  have hown : s.vm.findClass RX8 = some m.cls := findClass_of_methodNamed B.named
  have hlocks := B.notSynchronized
  have hin_X8 : ∀ w ∈ wsX80, w ∈ wsX8_share := fun w h => List.mem_cons_of_mem _ (List.mem_append_right _ h)
  have w_RX8_140 := hts (.fieldLink RX8 140 "MixElectionModel" "stage" "I") (by decide +kernel)
  have w_RX8_109 := hts (.fieldLink RX8 109 "MixElectionModel" "trustees" "I") (by decide +kernel)
  have w_RX8_65 := hts (.fieldLink RX8 65 "MixElectionModel" "hasGiven" "[Z") (by decide +kernel)
  have w_RX8_191 := hts (.fieldLink RX8 191 "MixElectionModel" "mixes" "I") (by decide +kernel)
  have w_RX8_181 := hts (.fieldLink RX8 181 "MixElectionModel" "isDue" "Z") (by decide +kernel)
  have w_RX8_170 := hts (.fieldLink RX8 170 "MixElectionModel" "many" "I") (by decide +kernel)
  have w_RX8_185 := hts (.fieldLink RX8 185 "MixElectionModel" "shares" "I") (by decide +kernel)
  have w_RX8_68 := hts (.fieldLink RX8 68 "MixElectionModel" "given" "[I") (by decide +kernel)
  have w_RX8_23 := hts (.fieldLink RX8 23 "MixElectionModel" "listA" "[I") (by decide +kernel)
  have hD : va_D (wA [(h0, .inr (7, [.int m0, .int m1, .int m2, .int m3, .int m4, .ref m5, .int m6, .int m7, .int m8, .ref m9, .ref m10, .ref m11, .int m12, .ref m13, .ref m14, .ref m15, .ref m16, .int m17, .ref m18, .ref m19, .ref m20, .ref m21, .ref m22, .ref m23, .ref m24, .ref m25, .int m26, .int m27, .int m28, .int m29, .int m30, .int m31, .ref m32, .ref m33, .ref m34, .ref m35, .int m36, .ref m37, .int m38, .ref m39, .ref m40, .ref m41, .ref m42, .ref m43])), (m5, .inl (cA 0, 5, .inl cf_)), (m34, .inl (cA 1, 6, .inl gvn)), (m35, .inl (cA 0, 240, .inl gvf)), (m13, .inl (cA 0, 200, .inl laf)), (m39, .inl (cA 0, 600, .inl kf)), (m40, .inl (cA 2, 600, .inr (.inl (fun i => (xf i).toInt64)))), (m41, .inl (cA 2, 600, .inr (.inl (fun i => (yf i).toInt64)))), (m42, .inl (cA 2, 600, .inr (.inl zf))), (m43, .inl (cA 2, 600, .inr (.inl cf)))]) [(h0, .inr (7, [.int m0, .int m1, .int m2, .int m3, .int m4, .ref m5, .int m6, .int m7, .int m8, .ref m9, .ref m10, .ref m11, .int m12, .ref m13, .ref m14, .ref m15, .ref m16, .int m17, .ref m18, .ref m19, .ref m20, .ref m21, .ref m22, .ref m23, .ref m24, .ref m25, .int m26, .int m27, .int m28, .int m29, .int m30, .int m31, .ref m32, .ref m33, .ref m34, .ref m35, .int m36, .ref m37, .int m38, .ref m39, .ref m40, .ref m41, .ref m42, .ref m43])), (m5, .inl (cA 0, 5, .inl cf_)), (m34, .inl (cA 1, 6, .inl gvn)), (m35, .inl (cA 0, 240, .inl gvf)), (m13, .inl (cA 0, 200, .inl laf)), (m39, .inl (cA 0, 600, .inl kf)), (m40, .inl (cA 2, 600, .inr (.inl (fun i => (xf i).toInt64)))), (m41, .inl (cA 2, 600, .inr (.inl (fun i => (yf i).toInt64)))), (m42, .inl (cA 2, 600, .inr (.inl zf))), (m43, .inl (cA 2, 600, .inr (.inl cf)))] := ⟨hD0.1, fun k q h => List.mem_map.mpr ⟨q, List.mem_of_getElem? h, rfl⟩⟩
  have hS : va_S (wA [(h0, .inr (7, [.int m0, .int m1, .int m2, .int m3, .int m4, .ref m5, .int m6, .int m7, .int m8, .ref m9, .ref m10, .ref m11, .int m12, .ref m13, .ref m14, .ref m15, .ref m16, .int m17, .ref m18, .ref m19, .ref m20, .ref m21, .ref m22, .ref m23, .ref m24, .ref m25, .int m26, .int m27, .int m28, .int m29, .int m30, .int m31, .ref m32, .ref m33, .ref m34, .ref m35, .int m36, .ref m37, .int m38, .ref m39, .ref m40, .ref m41, .ref m42, .ref m43])), (m5, .inl (cA 0, 5, .inl cf_)), (m34, .inl (cA 1, 6, .inl gvn)), (m35, .inl (cA 0, 240, .inl gvf)), (m13, .inl (cA 0, 200, .inl laf)), (m39, .inl (cA 0, 600, .inl kf)), (m40, .inl (cA 2, 600, .inr (.inl (fun i => (xf i).toInt64)))), (m41, .inl (cA 2, 600, .inr (.inl (fun i => (yf i).toInt64)))), (m42, .inl (cA 2, 600, .inr (.inl zf))), (m43, .inl (cA 2, 600, .inr (.inl cf)))]) s.heap s.heap [] := va_S.rf
  generalize hAe : wA [(h0, .inr (7, [.int m0, .int m1, .int m2, .int m3, .int m4, .ref m5, .int m6, .int m7, .int m8, .ref m9, .ref m10, .ref m11, .int m12, .ref m13, .ref m14, .ref m15, .ref m16, .int m17, .ref m18, .ref m19, .ref m20, .ref m21, .ref m22, .ref m23, .ref m24, .ref m25, .int m26, .int m27, .int m28, .int m29, .int m30, .int m31, .ref m32, .ref m33, .ref m34, .ref m35, .int m36, .ref m37, .int m38, .ref m39, .ref m40, .ref m41, .ref m42, .ref m43])), (m5, .inl (cA 0, 5, .inl cf_)), (m34, .inl (cA 1, 6, .inl gvn)), (m35, .inl (cA 0, 240, .inl gvf)), (m13, .inl (cA 0, 200, .inl laf)), (m39, .inl (cA 0, 600, .inl kf)), (m40, .inl (cA 2, 600, .inr (.inl (fun i => (xf i).toInt64)))), (m41, .inl (cA 2, 600, .inr (.inl (fun i => (yf i).toInt64)))), (m42, .inl (cA 2, 600, .inr (.inl zf))), (m43, .inl (cA 2, 600, .inr (.inl cf)))] = A at hD hS ⊢
  have hP : va_P D vwCl [(h0, .inr (7, [.int m0, .int m1, .int m2, .int m3, .int m4, .ref m5, .int m6, .int m7, .int m8, .ref m9, .ref m10, .ref m11, .int m12, .ref m13, .ref m14, .ref m15, .ref m16, .int m17, .ref m18, .ref m19, .ref m20, .ref m21, .ref m22, .ref m23, .ref m24, .ref m25, .int m26, .int m27, .int m28, .int m29, .int m30, .int m31, .ref m32, .ref m33, .ref m34, .ref m35, .int m36, .ref m37, .int m38, .ref m39, .ref m40, .ref m41, .ref m42, .ref m43])), (m5, .inl (cA 0, 5, .inl cf_)), (m34, .inl (cA 1, 6, .inl gvn)), (m35, .inl (cA 0, 240, .inl gvf)), (m13, .inl (cA 0, 200, .inl laf)), (m39, .inl (cA 0, 600, .inl kf)), (m40, .inl (cA 2, 600, .inr (.inl (fun i => (xf i).toInt64)))), (m41, .inl (cA 2, 600, .inr (.inl (fun i => (yf i).toInt64)))), (m42, .inl (cA 2, 600, .inr (.inl zf))), (m43, .inl (cA 2, 600, .inr (.inl cf)))] s.heap := hP
  have hl := lv_entry ([.ref h0, .int j]) (n := 7) (Nat.le_of_ble_eq_true rfl)
  rw [lg_entry_eq]
  generalize (lg_sl ([.ref h0, .int j]) ++ List.replicate (7 - (lg_sl ([.ref h0, .int j])).length) Slot.unset).toArray = ls at hl ⊢
  have hl : lv_has ls 7 [(0, .ref h0), (1, .int j)] := hl
  refine lv_aload_n hx hb dX8_share_0 rfl (lv_at hl 0 rfl) ?_
  refine va_get (D := D) (ci := 7) (v := .int m6) (C := RX8) (T := TX8) (N := 44) hx hb hts hin_X8 hown hK hP 0 rfl rfl 6 (by decide) (w_RX8_140) (fun _ h9 => h9) rfl dX8_share_1 ?_
  refine lv_iconst (v := 2) hx hb dX8_share_4 (by decide) ?_
  refine lv_icmp_ne (tgt := 43) hx hb dX8_share_5 (by decide) (fun c_5 => ?_) (fun c_5 => ?_)
  · exact absurd hok.1 c_5
  · skip
    refine lv_iload_n hx hb dX8_share_8 rfl (lv_at hl 1 rfl) ?_
    refine lv_iconst (v := 1) hx hb dX8_share_9 (by decide) ?_
    refine lv_aload_n hx hb dX8_share_10 rfl (lv_at hl 0 rfl) ?_
    refine va_get (D := D) (ci := 7) (v := .int m3) (C := RX8) (T := TX8) (N := 44) hx hb hts hin_X8 hown hK hP 0 rfl rfl 3 (by decide) (w_RX8_109) (fun _ h9 => h9) rfl dX8_share_11 ?_
    refine rq_call1 (v := .int (bI (1 ≤ j ∧ j ≤ m3))) (rn_S (As := [.int j, .int 1, .int m3]) (rest := []) ⟨hx, hb, hml, hown, hts⟩ (c_X8_in l D cA j 1 m3) (va_cwS 3 hts gX8_share_X8_in rfl rfl rfl (by decide +kernel) ⟨Nat.le_of_ble_eq_true rfl, Nat.le_of_ble_eq_true rfl⟩) hK hP [] rfl rfl hl.1 rfl (Nat.le_of_ble_eq_true rfl) dX8_share_14 ⟨Nat.le_of_ble_eq_true rfl, Nat.le_of_ble_eq_true rfl⟩) ?_
    refine lv_if_eq (tgt := 43) hx hb dX8_share_17 (by decide) (fun c_17 => ?_) (fun c_17 => ?_)
    · exact absurd hok.2.2.2.1 (bI_0 c_17)
    · skip
      refine lv_aload_n hx hb dX8_share_20 rfl (lv_at hl 0 rfl) ?_
      refine va_get (D := D) (ci := 7) (v := .ref m34) (C := RX8) (T := TX8) (N := 44) hx hb hts hin_X8 hown hK hP 0 rfl rfl 34 (by decide) (w_RX8_65) (fun _ h9 => h9) rfl dX8_share_21 ?_
      refine lv_iload_n hx hb dX8_share_24 rfl (lv_at hl 1 rfl) ?_
      refine va_zald hx hb hK hP 2 1 rfl rfl (gv_in hok.2.2.2.1 hts0 ht5) dX8_share_25 ?_
      refine lv_if_ne (tgt := 43) hx hb dX8_share_26 (by decide) (fun c_26 => ?_) (fun c_26 => ?_)
      · exact absurd hok.2.2.2.2 c_26
      · skip
        refine lv_aload_n hx hb dX8_share_29 rfl (lv_at hl 0 rfl) ?_
        refine va_get (D := D) (ci := 7) (v := .int m26) (C := RX8) (T := TX8) (N := 44) hx hb hts hin_X8 hown hK hP 0 rfl rfl 26 (by decide) (w_RX8_191) (fun _ h9 => h9) rfl dX8_share_30 ?_
        refine lv_if_eq (tgt := 43) hx hb dX8_share_33 (by decide) (fun c_33 => ?_) (fun c_33 => ?_)
        · exact absurd c_33 ((ne_0 hmx (by omega)).mp hok.2.1)
        · skip
          refine lv_aload_n hx hb dX8_share_36 rfl (lv_at hl 0 rfl) ?_
          refine va_get (D := D) (ci := 7) (v := .int m28) (C := RX8) (T := TX8) (N := 44) hx hb hts hin_X8 hown hK hP 0 rfl rfl 28 (by decide) (w_RX8_181) (fun _ h9 => h9) rfl dX8_share_37 ?_
          refine lv_if_eq (tgt := 45) hx hb dX8_share_40 (by decide) (fun c_40 => ?_) (fun c_40 => ?_)
          · skip
            refine lv_aload_n hx hb dX8_share_45 rfl (lv_at hl 0 rfl) ?_
            refine lv_iload_n hx hb dX8_share_46 rfl (lv_at hl 1 rfl) ?_
            refine rq_call1 (v := .int (shr m1 j cf_ k0 0)) (rn_V (As := [.int j]) (rest := []) (ci := 7) (fs := [.int m0, .int m1, .int m2, .int m3, .int m4, .ref m5, .int m6, .int m7, .int m8, .ref m9, .ref m10, .ref m11, .int m12, .ref m13, .ref m14, .ref m15, .ref m16, .int m17, .ref m18, .ref m19, .ref m20, .ref m21, .ref m22, .ref m23, .ref m24, .ref m25, .int m26, .int m27, .int m28, .int m29, .int m30, .int m31, .ref m32, .ref m33, .ref m34, .ref m35, .int m36, .ref m37, .int m38, .ref m39, .ref m40, .ref m41, .ref m42, .ref m43]) ⟨hx, hb, hml, hown, hts⟩ (c_X8_shareOf l D cA h0 m0 m1 m2 m3 m4 m5 m6 m7 m8 m9 m10 m11 m12 m13 m14 m15 m16 m17 m18 m19 m20 m21 m22 m23 m24 m25 m26 m27 m28 m29 m30 m31 m32 m33 m34 m35 m36 m37 m38 m39 m40 m41 m42 m43 j j0 k0 q0 cf_ htk hk5 hgq hq1 hj hj5 hcf) rfl (cwV 1 hts gX8_share_X8_shareOf rfl rfl rfl (by decide +kernel) ⟨Nat.le_of_ble_eq_true rfl, Nat.le_of_ble_eq_true rfl⟩) hK hP [0, 1] rfl rfl rfl hl.1 rfl (Nat.le_of_ble_eq_true rfl) dX8_share_47 ⟨Nat.le_of_ble_eq_true rfl, Nat.le_of_ble_eq_true rfl⟩) ?_
            rw [he0]
            refine lv_istore_n (lv' := [(2, .int (nI e0)), (0, .ref h0), (1, .int j)]) hx hb dX8_share_50 rfl hl (by decide) rfl (fun ls hl => ?_)
            refine lv_lconst (v := 0) hx hb dX8_share_51 (by decide) ?_
            refine lv_lstore_n (lv' := [(3, .long 0), (2, .int (nI e0)), (0, .ref h0), (1, .int j)]) hx hb dX8_share_52 rfl hl (by decide) rfl (fun ls hl => ?_)
            refine lv_iconst (v := 0) hx hb dX8_share_53 (by decide) ?_
            refine lv_istore (lv' := [(5, .int 0), (3, .long 0), (2, .int (nI e0)), (0, .ref h0), (1, .int j)]) hx hb dX8_share_54 hl (by decide) rfl (fun ls hl => ?_)
            have loop56 : ∀ (f_ k : Nat) (z : Int32) (d : Int64), z = nI k → b0 + 1 ≤ k + f_ → k ≤ b0 → d = dg1 (fun i => pw m0 32 e0 1 (sa i)) k → ∀ (H : Heap) (locs : List Loc), va_P D vwCl [(h0, .inr (7, [.int m0, .int m1, .int m2, .int m3, .int m4, .ref m5, .int m6, .int m7, .int m8, .ref m9, .ref m10, .ref m11, .int m12, .ref m13, .ref m14, .ref m15, .ref m16, .int m17, .ref m18, .ref m19, .ref m20, .ref m21, .ref m22, .ref m23, .ref m24, .ref m25, .int m26, .int m27, .int m28, .int m29, .int m30, .int m31, .ref m32, .ref m33, .ref m34, .ref m35, .int m36, .ref m37, .int m38, .ref m39, .ref m40, .ref m41, .ref m42, .ref m43])), (m5, .inl (cA 0, 5, .inl cf_)), (m34, .inl (cA 1, 6, .inl gvn)), (m35, .inl (cA 0, 240, .inl (scat (fun i => 40 * j0 + i) (fun i => pw m0 32 e0 1 (sa i)) gvf k))), (m13, .inl (cA 0, 200, .inl laf)), (m39, .inl (cA 0, 600, .inl kf)), (m40, .inl (cA 2, 600, .inr (.inl (fun i => (xf i).toInt64)))), (m41, .inl (cA 2, 600, .inr (.inl (fun i => (yf i).toInt64)))), (m42, .inl (cA 2, 600, .inr (.inl zf))), (m43, .inl (cA 2, 600, .inr (.inl cf)))] H → va_D A [(h0, .inr (7, [.int m0, .int m1, .int m2, .int m3, .int m4, .ref m5, .int m6, .int m7, .int m8, .ref m9, .ref m10, .ref m11, .int m12, .ref m13, .ref m14, .ref m15, .ref m16, .int m17, .ref m18, .ref m19, .ref m20, .ref m21, .ref m22, .ref m23, .ref m24, .ref m25, .int m26, .int m27, .int m28, .int m29, .int m30, .int m31, .ref m32, .ref m33, .ref m34, .ref m35, .int m36, .ref m37, .int m38, .ref m39, .ref m40, .ref m41, .ref m42, .ref m43])), (m5, .inl (cA 0, 5, .inl cf_)), (m34, .inl (cA 1, 6, .inl gvn)), (m35, .inl (cA 0, 240, .inl (scat (fun i => 40 * j0 + i) (fun i => pw m0 32 e0 1 (sa i)) gvf k))), (m13, .inl (cA 0, 200, .inl laf)), (m39, .inl (cA 0, 600, .inl kf)), (m40, .inl (cA 2, 600, .inr (.inl (fun i => (xf i).toInt64)))), (m41, .inl (cA 2, 600, .inr (.inl (fun i => (yf i).toInt64)))), (m42, .inl (cA 2, 600, .inr (.inl zf))), (m43, .inl (cA 2, 600, .inr (.inl cf)))] → va_S A s.heap H locs → ∀ ls : Array Slot, lv_has ls 7 [(0, .ref h0), (1, .int j), (2, .int (nI e0)), (3, .long d), (5, .int z)] → W p l e (headSpec wsX8_share ({ frames := 2, cells := 0, slots := 0, locals := 52 })).room s m [.ref h0, .int j].toArray below meth c H locs 0 0 (MQ below (wq_x vwCl D [(h0, .inr (7, [.int m0, .int m1, .int m2, .int m3, .int m4, .ref m5, .int m6, .int m7, .int m8, .ref m9, .ref m10, .ref m11, .int m12, .ref m13, .ref m14, .ref m15, .ref m16, .int m17, .ref m18, .ref m19, .ref m20, .ref m21, .ref m22, .ref m23, .ref m24, .ref m25, .int m26, .int m27, .int m28, .int m29, .int m30, .int m31, .ref m32, .ref m33, .ref m34, .ref m35, .int (m36 + 1), .ref m37, .int (m38 + 1), .ref m39, .ref m40, .ref m41, .ref m42, .ref m43])), (m5, .inl (cA 0, 5, .inl cf_)), (m34, .inl (cA 1, 6, .inl (upd gvn j.toNatClampNeg (vp_nar .boolean 1)))), (m35, .inl (cA 0, 240, .inl (scat (fun i => 40 * j0 + i) (fun i => pw m0 32 e0 1 (sa i)) gvf b0))), (m13, .inl (cA 0, 200, .inl laf)), (m39, .inl (cA 0, 600, .inl (upd kf m38.toNatClampNeg 7))), (m40, .inl (cA 2, 600, .inr (.inl (fun i => ((upd xf m38.toNatClampNeg j) i).toInt64)))), (m41, .inl (cA 2, 600, .inr (.inl (fun i => ((upd yf m38.toNatClampNeg 0) i).toInt64)))), (m42, .inl (cA 2, 600, .inr (.inl (vp_updL zf m38.toNatClampNeg (dg1 (fun i => pw m0 32 e0 1 (sa i)) b0))))), (m43, .inl (cA 2, 600, .inr (.inl (vp_updL cf m38.toNatClampNeg (dg (dg (dg (dg (cho cf m38 (m38 - 1)) ((7 : Int32).toInt64)) (j.toInt64)) ((0 : Int32).toInt64)) (dg1 (fun i => pw m0 32 e0 1 (sa i)) b0))))))] (some (.int (m36 + 1))) A) [.ref h0, .int j].toArray s 0 0 A) (F0 m 56 ls []) := by
              intro f
              induction f with
              | zero =>
                intro k z d hz h1 h2
                omega
              | succ f ih =>
                intro k z d hz h1 h2 hd H locs hP hD hS ls hl
                refine lv_iload hx hb dX8_share_56 (lv_at hl 4 rfl) ?_
                refine lv_aload_n hx hb dX8_share_58 rfl (lv_at hl 0 rfl) ?_
                refine va_get (D := D) (ci := 7) (v := .int m12) (C := RX8) (T := TX8) (N := 44) hx hb hts hin_X8 hown hK hP 0 rfl rfl 12 (by decide) (w_RX8_170) (fun _ h9 => h9) rfl dX8_share_59 ?_
                refine lv_icmp_ge (tgt := 121) hx hb dX8_share_62 (by decide) (fun c_62 => ?_) (fun c_62 => ?_)
                · skip
                  have hke := (lp_end hz hnb (by omega) h2 c_62).symm
                  subst hke
                  subst hd
                  refine lv_aload_n hx hb dX8_share_121 rfl (lv_at hl 0 rfl) ?_
                  refine va_get (D := D) (ci := 7) (v := .ref m34) (C := RX8) (T := TX8) (N := 44) hx hb hts hin_X8 hown hK hP 0 rfl rfl 34 (by decide) (w_RX8_65) (fun _ h9 => h9) rfl dX8_share_122 ?_
                  refine lv_iload_n hx hb dX8_share_125 rfl (lv_at hl 1 rfl) ?_
                  refine lv_iconst (v := 1) hx hb dX8_share_126 (by decide) ?_
                  refine va_zast hx hb hK hP hD hS 2 1 rfl rfl (gv_in hok.2.2.2.1 hts0 ht5) dX8_share_127 (fun H locs hP hD hS => ?_)
                  have hP : va_P D vwCl [(h0, .inr (7, [.int m0, .int m1, .int m2, .int m3, .int m4, .ref m5, .int m6, .int m7, .int m8, .ref m9, .ref m10, .ref m11, .int m12, .ref m13, .ref m14, .ref m15, .ref m16, .int m17, .ref m18, .ref m19, .ref m20, .ref m21, .ref m22, .ref m23, .ref m24, .ref m25, .int m26, .int m27, .int m28, .int m29, .int m30, .int m31, .ref m32, .ref m33, .ref m34, .ref m35, .int m36, .ref m37, .int m38, .ref m39, .ref m40, .ref m41, .ref m42, .ref m43])), (m5, .inl (cA 0, 5, .inl cf_)), (m34, .inl (cA 1, 6, .inl (upd gvn j.toNatClampNeg (vp_nar .boolean 1)))), (m35, .inl (cA 0, 240, .inl (scat (fun i => 40 * j0 + i) (fun i => pw m0 32 e0 1 (sa i)) gvf b0))), (m13, .inl (cA 0, 200, .inl laf)), (m39, .inl (cA 0, 600, .inl kf)), (m40, .inl (cA 2, 600, .inr (.inl (fun i => (xf i).toInt64)))), (m41, .inl (cA 2, 600, .inr (.inl (fun i => (yf i).toInt64)))), (m42, .inl (cA 2, 600, .inr (.inl zf))), (m43, .inl (cA 2, 600, .inr (.inl cf)))] H := hP
                  have hD : va_D A [(h0, .inr (7, [.int m0, .int m1, .int m2, .int m3, .int m4, .ref m5, .int m6, .int m7, .int m8, .ref m9, .ref m10, .ref m11, .int m12, .ref m13, .ref m14, .ref m15, .ref m16, .int m17, .ref m18, .ref m19, .ref m20, .ref m21, .ref m22, .ref m23, .ref m24, .ref m25, .int m26, .int m27, .int m28, .int m29, .int m30, .int m31, .ref m32, .ref m33, .ref m34, .ref m35, .int m36, .ref m37, .int m38, .ref m39, .ref m40, .ref m41, .ref m42, .ref m43])), (m5, .inl (cA 0, 5, .inl cf_)), (m34, .inl (cA 1, 6, .inl (upd gvn j.toNatClampNeg (vp_nar .boolean 1)))), (m35, .inl (cA 0, 240, .inl (scat (fun i => 40 * j0 + i) (fun i => pw m0 32 e0 1 (sa i)) gvf b0))), (m13, .inl (cA 0, 200, .inl laf)), (m39, .inl (cA 0, 600, .inl kf)), (m40, .inl (cA 2, 600, .inr (.inl (fun i => (xf i).toInt64)))), (m41, .inl (cA 2, 600, .inr (.inl (fun i => (yf i).toInt64)))), (m42, .inl (cA 2, 600, .inr (.inl zf))), (m43, .inl (cA 2, 600, .inr (.inl cf)))] := hD
                  refine lv_aload_n hx hb dX8_share_128 rfl (lv_at hl 0 rfl) ?_
                  refine lv_dup hx hb dX8_share_129 rfl ?_
                  refine va_get (D := D) (ci := 7) (v := .int m36) (C := RX8) (T := TX8) (N := 44) hx hb hts hin_X8 hown hK hP 0 rfl rfl 36 (by decide) (w_RX8_185) (fun _ h9 => h9) rfl dX8_share_130 ?_
                  refine lv_iconst (v := 1) hx hb dX8_share_133 (by decide) ?_
                  refine lv_iadd hx hb dX8_share_134 ?_
                  refine va_put (D := D) (ci := 7) (v := .int (m36 + 1)) (ty := .int) (C := RX8) (T := TX8) (N := 44) hx hb hts hin_X8 tyX8 tyX8_ok nmX8 hown hK hP hD hS 0 rfl rfl 36 (by decide) (w_RX8_185) (fun _ h9 => h9) rfl (by decide +kernel) rfl rfl (Nat.le_of_ble_eq_true rfl) dX8_share_135 (fun H locs hP hD hS => ?_)
                  have hP : va_P D vwCl [(h0, .inr (7, [.int m0, .int m1, .int m2, .int m3, .int m4, .ref m5, .int m6, .int m7, .int m8, .ref m9, .ref m10, .ref m11, .int m12, .ref m13, .ref m14, .ref m15, .ref m16, .int m17, .ref m18, .ref m19, .ref m20, .ref m21, .ref m22, .ref m23, .ref m24, .ref m25, .int m26, .int m27, .int m28, .int m29, .int m30, .int m31, .ref m32, .ref m33, .ref m34, .ref m35, .int (m36 + 1), .ref m37, .int m38, .ref m39, .ref m40, .ref m41, .ref m42, .ref m43])), (m5, .inl (cA 0, 5, .inl cf_)), (m34, .inl (cA 1, 6, .inl (upd gvn j.toNatClampNeg (vp_nar .boolean 1)))), (m35, .inl (cA 0, 240, .inl (scat (fun i => 40 * j0 + i) (fun i => pw m0 32 e0 1 (sa i)) gvf b0))), (m13, .inl (cA 0, 200, .inl laf)), (m39, .inl (cA 0, 600, .inl kf)), (m40, .inl (cA 2, 600, .inr (.inl (fun i => (xf i).toInt64)))), (m41, .inl (cA 2, 600, .inr (.inl (fun i => (yf i).toInt64)))), (m42, .inl (cA 2, 600, .inr (.inl zf))), (m43, .inl (cA 2, 600, .inr (.inl cf)))] H := hP
                  have hD : va_D A [(h0, .inr (7, [.int m0, .int m1, .int m2, .int m3, .int m4, .ref m5, .int m6, .int m7, .int m8, .ref m9, .ref m10, .ref m11, .int m12, .ref m13, .ref m14, .ref m15, .ref m16, .int m17, .ref m18, .ref m19, .ref m20, .ref m21, .ref m22, .ref m23, .ref m24, .ref m25, .int m26, .int m27, .int m28, .int m29, .int m30, .int m31, .ref m32, .ref m33, .ref m34, .ref m35, .int (m36 + 1), .ref m37, .int m38, .ref m39, .ref m40, .ref m41, .ref m42, .ref m43])), (m5, .inl (cA 0, 5, .inl cf_)), (m34, .inl (cA 1, 6, .inl (upd gvn j.toNatClampNeg (vp_nar .boolean 1)))), (m35, .inl (cA 0, 240, .inl (scat (fun i => 40 * j0 + i) (fun i => pw m0 32 e0 1 (sa i)) gvf b0))), (m13, .inl (cA 0, 200, .inl laf)), (m39, .inl (cA 0, 600, .inl kf)), (m40, .inl (cA 2, 600, .inr (.inl (fun i => (xf i).toInt64)))), (m41, .inl (cA 2, 600, .inr (.inl (fun i => (yf i).toInt64)))), (m42, .inl (cA 2, 600, .inr (.inl zf))), (m43, .inl (cA 2, 600, .inr (.inl cf)))] := hD
                  refine lv_aload_n hx hb dX8_share_138 rfl (lv_at hl 0 rfl) ?_
                  refine lv_bipush (v := 7) hx hb dX8_share_139 (by decide) ?_
                  refine lv_iload_n hx hb dX8_share_141 rfl (lv_at hl 1 rfl) ?_
                  refine lv_i2l hx hb dX8_share_142 rfl ?_
                  refine lv_lconst (v := 0) hx hb dX8_share_143 (by decide) ?_
                  refine lv_lload_n hx hb dX8_share_144 rfl (lv_at hl 3 rfl) ?_
                  refine wl_call1 (v := .long (dg (dg (dg (dg (cho cf m38 (m38 - 1)) ((7 : Int32).toInt64)) (j.toInt64)) ((0 : Int32).toInt64)) (dg1 (fun i => pw m0 32 e0 1 (sa i)) b0))) (wc := [(h0, .inr (7, [.int m0, .int m1, .int m2, .int m3, .int m4, .ref m5, .int m6, .int m7, .int m8, .ref m9, .ref m10, .ref m11, .int m12, .ref m13, .ref m14, .ref m15, .ref m16, .int m17, .ref m18, .ref m19, .ref m20, .ref m21, .ref m22, .ref m23, .ref m24, .ref m25, .int m26, .int m27, .int m28, .int m29, .int m30, .int m31, .ref m32, .ref m33, .ref m34, .ref m35, .int (m36 + 1), .ref m37, .int m38, .ref m39, .ref m40, .ref m41, .ref m42, .ref m43])), (m39, .inl (cA 0, 600, .inl kf)), (m40, .inl (cA 2, 600, .inr (.inl (fun i => (xf i).toInt64)))), (m41, .inl (cA 2, 600, .inr (.inl (fun i => (yf i).toInt64)))), (m42, .inl (cA 2, 600, .inr (.inl zf))), (m43, .inl (cA 2, 600, .inr (.inl cf)))]) (w1 := [(h0, .inr (7, [.int m0, .int m1, .int m2, .int m3, .int m4, .ref m5, .int m6, .int m7, .int m8, .ref m9, .ref m10, .ref m11, .int m12, .ref m13, .ref m14, .ref m15, .ref m16, .int m17, .ref m18, .ref m19, .ref m20, .ref m21, .ref m22, .ref m23, .ref m24, .ref m25, .int m26, .int m27, .int m28, .int m29, .int m30, .int m31, .ref m32, .ref m33, .ref m34, .ref m35, .int (m36 + 1), .ref m37, .int (m38 + 1), .ref m39, .ref m40, .ref m41, .ref m42, .ref m43])), (m39, .inl (cA 0, 600, .inl (upd kf m38.toNatClampNeg 7))), (m40, .inl (cA 2, 600, .inr (.inl (fun i => ((upd xf m38.toNatClampNeg j) i).toInt64)))), (m41, .inl (cA 2, 600, .inr (.inl (fun i => ((upd yf m38.toNatClampNeg 0) i).toInt64)))), (m42, .inl (cA 2, 600, .inr (.inl (vp_updL zf m38.toNatClampNeg (dg1 (fun i => pw m0 32 e0 1 (sa i)) b0))))), (m43, .inl (cA 2, 600, .inr (.inl (vp_updL cf m38.toNatClampNeg (dg (dg (dg (dg (cho cf m38 (m38 - 1)) ((7 : Int32).toInt64)) (j.toInt64)) ((0 : Int32).toInt64)) (dg1 (fun i => pw m0 32 e0 1 (sa i)) b0))))))]) (ws' := [(h0, .inr (7, [.int m0, .int m1, .int m2, .int m3, .int m4, .ref m5, .int m6, .int m7, .int m8, .ref m9, .ref m10, .ref m11, .int m12, .ref m13, .ref m14, .ref m15, .ref m16, .int m17, .ref m18, .ref m19, .ref m20, .ref m21, .ref m22, .ref m23, .ref m24, .ref m25, .int m26, .int m27, .int m28, .int m29, .int m30, .int m31, .ref m32, .ref m33, .ref m34, .ref m35, .int (m36 + 1), .ref m37, .int (m38 + 1), .ref m39, .ref m40, .ref m41, .ref m42, .ref m43])), (m5, .inl (cA 0, 5, .inl cf_)), (m34, .inl (cA 1, 6, .inl (upd gvn j.toNatClampNeg (vp_nar .boolean 1)))), (m35, .inl (cA 0, 240, .inl (scat (fun i => 40 * j0 + i) (fun i => pw m0 32 e0 1 (sa i)) gvf b0))), (m13, .inl (cA 0, 200, .inl laf)), (m39, .inl (cA 0, 600, .inl (upd kf m38.toNatClampNeg 7))), (m40, .inl (cA 2, 600, .inr (.inl (fun i => ((upd xf m38.toNatClampNeg j) i).toInt64)))), (m41, .inl (cA 2, 600, .inr (.inl (fun i => ((upd yf m38.toNatClampNeg 0) i).toInt64)))), (m42, .inl (cA 2, 600, .inr (.inl (vp_updL zf m38.toNatClampNeg (dg1 (fun i => pw m0 32 e0 1 (sa i)) b0))))), (m43, .inl (cA 2, 600, .inr (.inl (vp_updL cf m38.toNatClampNeg (dg (dg (dg (dg (cho cf m38 (m38 - 1)) ((7 : Int32).toInt64)) (j.toInt64)) ((0 : Int32).toInt64)) (dg1 (fun i => pw m0 32 e0 1 (sa i)) b0))))))]) (wn_V (As := [.int 7, .long j.toInt64, .long 0, .long (dg1 (fun i => pw m0 32 e0 1 (sa i)) b0)]) (rest := []) (ci := 7) (fs := [.int m0, .int m1, .int m2, .int m3, .int m4, .ref m5, .int m6, .int m7, .int m8, .ref m9, .ref m10, .ref m11, .int m12, .ref m13, .ref m14, .ref m15, .ref m16, .int m17, .ref m18, .ref m19, .ref m20, .ref m21, .ref m22, .ref m23, .ref m24, .ref m25, .int m26, .int m27, .int m28, .int m29, .int m30, .int m31, .ref m32, .ref m33, .ref m34, .ref m35, .int (m36 + 1), .ref m37, .int m38, .ref m39, .ref m40, .ref m41, .ref m42, .ref m43]) ⟨hx, hb, hml, hown, hts⟩ (c_X8_enter0 l D cA h0 m0 m1 m2 m3 m4 m5 m6 m7 m8 m9 m10 m11 m12 m13 m14 m15 m16 m17 m18 m19 m20 m21 m22 m23 m24 m25 m26 m27 m28 m29 m30 m31 m32 m33 m34 m35 (m36 + 1) m37 m38 m39 m40 m41 m42 m43 kf xf yf zf cf 7 j (dg1 (fun i => pw m0 32 e0 1 (sa i)) b0) n0 hbn h6) rfl (cwV 4 hts gX8_share_X8_enter rfl rfl rfl (by decide +kernel) ⟨Nat.le_of_ble_eq_true rfl, Nat.le_of_ble_eq_true rfl⟩) hK hP hD [0, 5, 6, 7, 8, 9] rfl (by decide) rfl rfl rfl hl.1 rfl (Nat.le_of_ble_eq_true rfl) dX8_share_145 ⟨Nat.le_of_ble_eq_true rfl, Nat.le_of_ble_eq_true rfl⟩) hP hD hS [0, 5, 6, 7, 8, 9] [1, 2, 3, 4] rfl rfl (wr := [(m5, .inl (cA 0, 5, .inl cf_)), (m34, .inl (cA 1, 6, .inl (upd gvn j.toNatClampNeg (vp_nar .boolean 1)))), (m35, .inl (cA 0, 240, .inl (scat (fun i => 40 * j0 + i) (fun i => pw m0 32 e0 1 (sa i)) gvf b0))), (m13, .inl (cA 0, 200, .inl laf))]) rfl rfl (ads := [h0, m5, m34, m35, m13, m39, m40, m41, m42, m43]) rfl rfl (adc := [h0, m39, m40, m41, m42, m43]) rfl rfl rfl (fun H locs hP hD hS => ?_)
                  refine lv_lstore (lv' := [(5, .long (dg (dg (dg (dg (cho cf m38 (m38 - 1)) ((7 : Int32).toInt64)) (j.toInt64)) ((0 : Int32).toInt64)) (dg1 (fun i => pw m0 32 e0 1 (sa i)) b0))), (0, .ref h0), (1, .int j), (2, .int (nI e0)), (3, .long (dg1 (fun i => pw m0 32 e0 1 (sa i)) b0))]) hx hb dX8_share_148 hl (by decide) rfl (fun ls hl => ?_)
                  refine lv_aload_n hx hb dX8_share_150 rfl (lv_at hl 1 rfl) ?_
                  refine va_get (D := D) (ci := 7) (v := .int (m36 + 1)) (C := RX8) (T := TX8) (N := 44) hx hb hts hin_X8 hown hK hP 0 rfl rfl 36 (by decide) (w_RX8_185) (fun _ h9 => h9) rfl dX8_share_151 ?_
                  have hP9 : va_P D vwCl [(h0, .inr (7, [.int m0, .int m1, .int m2, .int m3, .int m4, .ref m5, .int m6, .int m7, .int m8, .ref m9, .ref m10, .ref m11, .int m12, .ref m13, .ref m14, .ref m15, .ref m16, .int m17, .ref m18, .ref m19, .ref m20, .ref m21, .ref m22, .ref m23, .ref m24, .ref m25, .int m26, .int m27, .int m28, .int m29, .int m30, .int m31, .ref m32, .ref m33, .ref m34, .ref m35, .int (m36 + 1), .ref m37, .int (m38 + 1), .ref m39, .ref m40, .ref m41, .ref m42, .ref m43])), (m5, .inl (cA 0, 5, .inl cf_)), (m34, .inl (cA 1, 6, .inl (upd gvn j.toNatClampNeg (vp_nar .boolean 1)))), (m35, .inl (cA 0, 240, .inl (scat (fun i => 40 * j0 + i) (fun i => pw m0 32 e0 1 (sa i)) gvf b0))), (m13, .inl (cA 0, 200, .inl laf)), (m39, .inl (cA 0, 600, .inl (upd kf m38.toNatClampNeg 7))), (m40, .inl (cA 2, 600, .inr (.inl (fun i => ((upd xf m38.toNatClampNeg j) i).toInt64)))), (m41, .inl (cA 2, 600, .inr (.inl (fun i => ((upd yf m38.toNatClampNeg 0) i).toInt64)))), (m42, .inl (cA 2, 600, .inr (.inl (vp_updL zf m38.toNatClampNeg (dg1 (fun i => pw m0 32 e0 1 (sa i)) b0))))), (m43, .inl (cA 2, 600, .inr (.inl (vp_updL cf m38.toNatClampNeg (dg (dg (dg (dg (cho cf m38 (m38 - 1)) ((7 : Int32).toInt64)) (j.toInt64)) ((0 : Int32).toInt64)) (dg1 (fun i => pw m0 32 e0 1 (sa i)) b0))))))] H := hP
                  exact W.iret (v := (m36 + 1)) hx hb hr (fun t ht hW => ⟨congrArg (fun z => Outcome.returned (some (Value.int z))) (rfl), by rw [ht]; exact hP9, hS.F ht⟩) hS.2.2 dX8_share_154
                · skip
                  refine lv_aload_n hx hb dX8_share_65 rfl (lv_at hl 0 rfl) ?_
                  refine va_get (D := D) (ci := 7) (v := .ref m35) (C := RX8) (T := TX8) (N := 44) hx hb hts hin_X8 hown hK hP 0 rfl rfl 35 (by decide) (w_RX8_68) (fun _ h9 => h9) rfl dX8_share_66 ?_
                  refine lv_bipush (v := 40) hx hb dX8_share_69 (by decide) ?_
                  refine lv_iload_n hx hb dX8_share_71 rfl (lv_at hl 1 rfl) ?_
                  refine lv_imul hx hb dX8_share_72 ?_
                  refine lv_iload hx hb dX8_share_73 (lv_at hl 4 rfl) ?_
                  refine lv_iadd hx hb dX8_share_75 ?_
                  refine lv_aload_n hx hb dX8_share_76 rfl (lv_at hl 0 rfl) ?_
                  refine lv_aload_n hx hb dX8_share_77 rfl (lv_at hl 0 rfl) ?_
                  refine va_get (D := D) (ci := 7) (v := .ref m13) (C := RX8) (T := TX8) (N := 44) hx hb hts hin_X8 hown hK hP 0 rfl rfl 13 (by decide) (w_RX8_23) (fun _ h9 => h9) rfl dX8_share_78 ?_
                  refine lv_bipush (v := 40) hx hb dX8_share_81 (by decide) ?_
                  refine lv_aload_n hx hb dX8_share_83 rfl (lv_at hl 0 rfl) ?_
                  refine va_get (D := D) (ci := 7) (v := .int m26) (C := RX8) (T := TX8) (N := 44) hx hb hts hin_X8 hown hK hP 0 rfl rfl 26 (by decide) (w_RX8_191) (fun _ h9 => h9) rfl dX8_share_84 ?_
                  refine lv_imul hx hb dX8_share_87 ?_
                  refine lv_iload hx hb dX8_share_88 (lv_at hl 4 rfl) ?_
                  refine lv_iadd hx hb dX8_share_90 ?_
                  refine va_iald hx hb hK hP 4 0 rfl rfl (by rw [an_ix hmx hz]; exact vp_in_nI (by have := (lp_lt hz hnb (by omega) h2 c_62); omega) (by omega)) dX8_share_91 ?_
                  rw [(sr_src hmx hmx5 hz (by have := (lp_lt hz hnb (by omega) h2 c_62); omega)).trans (hsa k (lp_lt hz hnb (by omega) h2 c_62))]
                  refine lv_iload_n hx hb dX8_share_92 rfl (lv_at hl 2 rfl) ?_
                  refine rq_call1 (v := .int (pw m0 32 e0 1 (sa k))) (rn_V (As := [.int (sa k), .int (nI e0)]) (rest := [.int ((40 * j) + z), .ref m35]) (ci := 7) (fs := [.int m0, .int m1, .int m2, .int m3, .int m4, .ref m5, .int m6, .int m7, .int m8, .ref m9, .ref m10, .ref m11, .int m12, .ref m13, .ref m14, .ref m15, .ref m16, .int m17, .ref m18, .ref m19, .ref m20, .ref m21, .ref m22, .ref m23, .ref m24, .ref m25, .int m26, .int m27, .int m28, .int m29, .int m30, .int m31, .ref m32, .ref m33, .ref m34, .ref m35, .int m36, .ref m37, .int m38, .ref m39, .ref m40, .ref m41, .ref m42, .ref m43]) ⟨hx, hb, hml, hown, hts⟩ (c_X8_power l D cA h0 m0 m1 m2 m3 m4 m5 m6 m7 m8 m9 m10 m11 m12 m13 m14 m15 m16 m17 m18 m19 m20 m21 m22 m23 m24 m25 m26 m27 m28 m29 m30 m31 m32 m33 m34 m35 m36 m37 m38 m39 m40 m41 m42 m43 (sa k) (nI e0) e0 rfl he9 (iv_p hgp hp1.1 hp1.2)) rfl (cwV 2 hts gX8_share_X8_power rfl rfl rfl (by decide +kernel) ⟨Nat.le_of_ble_eq_true rfl, Nat.le_of_ble_eq_true rfl⟩) hK hP [0] rfl rfl rfl hl.1 rfl (Nat.le_of_ble_eq_true rfl) dX8_share_93 ⟨Nat.le_of_ble_eq_true rfl, Nat.le_of_ble_eq_true rfl⟩) ?_
                  refine va_iast hx hb hK hP hD hS 3 0 rfl rfl (by rw [an_ix hj hz]; exact vp_in_nI (by have := (lp_lt hz hnb (by omega) h2 c_62); omega) (by omega)) dX8_share_96 (fun H locs hP hD hS => ?_)
                  have hP : va_P D vwCl [(h0, .inr (7, [.int m0, .int m1, .int m2, .int m3, .int m4, .ref m5, .int m6, .int m7, .int m8, .ref m9, .ref m10, .ref m11, .int m12, .ref m13, .ref m14, .ref m15, .ref m16, .int m17, .ref m18, .ref m19, .ref m20, .ref m21, .ref m22, .ref m23, .ref m24, .ref m25, .int m26, .int m27, .int m28, .int m29, .int m30, .int m31, .ref m32, .ref m33, .ref m34, .ref m35, .int m36, .ref m37, .int m38, .ref m39, .ref m40, .ref m41, .ref m42, .ref m43])), (m5, .inl (cA 0, 5, .inl cf_)), (m34, .inl (cA 1, 6, .inl gvn)), (m35, .inl (cA 0, 240, .inl (upd (scat (fun i => 40 * j0 + i) (fun i => pw m0 32 e0 1 (sa i)) gvf k) ((40 * j) + z).toNatClampNeg (pw m0 32 e0 1 (sa k))))), (m13, .inl (cA 0, 200, .inl laf)), (m39, .inl (cA 0, 600, .inl kf)), (m40, .inl (cA 2, 600, .inr (.inl (fun i => (xf i).toInt64)))), (m41, .inl (cA 2, 600, .inr (.inl (fun i => (yf i).toInt64)))), (m42, .inl (cA 2, 600, .inr (.inl zf))), (m43, .inl (cA 2, 600, .inr (.inl cf)))] H := hP
                  have hD : va_D A [(h0, .inr (7, [.int m0, .int m1, .int m2, .int m3, .int m4, .ref m5, .int m6, .int m7, .int m8, .ref m9, .ref m10, .ref m11, .int m12, .ref m13, .ref m14, .ref m15, .ref m16, .int m17, .ref m18, .ref m19, .ref m20, .ref m21, .ref m22, .ref m23, .ref m24, .ref m25, .int m26, .int m27, .int m28, .int m29, .int m30, .int m31, .ref m32, .ref m33, .ref m34, .ref m35, .int m36, .ref m37, .int m38, .ref m39, .ref m40, .ref m41, .ref m42, .ref m43])), (m5, .inl (cA 0, 5, .inl cf_)), (m34, .inl (cA 1, 6, .inl gvn)), (m35, .inl (cA 0, 240, .inl (upd (scat (fun i => 40 * j0 + i) (fun i => pw m0 32 e0 1 (sa i)) gvf k) ((40 * j) + z).toNatClampNeg (pw m0 32 e0 1 (sa k))))), (m13, .inl (cA 0, 200, .inl laf)), (m39, .inl (cA 0, 600, .inl kf)), (m40, .inl (cA 2, 600, .inr (.inl (fun i => (xf i).toInt64)))), (m41, .inl (cA 2, 600, .inr (.inl (fun i => (yf i).toInt64)))), (m42, .inl (cA 2, 600, .inr (.inl zf))), (m43, .inl (cA 2, 600, .inr (.inl cf)))] := hD
                  have e9 : (upd (scat (fun i => 40 * j0 + i) (fun i => pw m0 32 e0 1 (sa i)) gvf k) ((40 * j) + z).toNatClampNeg (pw m0 32 e0 1 (sa k))) = (scat (fun i => 40 * j0 + i) (fun i => pw m0 32 e0 1 (sa i)) gvf (k + 1)) := scat_s (sr_ix hj hj5 hz (by have := (lp_lt hz hnb (by omega) h2 c_62); omega)) rfl
                  have hP := va_P.arr (g' := (scat (fun i => 40 * j0 + i) (fun i => pw m0 32 e0 1 (sa i)) gvf (k + 1))) hP 3 rfl (fun j _ => congrFun e9 j)
                  have hD := va_D.arr (g' := (scat (fun i => 40 * j0 + i) (fun i => pw m0 32 e0 1 (sa i)) gvf (k + 1))) hD 3 rfl
                  clear e9
                  have hP : va_P D vwCl [(h0, .inr (7, [.int m0, .int m1, .int m2, .int m3, .int m4, .ref m5, .int m6, .int m7, .int m8, .ref m9, .ref m10, .ref m11, .int m12, .ref m13, .ref m14, .ref m15, .ref m16, .int m17, .ref m18, .ref m19, .ref m20, .ref m21, .ref m22, .ref m23, .ref m24, .ref m25, .int m26, .int m27, .int m28, .int m29, .int m30, .int m31, .ref m32, .ref m33, .ref m34, .ref m35, .int m36, .ref m37, .int m38, .ref m39, .ref m40, .ref m41, .ref m42, .ref m43])), (m5, .inl (cA 0, 5, .inl cf_)), (m34, .inl (cA 1, 6, .inl gvn)), (m35, .inl (cA 0, 240, .inl (scat (fun i => 40 * j0 + i) (fun i => pw m0 32 e0 1 (sa i)) gvf (k + 1)))), (m13, .inl (cA 0, 200, .inl laf)), (m39, .inl (cA 0, 600, .inl kf)), (m40, .inl (cA 2, 600, .inr (.inl (fun i => (xf i).toInt64)))), (m41, .inl (cA 2, 600, .inr (.inl (fun i => (yf i).toInt64)))), (m42, .inl (cA 2, 600, .inr (.inl zf))), (m43, .inl (cA 2, 600, .inr (.inl cf)))] H := hP
                  have hD : va_D A [(h0, .inr (7, [.int m0, .int m1, .int m2, .int m3, .int m4, .ref m5, .int m6, .int m7, .int m8, .ref m9, .ref m10, .ref m11, .int m12, .ref m13, .ref m14, .ref m15, .ref m16, .int m17, .ref m18, .ref m19, .ref m20, .ref m21, .ref m22, .ref m23, .ref m24, .ref m25, .int m26, .int m27, .int m28, .int m29, .int m30, .int m31, .ref m32, .ref m33, .ref m34, .ref m35, .int m36, .ref m37, .int m38, .ref m39, .ref m40, .ref m41, .ref m42, .ref m43])), (m5, .inl (cA 0, 5, .inl cf_)), (m34, .inl (cA 1, 6, .inl gvn)), (m35, .inl (cA 0, 240, .inl (scat (fun i => 40 * j0 + i) (fun i => pw m0 32 e0 1 (sa i)) gvf (k + 1)))), (m13, .inl (cA 0, 200, .inl laf)), (m39, .inl (cA 0, 600, .inl kf)), (m40, .inl (cA 2, 600, .inr (.inl (fun i => (xf i).toInt64)))), (m41, .inl (cA 2, 600, .inr (.inl (fun i => (yf i).toInt64)))), (m42, .inl (cA 2, 600, .inr (.inl zf))), (m43, .inl (cA 2, 600, .inr (.inl cf)))] := hD
                  refine lv_lload_n hx hb dX8_share_97 rfl (lv_at hl 3 rfl) ?_
                  refine lv_aload_n hx hb dX8_share_98 rfl (lv_at hl 0 rfl) ?_
                  refine va_get (D := D) (ci := 7) (v := .ref m35) (C := RX8) (T := TX8) (N := 44) hx hb hts hin_X8 hown hK hP 0 rfl rfl 35 (by decide) (w_RX8_68) (fun _ h9 => h9) rfl dX8_share_99 ?_
                  refine lv_bipush (v := 40) hx hb dX8_share_102 (by decide) ?_
                  refine lv_iload_n hx hb dX8_share_104 rfl (lv_at hl 1 rfl) ?_
                  refine lv_imul hx hb dX8_share_105 ?_
                  refine lv_iload hx hb dX8_share_106 (lv_at hl 4 rfl) ?_
                  refine lv_iadd hx hb dX8_share_108 ?_
                  refine va_iald hx hb hK hP 3 0 rfl rfl (by rw [an_ix hj hz]; exact vp_in_nI (by have := (lp_lt hz hnb (by omega) h2 c_62); omega) (by omega)) dX8_share_109 ?_
                  rw [sr_at (v := (fun i => pw m0 32 e0 1 (sa i))) hj hj5 hz (by have := (lp_lt hz hnb (by omega) h2 c_62); omega)]
                  refine lv_i2l hx hb dX8_share_110 rfl ?_
                  refine rq_call1 (v := .long (dg d ((pw m0 32 e0 1 (sa k)).toInt64))) (rn_S (As := [.long d, .long (pw m0 32 e0 1 (sa k)).toInt64]) (rest := []) ⟨hx, hb, hml, hown, hts⟩ (c_X8_on l D cA d ((pw m0 32 e0 1 (sa k)).toInt64)) (va_cwS 2 hts gX8_share_X8_on rfl rfl rfl (by decide +kernel) ⟨Nat.le_of_ble_eq_true rfl, Nat.le_of_ble_eq_true rfl⟩) hK hP [] rfl rfl hl.1 rfl (Nat.le_of_ble_eq_true rfl) dX8_share_111 ⟨Nat.le_of_ble_eq_true rfl, Nat.le_of_ble_eq_true rfl⟩) ?_
                  refine lv_lstore_n (lv' := [(3, .long (dg d ((pw m0 32 e0 1 (sa k)).toInt64))), (0, .ref h0), (1, .int j), (2, .int (nI e0)), (5, .int z)]) hx hb dX8_share_114 rfl hl (by decide) rfl (fun ls hl => ?_)
                  refine lv_iinc (v := (z + 1)) (lv' := [(5, .int (z + 1)), (3, .long (dg d ((pw m0 32 e0 1 (sa k)).toInt64))), (0, .ref h0), (1, .int j), (2, .int (nI e0))]) hx hb dX8_share_115 hl (k := 4) rfl rfl (by decide) rfl (fun ls hl => ?_)
                  refine lv_goto (tgt := 56) hx hb dX8_share_118 (by decide) ?_
                  have hk := lp_lt hz hnb (by omega) h2 c_62
                  exact ih (k + 1) (z + 1) _ (st_1 hz) (by omega) (by omega) (by rw [hd]; rfl) _ _ hP hD hS ls (lv_sub hl [2, 3, 4, 1, 0] rfl)
            exact loop56 (b0 + 1) 0 0 0 rfl (by omega) (by omega) rfl _ _ hP hD hS ls (lv_sub hl [3, 4, 2, 1, 0] rfl)
          · exact absurd hok.2.2.1 c_40
