theorem dX8_times_0 : decode cX8_times 0 = .ok (.iload_n 1, 1) := by decide +kernel
theorem dX8_times_1 : decode cX8_times 1 = .ok (.i2l, 1) := by decide +kernel
theorem dX8_times_2 : decode cX8_times 2 = .ok (.iload_n 2, 1) := by decide +kernel
theorem dX8_times_3 : decode cX8_times 3 = .ok (.i2l, 1) := by decide +kernel
theorem dX8_times_4 : decode cX8_times 4 = .ok (.lmul, 1) := by decide +kernel
theorem dX8_times_5 : decode cX8_times 5 = .ok (.aload_n 0, 1) := by decide +kernel
theorem dX8_times_6 : decode cX8_times 6 = .ok (.getfield 99, 3) := by decide +kernel
theorem dX8_times_9 : decode cX8_times 9 = .ok (.i2l, 1) := by decide +kernel
theorem dX8_times_10 : decode cX8_times 10 = .ok (.lrem, 1) := by decide +kernel
theorem dX8_times_11 : decode cX8_times 11 = .ok (.l2i, 1) := by decide +kernel
theorem dX8_times_12 : decode cX8_times 12 = .ok (.ireturn, 1) := by decide +kernel
set_option maxRecDepth 20000 in
theorem ggX8_power_X8_times : GoodIn wsX8_power wsX8_times := goodIn_r _ [5, 6, 7, 8, 9, 10, 11, 12, 13, 14, 15, 16, 17, 18, 19, 20, 21, 22, 23, 24, 25, 26, 27, 28, 29, 30, 31, 32, 33, 34, 35, 36, 37, 38, 39, 40, 41, 42, 43, 44, 45, 46, 47, 48, 49, 50] (by decide +kernel) (by decide +kernel)
set_option maxRecDepth 20000 in
theorem gX8_power_X8_times : GoodIn wsX8_power (wsV RX8 118 RX8 yX8_times wsX8_times) := goodIn_app (goodIn_of _ (by decide +kernel)) ggX8_power_X8_times
theorem dX8_power_0 : decode cX8_power 0 = .ok (.iconst 1, 1) := by decide +kernel
theorem dX8_power_1 : decode cX8_power 1 = .ok (.istore_n 3, 1) := by decide +kernel
theorem dX8_power_2 : decode cX8_power 2 = .ok (.iload_n 1, 1) := by decide +kernel
theorem dX8_power_3 : decode cX8_power 3 = .ok (.istore 4, 2) := by decide +kernel
theorem dX8_power_5 : decode cX8_power 5 = .ok (.iload_n 2, 1) := by decide +kernel
theorem dX8_power_6 : decode cX8_power 6 = .ok (.istore 5, 2) := by decide +kernel
theorem dX8_power_8 : decode cX8_power 8 = .ok (.iload 5, 2) := by decide +kernel
theorem dX8_power_10 : decode cX8_power 10 = .ok (.ifCond .le 38, 3) := by decide +kernel
theorem dX8_power_13 : decode cX8_power 13 = .ok (.iload 5, 2) := by decide +kernel
theorem dX8_power_15 : decode cX8_power 15 = .ok (.iconst 2, 1) := by decide +kernel
theorem dX8_power_16 : decode cX8_power 16 = .ok (.irem, 1) := by decide +kernel
theorem dX8_power_17 : decode cX8_power 17 = .ok (.iconst 1, 1) := by decide +kernel
theorem dX8_power_18 : decode cX8_power 18 = .ok (.if_icmp .ne 11, 3) := by decide +kernel
theorem dX8_power_21 : decode cX8_power 21 = .ok (.aload_n 0, 1) := by decide +kernel
theorem dX8_power_22 : decode cX8_power 22 = .ok (.iload_n 3, 1) := by decide +kernel
theorem dX8_power_23 : decode cX8_power 23 = .ok (.iload 4, 2) := by decide +kernel
theorem dX8_power_25 : decode cX8_power 25 = .ok (.invokevirtual 118, 3) := by decide +kernel
theorem dX8_power_28 : decode cX8_power 28 = .ok (.istore_n 3, 1) := by decide +kernel
theorem dX8_power_29 : decode cX8_power 29 = .ok (.aload_n 0, 1) := by decide +kernel
theorem dX8_power_30 : decode cX8_power 30 = .ok (.iload 4, 2) := by decide +kernel
theorem dX8_power_32 : decode cX8_power 32 = .ok (.iload 4, 2) := by decide +kernel
theorem dX8_power_34 : decode cX8_power 34 = .ok (.invokevirtual 118, 3) := by decide +kernel
theorem dX8_power_37 : decode cX8_power 37 = .ok (.istore 4, 2) := by decide +kernel
theorem dX8_power_39 : decode cX8_power 39 = .ok (.iload 5, 2) := by decide +kernel
theorem dX8_power_41 : decode cX8_power 41 = .ok (.iconst 2, 1) := by decide +kernel
theorem dX8_power_42 : decode cX8_power 42 = .ok (.idiv, 1) := by decide +kernel
theorem dX8_power_43 : decode cX8_power 43 = .ok (.istore 5, 2) := by decide +kernel
theorem dX8_power_45 : decode cX8_power 45 = .ok (.goto (-37), 3) := by decide +kernel
theorem dX8_power_48 : decode cX8_power 48 = .ok (.iload_n 3, 1) := by decide +kernel
theorem dX8_power_49 : decode cX8_power 49 = .ok (.ireturn, 1) := by decide +kernel
set_option maxRecDepth 20000 in
theorem ggX8_isOfGroup_X8_in : GoodIn wsX8_isOfGroup wsX8_in := goodIn_r _ [6] (by decide +kernel) (by decide +kernel)
set_option maxRecDepth 20000 in
theorem gX8_isOfGroup_X8_in : GoodIn wsX8_isOfGroup (va_wsS RX8 122 yX8_in wsX8_in) := goodIn_app (goodIn_of _ (by decide +kernel)) ggX8_isOfGroup_X8_in
set_option maxRecDepth 20000 in
theorem ggX8_isOfGroup_X8_power : GoodIn wsX8_isOfGroup wsX8_power := goodIn_r _ [10, 11, 12, 13, 5, 14, 1, 15, 16, 17, 18, 19, 20, 21, 22, 23, 24, 25, 26, 27, 28, 29, 30, 31, 32, 33, 34, 35, 36, 37, 38, 39, 40, 41, 42, 43, 44, 45, 46, 47, 48, 49, 50, 51, 52, 53, 54, 55, 56, 57, 58] (by decide +kernel) (by decide +kernel)
set_option maxRecDepth 20000 in
theorem gX8_isOfGroup_X8_power : GoodIn wsX8_isOfGroup (wsV RX8 126 RX8 yX8_power wsX8_power) := goodIn_app (goodIn_of _ (by decide +kernel)) ggX8_isOfGroup_X8_power
theorem dX8_isOfGroup_0 : decode cX8_isOfGroup 0 = .ok (.iload_n 1, 1) := by decide +kernel
theorem dX8_isOfGroup_1 : decode cX8_isOfGroup 1 = .ok (.iconst 1, 1) := by decide +kernel
theorem dX8_isOfGroup_2 : decode cX8_isOfGroup 2 = .ok (.aload_n 0, 1) := by decide +kernel
theorem dX8_isOfGroup_3 : decode cX8_isOfGroup 3 = .ok (.getfield 99, 3) := by decide +kernel
theorem dX8_isOfGroup_6 : decode cX8_isOfGroup 6 = .ok (.iconst 1, 1) := by decide +kernel
theorem dX8_isOfGroup_7 : decode cX8_isOfGroup 7 = .ok (.isub, 1) := by decide +kernel
theorem dX8_isOfGroup_8 : decode cX8_isOfGroup 8 = .ok (.invokestatic 122, 3) := by decide +kernel
theorem dX8_isOfGroup_11 : decode cX8_isOfGroup 11 = .ok (.ifCond .eq 20, 3) := by decide +kernel
theorem dX8_isOfGroup_14 : decode cX8_isOfGroup 14 = .ok (.aload_n 0, 1) := by decide +kernel
theorem dX8_isOfGroup_15 : decode cX8_isOfGroup 15 = .ok (.iload_n 1, 1) := by decide +kernel
theorem dX8_isOfGroup_16 : decode cX8_isOfGroup 16 = .ok (.aload_n 0, 1) := by decide +kernel
theorem dX8_isOfGroup_17 : decode cX8_isOfGroup 17 = .ok (.getfield 103, 3) := by decide +kernel
theorem dX8_isOfGroup_20 : decode cX8_isOfGroup 20 = .ok (.invokevirtual 126, 3) := by decide +kernel
theorem dX8_isOfGroup_23 : decode cX8_isOfGroup 23 = .ok (.iconst 1, 1) := by decide +kernel
theorem dX8_isOfGroup_24 : decode cX8_isOfGroup 24 = .ok (.if_icmp .ne 7, 3) := by decide +kernel
theorem dX8_isOfGroup_27 : decode cX8_isOfGroup 27 = .ok (.iconst 1, 1) := by decide +kernel
theorem dX8_isOfGroup_28 : decode cX8_isOfGroup 28 = .ok (.goto 4, 3) := by decide +kernel
theorem dX8_isOfGroup_31 : decode cX8_isOfGroup 31 = .ok (.iconst 0, 1) := by decide +kernel
theorem dX8_isOfGroup_32 : decode cX8_isOfGroup 32 = .ok (.ireturn, 1) := by decide +kernel
set_option maxRecDepth 20000 in
theorem ggX8_isExponent_X8_in : GoodIn wsX8_isExponent wsX8_in := goodIn_r _ [5] (by decide +kernel) (by decide +kernel)
set_option maxRecDepth 20000 in
theorem gX8_isExponent_X8_in : GoodIn wsX8_isExponent (va_wsS RX8 122 yX8_in wsX8_in) := goodIn_app (goodIn_of _ (by decide +kernel)) ggX8_isExponent_X8_in
theorem dX8_isExponent_0 : decode cX8_isExponent 0 = .ok (.iload_n 1, 1) := by decide +kernel
theorem dX8_isExponent_1 : decode cX8_isExponent 1 = .ok (.iconst 0, 1) := by decide +kernel
theorem dX8_isExponent_2 : decode cX8_isExponent 2 = .ok (.aload_n 0, 1) := by decide +kernel
theorem dX8_isExponent_3 : decode cX8_isExponent 3 = .ok (.getfield 103, 3) := by decide +kernel
theorem dX8_isExponent_6 : decode cX8_isExponent 6 = .ok (.iconst 1, 1) := by decide +kernel
theorem dX8_isExponent_7 : decode cX8_isExponent 7 = .ok (.isub, 1) := by decide +kernel
theorem dX8_isExponent_8 : decode cX8_isExponent 8 = .ok (.invokestatic 122, 3) := by decide +kernel
theorem dX8_isExponent_11 : decode cX8_isExponent 11 = .ok (.ireturn, 1) := by decide +kernel
set_option maxRecDepth 20000 in
theorem ggX8_mark_X8_power : GoodIn wsX8_mark wsX8_power := goodIn_r _ [5, 6, 7, 8, 4, 9, 10, 11, 12, 13, 14, 15, 16, 17, 18, 19, 20, 21, 22, 23, 24, 25, 26, 27, 28, 29, 30, 31, 32, 33, 34, 35, 36, 37, 38, 39, 40, 41, 42, 43, 44, 45, 46, 47, 48, 49, 50, 51, 52, 53, 54] (by decide +kernel) (by decide +kernel)
set_option maxRecDepth 20000 in
theorem gX8_mark_X8_power : GoodIn wsX8_mark (wsV RX8 126 RX8 yX8_power wsX8_power) := goodIn_app (goodIn_of _ (by decide +kernel)) ggX8_mark_X8_power
theorem dX8_mark_0 : decode cX8_mark 0 = .ok (.aload_n 0, 1) := by decide +kernel
theorem dX8_mark_1 : decode cX8_mark 1 = .ok (.iconst 4, 1) := by decide +kernel
theorem dX8_mark_2 : decode cX8_mark 2 = .ok (.iload_n 1, 1) := by decide +kernel
theorem dX8_mark_3 : decode cX8_mark 3 = .ok (.iconst 1, 1) := by decide +kernel
theorem dX8_mark_4 : decode cX8_mark 4 = .ok (.iadd, 1) := by decide +kernel
theorem dX8_mark_5 : decode cX8_mark 5 = .ok (.invokevirtual 126, 3) := by decide +kernel
theorem dX8_mark_8 : decode cX8_mark 8 = .ok (.ireturn, 1) := by decide +kernel
theorem dX8_on_0 : decode cX8_on 0 = .ok (.lload_n 0, 1) := by decide +kernel
theorem dX8_on_1 : decode cX8_on 1 = .ok (.lload_n 2, 1) := by decide +kernel
theorem dX8_on_2 : decode cX8_on 2 = .ok (.lxor, 1) := by decide +kernel
theorem dX8_on_3 : decode cX8_on 3 = .ok (.ldc2_w 129, 3) := by decide +kernel
theorem dX8_on_6 : decode cX8_on 6 = .ok (.lmul, 1) := by decide +kernel
theorem dX8_on_7 : decode cX8_on 7 = .ok (.lreturn, 1) := by decide +kernel
set_option maxRecDepth 20000 in
theorem ggX8_digest_X8_on : GoodIn wsX8_digest wsX8_on := goodIn_r _ [4, 5] (by decide +kernel) (by decide +kernel)
set_option maxRecDepth 20000 in
theorem gX8_digest_X8_on : GoodIn wsX8_digest (va_wsS RX8 131 yX8_on wsX8_on) := goodIn_app (goodIn_of _ (by decide +kernel)) ggX8_digest_X8_on
theorem dX8_digest_0 : decode cX8_digest 0 = .ok (.lconst 0, 1) := by decide +kernel
theorem dX8_digest_1 : decode cX8_digest 1 = .ok (.lstore 4, 2) := by decide +kernel
theorem dX8_digest_3 : decode cX8_digest 3 = .ok (.iload_n 2, 1) := by decide +kernel
theorem dX8_digest_4 : decode cX8_digest 4 = .ok (.istore 6, 2) := by decide +kernel
theorem dX8_digest_6 : decode cX8_digest 6 = .ok (.iload 6, 2) := by decide +kernel
theorem dX8_digest_8 : decode cX8_digest 8 = .ok (.iload_n 2, 1) := by decide +kernel
theorem dX8_digest_9 : decode cX8_digest 9 = .ok (.iload_n 3, 1) := by decide +kernel
theorem dX8_digest_10 : decode cX8_digest 10 = .ok (.iadd, 1) := by decide +kernel
theorem dX8_digest_11 : decode cX8_digest 11 = .ok (.if_icmp .ge 29, 3) := by decide +kernel
theorem dX8_digest_14 : decode cX8_digest 14 = .ok (.lload 4, 2) := by decide +kernel
theorem dX8_digest_16 : decode cX8_digest 16 = .ok (.aload_n 0, 1) := by decide +kernel
theorem dX8_digest_17 : decode cX8_digest 17 = .ok (.iload 6, 2) := by decide +kernel
theorem dX8_digest_19 : decode cX8_digest 19 = .ok (.iaload, 1) := by decide +kernel
theorem dX8_digest_20 : decode cX8_digest 20 = .ok (.i2l, 1) := by decide +kernel
theorem dX8_digest_21 : decode cX8_digest 21 = .ok (.invokestatic 131, 3) := by decide +kernel
theorem dX8_digest_24 : decode cX8_digest 24 = .ok (.aload_n 1, 1) := by decide +kernel
theorem dX8_digest_25 : decode cX8_digest 25 = .ok (.iload 6, 2) := by decide +kernel
theorem dX8_digest_27 : decode cX8_digest 27 = .ok (.iaload, 1) := by decide +kernel
theorem dX8_digest_28 : decode cX8_digest 28 = .ok (.i2l, 1) := by decide +kernel
theorem dX8_digest_29 : decode cX8_digest 29 = .ok (.invokestatic 131, 3) := by decide +kernel
theorem dX8_digest_32 : decode cX8_digest 32 = .ok (.lstore 4, 2) := by decide +kernel
theorem dX8_digest_34 : decode cX8_digest 34 = .ok (.iinc 6 1, 3) := by decide +kernel
theorem dX8_digest_37 : decode cX8_digest 37 = .ok (.goto (-31), 3) := by decide +kernel
theorem dX8_digest_40 : decode cX8_digest 40 = .ok (.lload 4, 2) := by decide +kernel
theorem dX8_digest_42 : decode cX8_digest 42 = .ok (.lreturn, 1) := by decide +kernel
set_option maxRecDepth 20000 in
theorem ggX8_enter_X8_on : GoodIn wsX8_enter wsX8_on := goodIn_r _ [11, 12] (by decide +kernel) (by decide +kernel)
set_option maxRecDepth 20000 in
theorem gX8_enter_X8_on : GoodIn wsX8_enter (va_wsS RX8 131 yX8_on wsX8_on) := goodIn_app (goodIn_of _ (by decide +kernel)) ggX8_enter_X8_on
theorem dX8_enter_0 : decode cX8_enter 0 = .ok (.aload_n 0, 1) := by decide +kernel
theorem dX8_enter_1 : decode cX8_enter 1 = .ok (.getfield 74, 3) := by decide +kernel
theorem dX8_enter_4 : decode cX8_enter 4 = .ok (.aload_n 0, 1) := by decide +kernel
theorem dX8_enter_5 : decode cX8_enter 5 = .ok (.getfield 135, 3) := by decide +kernel
theorem dX8_enter_8 : decode cX8_enter 8 = .ok (.iload_n 1, 1) := by decide +kernel
theorem dX8_enter_9 : decode cX8_enter 9 = .ok (.iastore, 1) := by decide +kernel
theorem dX8_enter_10 : decode cX8_enter 10 = .ok (.aload_n 0, 1) := by decide +kernel
theorem dX8_enter_11 : decode cX8_enter 11 = .ok (.getfield 77, 3) := by decide +kernel
theorem dX8_enter_14 : decode cX8_enter 14 = .ok (.aload_n 0, 1) := by decide +kernel
theorem dX8_enter_15 : decode cX8_enter 15 = .ok (.getfield 135, 3) := by decide +kernel
theorem dX8_enter_18 : decode cX8_enter 18 = .ok (.lload_n 2, 1) := by decide +kernel
theorem dX8_enter_19 : decode cX8_enter 19 = .ok (.lastore, 1) := by decide +kernel
theorem dX8_enter_20 : decode cX8_enter 20 = .ok (.aload_n 0, 1) := by decide +kernel
theorem dX8_enter_21 : decode cX8_enter 21 = .ok (.getfield 81, 3) := by decide +kernel
theorem dX8_enter_24 : decode cX8_enter 24 = .ok (.aload_n 0, 1) := by decide +kernel
theorem dX8_enter_25 : decode cX8_enter 25 = .ok (.getfield 135, 3) := by decide +kernel
theorem dX8_enter_28 : decode cX8_enter 28 = .ok (.lload 4, 2) := by decide +kernel
theorem dX8_enter_30 : decode cX8_enter 30 = .ok (.lastore, 1) := by decide +kernel
theorem dX8_enter_31 : decode cX8_enter 31 = .ok (.aload_n 0, 1) := by decide +kernel
theorem dX8_enter_32 : decode cX8_enter 32 = .ok (.getfield 84, 3) := by decide +kernel
theorem dX8_enter_35 : decode cX8_enter 35 = .ok (.aload_n 0, 1) := by decide +kernel
theorem dX8_enter_36 : decode cX8_enter 36 = .ok (.getfield 135, 3) := by decide +kernel
theorem dX8_enter_39 : decode cX8_enter 39 = .ok (.lload 6, 2) := by decide +kernel
theorem dX8_enter_41 : decode cX8_enter 41 = .ok (.lastore, 1) := by decide +kernel
theorem dX8_enter_42 : decode cX8_enter 42 = .ok (.aload_n 0, 1) := by decide +kernel
theorem dX8_enter_43 : decode cX8_enter 43 = .ok (.getfield 135, 3) := by decide +kernel
theorem dX8_enter_46 : decode cX8_enter 46 = .ok (.ifCond .ne 9, 3) := by decide +kernel
theorem dX8_enter_49 : decode cX8_enter 49 = .ok (.ldc2_w 138, 3) := by decide +kernel
theorem dX8_enter_52 : decode cX8_enter 52 = .ok (.goto 14, 3) := by decide +kernel
theorem dX8_enter_55 : decode cX8_enter 55 = .ok (.aload_n 0, 1) := by decide +kernel
theorem dX8_enter_56 : decode cX8_enter 56 = .ok (.getfield 87, 3) := by decide +kernel
theorem dX8_enter_59 : decode cX8_enter 59 = .ok (.aload_n 0, 1) := by decide +kernel
theorem dX8_enter_60 : decode cX8_enter 60 = .ok (.getfield 135, 3) := by decide +kernel
theorem dX8_enter_63 : decode cX8_enter 63 = .ok (.iconst 1, 1) := by decide +kernel
theorem dX8_enter_64 : decode cX8_enter 64 = .ok (.isub, 1) := by decide +kernel
theorem dX8_enter_65 : decode cX8_enter 65 = .ok (.laload, 1) := by decide +kernel
theorem dX8_enter_66 : decode cX8_enter 66 = .ok (.lstore 8, 2) := by decide +kernel
theorem dX8_enter_68 : decode cX8_enter 68 = .ok (.aload_n 0, 1) := by decide +kernel
theorem dX8_enter_69 : decode cX8_enter 69 = .ok (.getfield 87, 3) := by decide +kernel
theorem dX8_enter_72 : decode cX8_enter 72 = .ok (.aload_n 0, 1) := by decide +kernel
theorem dX8_enter_73 : decode cX8_enter 73 = .ok (.getfield 135, 3) := by decide +kernel
theorem dX8_enter_76 : decode cX8_enter 76 = .ok (.lload 8, 2) := by decide +kernel
theorem dX8_enter_78 : decode cX8_enter 78 = .ok (.iload_n 1, 1) := by decide +kernel
theorem dX8_enter_79 : decode cX8_enter 79 = .ok (.i2l, 1) := by decide +kernel
theorem dX8_enter_80 : decode cX8_enter 80 = .ok (.invokestatic 131, 3) := by decide +kernel
theorem dX8_enter_83 : decode cX8_enter 83 = .ok (.lload_n 2, 1) := by decide +kernel
theorem dX8_enter_84 : decode cX8_enter 84 = .ok (.invokestatic 131, 3) := by decide +kernel
theorem dX8_enter_87 : decode cX8_enter 87 = .ok (.lload 4, 2) := by decide +kernel
theorem dX8_enter_89 : decode cX8_enter 89 = .ok (.invokestatic 131, 3) := by decide +kernel
theorem dX8_enter_92 : decode cX8_enter 92 = .ok (.lload 6, 2) := by decide +kernel
theorem dX8_enter_94 : decode cX8_enter 94 = .ok (.invokestatic 131, 3) := by decide +kernel
theorem dX8_enter_97 : decode cX8_enter 97 = .ok (.lastore, 1) := by decide +kernel
theorem dX8_enter_98 : decode cX8_enter 98 = .ok (.aload_n 0, 1) := by decide +kernel
theorem dX8_enter_99 : decode cX8_enter 99 = .ok (.dup, 1) := by decide +kernel
theorem dX8_enter_100 : decode cX8_enter 100 = .ok (.getfield 135, 3) := by decide +kernel
theorem dX8_enter_103 : decode cX8_enter 103 = .ok (.iconst 1, 1) := by decide +kernel
theorem dX8_enter_104 : decode cX8_enter 104 = .ok (.iadd, 1) := by decide +kernel
theorem dX8_enter_105 : decode cX8_enter 105 = .ok (.putfield 135, 3) := by decide +kernel
theorem dX8_enter_108 : decode cX8_enter 108 = .ok (.aload_n 0, 1) := by decide +kernel
theorem dX8_enter_109 : decode cX8_enter 109 = .ok (.getfield 87, 3) := by decide +kernel
theorem dX8_enter_112 : decode cX8_enter 112 = .ok (.aload_n 0, 1) := by decide +kernel
theorem dX8_enter_113 : decode cX8_enter 113 = .ok (.getfield 135, 3) := by decide +kernel
theorem dX8_enter_116 : decode cX8_enter 116 = .ok (.iconst 1, 1) := by decide +kernel
theorem dX8_enter_117 : decode cX8_enter 117 = .ok (.isub, 1) := by decide +kernel
theorem dX8_enter_118 : decode cX8_enter 118 = .ok (.laload, 1) := by decide +kernel
theorem dX8_enter_119 : decode cX8_enter 119 = .ok (.lreturn, 1) := by decide +kernel
set_option maxRecDepth 20000 in
theorem ggX8_secret_X8_in : GoodIn wsX8_secret wsX8_in := goodIn_r _ [7] (by decide +kernel) (by decide +kernel)
set_option maxRecDepth 20000 in
theorem gX8_secret_X8_in : GoodIn wsX8_secret (va_wsS RX8 122 yX8_in wsX8_in) := goodIn_app (goodIn_of _ (by decide +kernel)) ggX8_secret_X8_in
set_option maxRecDepth 20000 in
theorem ggX8_secret_X8_isExponent : GoodIn wsX8_secret wsX8_isExponent := goodIn_r _ [11, 12, 4, 5, 6, 7, 13, 14, 15, 16, 17, 18, 19, 20, 21, 22, 23, 24, 25, 26, 27, 28, 29, 30, 31, 32, 33, 34, 35, 36, 37, 38, 39, 40, 41, 42, 43, 44, 45, 46, 47, 48, 49, 50, 51, 52, 53, 54, 55, 56] (by decide +kernel) (by decide +kernel)
set_option maxRecDepth 20000 in
theorem gX8_secret_X8_isExponent : GoodIn wsX8_secret (wsV RX8 143 RX8 yX8_isExponent wsX8_isExponent) := goodIn_app (goodIn_of _ (by decide +kernel)) ggX8_secret_X8_isExponent
theorem dX8_secret_0 : decode cX8_secret 0 = .ok (.aload_n 0, 1) := by decide +kernel
theorem dX8_secret_1 : decode cX8_secret 1 = .ok (.getfield 140, 3) := by decide +kernel
theorem dX8_secret_4 : decode cX8_secret 4 = .ok (.ifCond .ne 33, 3) := by decide +kernel
theorem dX8_secret_7 : decode cX8_secret 7 = .ok (.iload_n 1, 1) := by decide +kernel
theorem dX8_secret_8 : decode cX8_secret 8 = .ok (.iconst 0, 1) := by decide +kernel
theorem dX8_secret_9 : decode cX8_secret 9 = .ok (.aload_n 0, 1) := by decide +kernel
theorem dX8_secret_10 : decode cX8_secret 10 = .ok (.getfield 112, 3) := by decide +kernel
theorem dX8_secret_13 : decode cX8_secret 13 = .ok (.iconst 1, 1) := by decide +kernel
theorem dX8_secret_14 : decode cX8_secret 14 = .ok (.isub, 1) := by decide +kernel
theorem dX8_secret_15 : decode cX8_secret 15 = .ok (.invokestatic 122, 3) := by decide +kernel
theorem dX8_secret_18 : decode cX8_secret 18 = .ok (.ifCond .eq 19, 3) := by decide +kernel
theorem dX8_secret_21 : decode cX8_secret 21 = .ok (.aload_n 0, 1) := by decide +kernel
theorem dX8_secret_22 : decode cX8_secret 22 = .ok (.iload_n 2, 1) := by decide +kernel
theorem dX8_secret_23 : decode cX8_secret 23 = .ok (.invokevirtual 143, 3) := by decide +kernel
theorem dX8_secret_26 : decode cX8_secret 26 = .ok (.ifCond .eq 11, 3) := by decide +kernel
theorem dX8_secret_29 : decode cX8_secret 29 = .ok (.iload_n 1, 1) := by decide +kernel
theorem dX8_secret_30 : decode cX8_secret 30 = .ok (.ifCond .ne 9, 3) := by decide +kernel
theorem dX8_secret_33 : decode cX8_secret 33 = .ok (.iload_n 2, 1) := by decide +kernel
theorem dX8_secret_34 : decode cX8_secret 34 = .ok (.ifCond .ne 5, 3) := by decide +kernel
theorem dX8_secret_37 : decode cX8_secret 37 = .ok (.iconst 0, 1) := by decide +kernel
theorem dX8_secret_38 : decode cX8_secret 38 = .ok (.ireturn, 1) := by decide +kernel
theorem dX8_secret_39 : decode cX8_secret 39 = .ok (.aload_n 0, 1) := by decide +kernel
theorem dX8_secret_40 : decode cX8_secret 40 = .ok (.getfield 7, 3) := by decide +kernel
theorem dX8_secret_43 : decode cX8_secret 43 = .ok (.iload_n 1, 1) := by decide +kernel
theorem dX8_secret_44 : decode cX8_secret 44 = .ok (.iload_n 2, 1) := by decide +kernel
theorem dX8_secret_45 : decode cX8_secret 45 = .ok (.iastore, 1) := by decide +kernel
theorem dX8_secret_46 : decode cX8_secret 46 = .ok (.iconst 1, 1) := by decide +kernel
theorem dX8_secret_47 : decode cX8_secret 47 = .ok (.ireturn, 1) := by decide +kernel
set_option maxRecDepth 20000 in
theorem ggX8_key_X8_power : GoodIn wsX8_key wsX8_power := goodIn_r _ [10, 11, 12, 13, 9, 14, 15, 31, 32, 33, 34, 35, 36, 37, 38, 39, 40, 41, 42, 43, 44, 45, 46, 47, 48, 49, 50, 51, 52, 53, 54, 55, 56, 57, 58, 59, 60, 61, 62, 63, 64, 65, 66, 67, 68, 69, 70, 71, 72, 73, 74] (by decide +kernel) (by decide +kernel)
set_option maxRecDepth 20000 in
theorem gX8_key_X8_power : GoodIn wsX8_key (wsV RX8 126 RX8 yX8_power wsX8_power) := goodIn_app (goodIn_of _ (by decide +kernel)) ggX8_key_X8_power
set_option maxRecDepth 20000 in
theorem ggX8_key_X8_enter : GoodIn wsX8_key wsX8_enter := goodIn_r _ [19, 20, 21, 22, 23, 24, 25, 26, 27, 28, 9, 29, 30, 31, 32, 33, 34, 35, 36, 37, 38, 39, 40, 41, 42, 43, 44, 45, 46, 47, 48, 49, 50, 51, 52, 53, 54, 55, 56, 57, 58, 59, 60, 61, 62, 63, 64, 65, 66, 67, 68, 69, 70, 71, 72, 73, 74] (by decide +kernel) (by decide +kernel)
set_option maxRecDepth 20000 in
theorem gX8_key_X8_enter : GoodIn wsX8_key (wsV RX8 149 RX8 yX8_enter wsX8_enter) := goodIn_app (goodIn_of _ (by decide +kernel)) ggX8_key_X8_enter
theorem dX8_key_0 : decode cX8_key 0 = .ok (.aload_n 0, 1) := by decide +kernel
theorem dX8_key_1 : decode cX8_key 1 = .ok (.getfield 140, 3) := by decide +kernel
theorem dX8_key_4 : decode cX8_key 4 = .ok (.ifCond .eq 5, 3) := by decide +kernel
theorem dX8_key_7 : decode cX8_key 7 = .ok (.iconst (-1), 1) := by decide +kernel
theorem dX8_key_8 : decode cX8_key 8 = .ok (.ireturn, 1) := by decide +kernel
theorem dX8_key_9 : decode cX8_key 9 = .ok (.aload_n 0, 1) := by decide +kernel
theorem dX8_key_10 : decode cX8_key 10 = .ok (.aload_n 0, 1) := by decide +kernel
theorem dX8_key_11 : decode cX8_key 11 = .ok (.iconst 4, 1) := by decide +kernel
theorem dX8_key_12 : decode cX8_key 12 = .ok (.aload_n 0, 1) := by decide +kernel
theorem dX8_key_13 : decode cX8_key 13 = .ok (.getfield 7, 3) := by decide +kernel
theorem dX8_key_16 : decode cX8_key 16 = .ok (.iconst 0, 1) := by decide +kernel
theorem dX8_key_17 : decode cX8_key 17 = .ok (.iaload, 1) := by decide +kernel
theorem dX8_key_18 : decode cX8_key 18 = .ok (.invokevirtual 126, 3) := by decide +kernel
theorem dX8_key_21 : decode cX8_key 21 = .ok (.putfield 146, 3) := by decide +kernel
theorem dX8_key_24 : decode cX8_key 24 = .ok (.aload_n 0, 1) := by decide +kernel
theorem dX8_key_25 : decode cX8_key 25 = .ok (.iconst 1, 1) := by decide +kernel
theorem dX8_key_26 : decode cX8_key 26 = .ok (.putfield 140, 3) := by decide +kernel
theorem dX8_key_29 : decode cX8_key 29 = .ok (.aload_n 0, 1) := by decide +kernel
theorem dX8_key_30 : decode cX8_key 30 = .ok (.iconst 1, 1) := by decide +kernel
theorem dX8_key_31 : decode cX8_key 31 = .ok (.aload_n 0, 1) := by decide +kernel
theorem dX8_key_32 : decode cX8_key 32 = .ok (.getfield 146, 3) := by decide +kernel
theorem dX8_key_35 : decode cX8_key 35 = .ok (.i2l, 1) := by decide +kernel
theorem dX8_key_36 : decode cX8_key 36 = .ok (.aload_n 0, 1) := by decide +kernel
theorem dX8_key_37 : decode cX8_key 37 = .ok (.getfield 109, 3) := by decide +kernel
theorem dX8_key_40 : decode cX8_key 40 = .ok (.i2l, 1) := by decide +kernel
theorem dX8_key_41 : decode cX8_key 41 = .ok (.aload_n 0, 1) := by decide +kernel
theorem dX8_key_42 : decode cX8_key 42 = .ok (.getfield 112, 3) := by decide +kernel
theorem dX8_key_45 : decode cX8_key 45 = .ok (.i2l, 1) := by decide +kernel
theorem dX8_key_46 : decode cX8_key 46 = .ok (.invokevirtual 149, 3) := by decide +kernel
theorem dX8_key_49 : decode cX8_key 49 = .ok (.lstore_n 1, 1) := by decide +kernel
theorem dX8_key_50 : decode cX8_key 50 = .ok (.aload_n 0, 1) := by decide +kernel
theorem dX8_key_51 : decode cX8_key 51 = .ok (.getfield 146, 3) := by decide +kernel
theorem dX8_key_54 : decode cX8_key 54 = .ok (.ireturn, 1) := by decide +kernel
theorem dX8_voter_0 : decode cX8_voter 0 = .ok (.aload_n 0, 1) := by decide +kernel
theorem dX8_voter_1 : decode cX8_voter 1 = .ok (.getfield 153, 3) := by decide +kernel
theorem dX8_voter_4 : decode cX8_voter 4 = .ok (.bipush 40, 2) := by decide +kernel
theorem dX8_voter_6 : decode cX8_voter 6 = .ok (.if_icmp .eq 11, 3) := by decide +kernel
theorem dX8_voter_9 : decode cX8_voter 9 = .ok (.aload_n 0, 1) := by decide +kernel
theorem dX8_voter_10 : decode cX8_voter 10 = .ok (.getfield 140, 3) := by decide +kernel
theorem dX8_voter_13 : decode cX8_voter 13 = .ok (.iconst 1, 1) := by decide +kernel
theorem dX8_voter_14 : decode cX8_voter 14 = .ok (.if_icmp .le 5, 3) := by decide +kernel
theorem dX8_voter_17 : decode cX8_voter 17 = .ok (.iconst (-1), 1) := by decide +kernel
theorem dX8_voter_18 : decode cX8_voter 18 = .ok (.ireturn, 1) := by decide +kernel
theorem dX8_voter_19 : decode cX8_voter 19 = .ok (.aload_n 0, 1) := by decide +kernel
theorem dX8_voter_20 : decode cX8_voter 20 = .ok (.dup, 1) := by decide +kernel
theorem dX8_voter_21 : decode cX8_voter 21 = .ok (.getfield 153, 3) := by decide +kernel
theorem dX8_voter_24 : decode cX8_voter 24 = .ok (.iconst 1, 1) := by decide +kernel
theorem dX8_voter_25 : decode cX8_voter 25 = .ok (.iadd, 1) := by decide +kernel
theorem dX8_voter_26 : decode cX8_voter 26 = .ok (.putfield 153, 3) := by decide +kernel
theorem dX8_voter_29 : decode cX8_voter 29 = .ok (.aload_n 0, 1) := by decide +kernel
theorem dX8_voter_30 : decode cX8_voter 30 = .ok (.getfield 153, 3) := by decide +kernel
theorem dX8_voter_33 : decode cX8_voter 33 = .ok (.iconst 1, 1) := by decide +kernel
theorem dX8_voter_34 : decode cX8_voter 34 = .ok (.isub, 1) := by decide +kernel
theorem dX8_voter_35 : decode cX8_voter 35 = .ok (.ireturn, 1) := by decide +kernel
set_option maxRecDepth 20000 in
theorem ggX8_mayCast_X8_in : GoodIn wsX8_mayCast wsX8_in := goodIn_r _ [7] (by decide +kernel) (by decide +kernel)
set_option maxRecDepth 20000 in
theorem gX8_mayCast_X8_in : GoodIn wsX8_mayCast (va_wsS RX8 122 yX8_in wsX8_in) := goodIn_app (goodIn_of _ (by decide +kernel)) ggX8_mayCast_X8_in
theorem dX8_mayCast_0 : decode cX8_mayCast 0 = .ok (.aload_n 0, 1) := by decide +kernel
theorem dX8_mayCast_1 : decode cX8_mayCast 1 = .ok (.getfield 140, 3) := by decide +kernel
theorem dX8_mayCast_4 : decode cX8_mayCast 4 = .ok (.iconst 1, 1) := by decide +kernel
theorem dX8_mayCast_5 : decode cX8_mayCast 5 = .ok (.if_icmp .ne 31, 3) := by decide +kernel
theorem dX8_mayCast_8 : decode cX8_mayCast 8 = .ok (.iload_n 1, 1) := by decide +kernel
theorem dX8_mayCast_9 : decode cX8_mayCast 9 = .ok (.iconst 0, 1) := by decide +kernel
theorem dX8_mayCast_10 : decode cX8_mayCast 10 = .ok (.aload_n 0, 1) := by decide +kernel
theorem dX8_mayCast_11 : decode cX8_mayCast 11 = .ok (.getfield 153, 3) := by decide +kernel
theorem dX8_mayCast_14 : decode cX8_mayCast 14 = .ok (.iconst 1, 1) := by decide +kernel
theorem dX8_mayCast_15 : decode cX8_mayCast 15 = .ok (.isub, 1) := by decide +kernel
theorem dX8_mayCast_16 : decode cX8_mayCast 16 = .ok (.invokestatic 122, 3) := by decide +kernel
theorem dX8_mayCast_19 : decode cX8_mayCast 19 = .ok (.ifCond .eq 17, 3) := by decide +kernel
theorem dX8_mayCast_22 : decode cX8_mayCast 22 = .ok (.aload_n 0, 1) := by decide +kernel
theorem dX8_mayCast_23 : decode cX8_mayCast 23 = .ok (.getfield 135, 3) := by decide +kernel
theorem dX8_mayCast_26 : decode cX8_mayCast 26 = .ok (.sipush 500, 3) := by decide +kernel
theorem dX8_mayCast_29 : decode cX8_mayCast 29 = .ok (.if_icmp .ge 7, 3) := by decide +kernel
theorem dX8_mayCast_32 : decode cX8_mayCast 32 = .ok (.iconst 1, 1) := by decide +kernel
theorem dX8_mayCast_33 : decode cX8_mayCast 33 = .ok (.goto 4, 3) := by decide +kernel
theorem dX8_mayCast_36 : decode cX8_mayCast 36 = .ok (.iconst 0, 1) := by decide +kernel
theorem dX8_mayCast_37 : decode cX8_mayCast 37 = .ok (.ireturn, 1) := by decide +kernel
set_option maxRecDepth 20000 in
theorem ggX8_casts_X8_enter : GoodIn wsX8_casts wsX8_enter := goodIn_r _ [8, 9, 10, 11, 12, 13, 14, 15, 16, 17, 7, 18, 19, 20, 21, 22, 23, 24, 25, 26, 27, 28, 29, 30, 31, 32, 33, 34, 35, 36, 37, 38, 39, 40, 41, 42, 43, 44, 45, 46, 47, 48, 49, 50, 51, 52, 53, 54, 55, 56, 57, 58, 59, 60, 61, 62, 63] (by decide +kernel) (by decide +kernel)
set_option maxRecDepth 20000 in
theorem gX8_casts_X8_enter : GoodIn wsX8_casts (wsV RX8 149 RX8 yX8_enter wsX8_enter) := goodIn_app (goodIn_of _ (by decide +kernel)) ggX8_casts_X8_enter
theorem dX8_casts_0 : decode cX8_casts 0 = .ok (.aload_n 0, 1) := by decide +kernel
theorem dX8_casts_1 : decode cX8_casts 1 = .ok (.getfield 13, 3) := by decide +kernel
theorem dX8_casts_4 : decode cX8_casts 4 = .ok (.iload_n 1, 1) := by decide +kernel
theorem dX8_casts_5 : decode cX8_casts 5 = .ok (.iconst 1, 1) := by decide +kernel
theorem dX8_casts_6 : decode cX8_casts 6 = .ok (.bastore, 1) := by decide +kernel
theorem dX8_casts_7 : decode cX8_casts 7 = .ok (.aload_n 0, 1) := by decide +kernel
theorem dX8_casts_8 : decode cX8_casts 8 = .ok (.getfield 17, 3) := by decide +kernel
theorem dX8_casts_11 : decode cX8_casts 11 = .ok (.iload_n 1, 1) := by decide +kernel
theorem dX8_casts_12 : decode cX8_casts 12 = .ok (.iload_n 2, 1) := by decide +kernel
theorem dX8_casts_13 : decode cX8_casts 13 = .ok (.iastore, 1) := by decide +kernel
theorem dX8_casts_14 : decode cX8_casts 14 = .ok (.aload_n 0, 1) := by decide +kernel
theorem dX8_casts_15 : decode cX8_casts 15 = .ok (.getfield 20, 3) := by decide +kernel
theorem dX8_casts_18 : decode cX8_casts 18 = .ok (.iload_n 1, 1) := by decide +kernel
theorem dX8_casts_19 : decode cX8_casts 19 = .ok (.iload_n 3, 1) := by decide +kernel
theorem dX8_casts_20 : decode cX8_casts 20 = .ok (.iastore, 1) := by decide +kernel
theorem dX8_casts_21 : decode cX8_casts 21 = .ok (.aload_n 0, 1) := by decide +kernel
theorem dX8_casts_22 : decode cX8_casts 22 = .ok (.iconst 2, 1) := by decide +kernel
theorem dX8_casts_23 : decode cX8_casts 23 = .ok (.iload_n 1, 1) := by decide +kernel
theorem dX8_casts_24 : decode cX8_casts 24 = .ok (.i2l, 1) := by decide +kernel
theorem dX8_casts_25 : decode cX8_casts 25 = .ok (.iload_n 2, 1) := by decide +kernel
theorem dX8_casts_26 : decode cX8_casts 26 = .ok (.i2l, 1) := by decide +kernel
theorem dX8_casts_27 : decode cX8_casts 27 = .ok (.iload_n 3, 1) := by decide +kernel
theorem dX8_casts_28 : decode cX8_casts 28 = .ok (.i2l, 1) := by decide +kernel
theorem dX8_casts_29 : decode cX8_casts 29 = .ok (.invokevirtual 149, 3) := by decide +kernel
theorem dX8_casts_32 : decode cX8_casts 32 = .ok (.lreturn, 1) := by decide +kernel
set_option maxRecDepth 20000 in
theorem ggX8_cast_X8_mayCast : GoodIn wsX8_cast wsX8_mayCast := goodIn_r _ [7, 8, 9, 10, 11, 12, 6, 13, 53, 54, 55, 56, 57, 58, 59, 60, 61, 62, 63, 64, 65, 66, 67, 68, 69, 70, 71, 72, 73, 74, 75, 76, 77, 78, 79, 80, 81, 82, 83, 84, 85, 86, 87, 88, 89, 90, 91, 92, 93, 94, 95, 96] (by decide +kernel) (by decide +kernel)
set_option maxRecDepth 20000 in
theorem gX8_cast_X8_mayCast : GoodIn wsX8_cast (wsV RX8 156 RX8 yX8_mayCast wsX8_mayCast) := goodIn_app (goodIn_of _ (by decide +kernel)) ggX8_cast_X8_mayCast
set_option maxRecDepth 20000 in
theorem ggX8_cast_X8_in : GoodIn wsX8_cast wsX8_in := goodIn_r _ [13] (by decide +kernel) (by decide +kernel)
set_option maxRecDepth 20000 in
theorem gX8_cast_X8_in : GoodIn wsX8_cast (va_wsS RX8 122 yX8_in wsX8_in) := goodIn_app (goodIn_of _ (by decide +kernel)) ggX8_cast_X8_in
set_option maxRecDepth 20000 in
theorem ggX8_cast_X8_isExponent : GoodIn wsX8_cast wsX8_isExponent := goodIn_r _ [17, 18, 11, 12, 6, 13, 53, 54, 55, 56, 57, 58, 59, 60, 61, 62, 63, 64, 65, 66, 67, 68, 69, 70, 71, 72, 73, 74, 75, 76, 77, 78, 79, 80, 81, 82, 83, 84, 85, 86, 87, 88, 89, 90, 91, 92, 93, 94, 95, 96] (by decide +kernel) (by decide +kernel)
set_option maxRecDepth 20000 in
theorem gX8_cast_X8_isExponent : GoodIn wsX8_cast (wsV RX8 143 RX8 yX8_isExponent wsX8_isExponent) := goodIn_app (goodIn_of _ (by decide +kernel)) ggX8_cast_X8_isExponent
set_option maxRecDepth 20000 in
theorem ggX8_cast_X8_power : GoodIn wsX8_cast wsX8_power := goodIn_r _ [22, 23, 24, 25, 6, 26, 27, 53, 54, 55, 56, 57, 58, 59, 60, 61, 62, 63, 64, 65, 66, 67, 68, 69, 70, 71, 72, 73, 74, 75, 76, 77, 78, 79, 80, 81, 82, 83, 84, 85, 86, 87, 88, 89, 90, 91, 92, 93, 94, 95, 96] (by decide +kernel) (by decide +kernel)
set_option maxRecDepth 20000 in
theorem gX8_cast_X8_power : GoodIn wsX8_cast (wsV RX8 126 RX8 yX8_power wsX8_power) := goodIn_app (goodIn_of _ (by decide +kernel)) ggX8_cast_X8_power
set_option maxRecDepth 20000 in
theorem ggX8_cast_X8_mark : GoodIn wsX8_cast wsX8_mark := goodIn_r _ [31, 19, 20, 21, 6, 22, 23, 24, 25, 26, 27, 53, 54, 55, 56, 57, 58, 59, 60, 61, 62, 63, 64, 65, 66, 67, 68, 69, 70, 71, 72, 73, 74, 75, 76, 77, 78, 79, 80, 81, 82, 83, 84, 85, 86, 87, 88, 89, 90, 91, 92, 93, 94, 95, 96] (by decide +kernel) (by decide +kernel)
set_option maxRecDepth 20000 in
theorem gX8_cast_X8_mark : GoodIn wsX8_cast (wsV RX8 159 RX8 yX8_mark wsX8_mark) := goodIn_app (goodIn_of _ (by decide +kernel)) ggX8_cast_X8_mark
set_option maxRecDepth 20000 in
theorem ggX8_cast_X8_times : GoodIn wsX8_cast wsX8_times := goodIn_r _ [26, 27, 53, 54, 55, 56, 57, 58, 59, 60, 61, 62, 63, 64, 65, 66, 67, 68, 69, 70, 71, 72, 73, 74, 75, 76, 77, 78, 79, 80, 81, 82, 83, 84, 85, 86, 87, 88, 89, 90, 91, 92, 93, 94, 95, 96] (by decide +kernel) (by decide +kernel)
set_option maxRecDepth 20000 in
theorem gX8_cast_X8_times : GoodIn wsX8_cast (wsV RX8 118 RX8 yX8_times wsX8_times) := goodIn_app (goodIn_of _ (by decide +kernel)) ggX8_cast_X8_times
set_option maxRecDepth 20000 in
theorem ggX8_cast_X8_casts : GoodIn wsX8_cast wsX8_casts := goodIn_r _ [35, 36, 37, 38, 39, 40, 41, 6, 42, 43, 10, 44, 45, 46, 47, 48, 49, 50, 51, 52, 53, 54, 55, 56, 57, 58, 59, 60, 61, 62, 63, 64, 65, 66, 67, 68, 69, 70, 71, 72, 73, 74, 75, 76, 77, 78, 79, 80, 81, 82, 83, 84, 85, 86, 87, 88, 89, 90, 91, 92, 93, 94, 95, 96] (by decide +kernel) (by decide +kernel)
set_option maxRecDepth 20000 in
theorem gX8_cast_X8_casts : GoodIn wsX8_cast (wsV RX8 163 RX8 yX8_casts wsX8_casts) := goodIn_app (goodIn_of _ (by decide +kernel)) ggX8_cast_X8_casts
theorem dX8_cast_0 : decode cX8_cast 0 = .ok (.aload_n 0, 1) := by decide +kernel
theorem dX8_cast_1 : decode cX8_cast 1 = .ok (.iload_n 1, 1) := by decide +kernel
theorem dX8_cast_2 : decode cX8_cast 2 = .ok (.invokevirtual 156, 3) := by decide +kernel
theorem dX8_cast_5 : decode cX8_cast 5 = .ok (.ifCond .eq 25, 3) := by decide +kernel
theorem dX8_cast_8 : decode cX8_cast 8 = .ok (.iload_n 2, 1) := by decide +kernel
theorem dX8_cast_9 : decode cX8_cast 9 = .ok (.iconst 0, 1) := by decide +kernel
theorem dX8_cast_10 : decode cX8_cast 10 = .ok (.aload_n 0, 1) := by decide +kernel
theorem dX8_cast_11 : decode cX8_cast 11 = .ok (.getfield 106, 3) := by decide +kernel
theorem dX8_cast_14 : decode cX8_cast 14 = .ok (.iconst 1, 1) := by decide +kernel
theorem dX8_cast_15 : decode cX8_cast 15 = .ok (.isub, 1) := by decide +kernel
theorem dX8_cast_16 : decode cX8_cast 16 = .ok (.invokestatic 122, 3) := by decide +kernel
theorem dX8_cast_19 : decode cX8_cast 19 = .ok (.ifCond .eq 11, 3) := by decide +kernel
theorem dX8_cast_22 : decode cX8_cast 22 = .ok (.aload_n 0, 1) := by decide +kernel
theorem dX8_cast_23 : decode cX8_cast 23 = .ok (.iload_n 3, 1) := by decide +kernel
theorem dX8_cast_24 : decode cX8_cast 24 = .ok (.invokevirtual 143, 3) := by decide +kernel
theorem dX8_cast_27 : decode cX8_cast 27 = .ok (.ifCond .ne 5, 3) := by decide +kernel
theorem dX8_cast_30 : decode cX8_cast 30 = .ok (.lconst 0, 1) := by decide +kernel
theorem dX8_cast_31 : decode cX8_cast 31 = .ok (.lreturn, 1) := by decide +kernel
theorem dX8_cast_32 : decode cX8_cast 32 = .ok (.aload_n 0, 1) := by decide +kernel
theorem dX8_cast_33 : decode cX8_cast 33 = .ok (.iload_n 1, 1) := by decide +kernel
theorem dX8_cast_34 : decode cX8_cast 34 = .ok (.aload_n 0, 1) := by decide +kernel
theorem dX8_cast_35 : decode cX8_cast 35 = .ok (.iconst 4, 1) := by decide +kernel
theorem dX8_cast_36 : decode cX8_cast 36 = .ok (.iload_n 3, 1) := by decide +kernel
theorem dX8_cast_37 : decode cX8_cast 37 = .ok (.invokevirtual 126, 3) := by decide +kernel
theorem dX8_cast_40 : decode cX8_cast 40 = .ok (.aload_n 0, 1) := by decide +kernel
theorem dX8_cast_41 : decode cX8_cast 41 = .ok (.aload_n 0, 1) := by decide +kernel
theorem dX8_cast_42 : decode cX8_cast 42 = .ok (.iload_n 2, 1) := by decide +kernel
theorem dX8_cast_43 : decode cX8_cast 43 = .ok (.invokevirtual 159, 3) := by decide +kernel
theorem dX8_cast_46 : decode cX8_cast 46 = .ok (.aload_n 0, 1) := by decide +kernel
theorem dX8_cast_47 : decode cX8_cast 47 = .ok (.aload_n 0, 1) := by decide +kernel
theorem dX8_cast_48 : decode cX8_cast 48 = .ok (.getfield 146, 3) := by decide +kernel
theorem dX8_cast_51 : decode cX8_cast 51 = .ok (.iload_n 3, 1) := by decide +kernel
theorem dX8_cast_52 : decode cX8_cast 52 = .ok (.invokevirtual 126, 3) := by decide +kernel
theorem dX8_cast_55 : decode cX8_cast 55 = .ok (.invokevirtual 118, 3) := by decide +kernel
theorem dX8_cast_58 : decode cX8_cast 58 = .ok (.invokevirtual 163, 3) := by decide +kernel
theorem dX8_cast_61 : decode cX8_cast 61 = .ok (.lreturn, 1) := by decide +kernel
set_option maxRecDepth 20000 in
theorem ggX8_castPair_X8_mayCast : GoodIn wsX8_castPair wsX8_mayCast := goodIn_r _ [5, 6, 7, 8, 9, 10, 4, 11, 47, 48, 49, 50, 51, 52, 53, 54, 55, 56, 57, 58, 59, 60, 61, 62, 63, 64, 65, 66, 67, 68, 69, 70, 71, 72, 73, 74, 75, 76, 77, 78, 79, 80, 81, 82, 83, 84, 85, 86, 87, 88, 89, 90] (by decide +kernel) (by decide +kernel)
set_option maxRecDepth 20000 in
theorem gX8_castPair_X8_mayCast : GoodIn wsX8_castPair (wsV RX8 156 RX8 yX8_mayCast wsX8_mayCast) := goodIn_app (goodIn_of _ (by decide +kernel)) ggX8_castPair_X8_mayCast
set_option maxRecDepth 20000 in
theorem ggX8_castPair_X8_isOfGroup : GoodIn wsX8_castPair wsX8_isOfGroup := goodIn_r _ [15, 16, 17, 9, 10, 4, 11, 18, 19, 20, 21, 22, 23, 24, 25, 47, 48, 49, 50, 51, 52, 53, 54, 55, 56, 57, 58, 59, 60, 61, 62, 63, 64, 65, 66, 67, 68, 69, 70, 71, 72, 73, 74, 75, 76, 77, 78, 79, 80, 81, 82, 83, 84, 85, 86, 87, 88, 89, 90] (by decide +kernel) (by decide +kernel)
set_option maxRecDepth 20000 in
theorem gX8_castPair_X8_isOfGroup : GoodIn wsX8_castPair (wsV RX8 167 RX8 yX8_isOfGroup wsX8_isOfGroup) := goodIn_app (goodIn_of _ (by decide +kernel)) ggX8_castPair_X8_isOfGroup
set_option maxRecDepth 20000 in
theorem ggX8_castPair_X8_casts : GoodIn wsX8_castPair wsX8_casts := goodIn_r _ [29, 30, 31, 32, 33, 34, 35, 4, 36, 37, 8, 38, 39, 40, 41, 42, 43, 44, 45, 46, 47, 48, 49, 50, 51, 52, 53, 54, 55, 56, 57, 58, 59, 60, 61, 62, 63, 64, 65, 66, 67, 68, 69, 70, 71, 72, 73, 74, 75, 76, 77, 78, 79, 80, 81, 82, 83, 84, 85, 86, 87, 88, 89, 90] (by decide +kernel) (by decide +kernel)
set_option maxRecDepth 20000 in
theorem gX8_castPair_X8_casts : GoodIn wsX8_castPair (wsV RX8 163 RX8 yX8_casts wsX8_casts) := goodIn_app (goodIn_of _ (by decide +kernel)) ggX8_castPair_X8_casts
theorem dX8_castPair_0 : decode cX8_castPair 0 = .ok (.aload_n 0, 1) := by decide +kernel
theorem dX8_castPair_1 : decode cX8_castPair 1 = .ok (.iload_n 1, 1) := by decide +kernel
theorem dX8_castPair_2 : decode cX8_castPair 2 = .ok (.invokevirtual 156, 3) := by decide +kernel
theorem dX8_castPair_5 : decode cX8_castPair 5 = .ok (.ifCond .eq 29, 3) := by decide +kernel
theorem dX8_castPair_8 : decode cX8_castPair 8 = .ok (.aload_n 0, 1) := by decide +kernel
theorem dX8_castPair_9 : decode cX8_castPair 9 = .ok (.iload_n 2, 1) := by decide +kernel
theorem dX8_castPair_10 : decode cX8_castPair 10 = .ok (.invokevirtual 167, 3) := by decide +kernel
theorem dX8_castPair_13 : decode cX8_castPair 13 = .ok (.ifCond .eq 21, 3) := by decide +kernel
theorem dX8_castPair_16 : decode cX8_castPair 16 = .ok (.aload_n 0, 1) := by decide +kernel
theorem dX8_castPair_17 : decode cX8_castPair 17 = .ok (.iload_n 3, 1) := by decide +kernel
theorem dX8_castPair_18 : decode cX8_castPair 18 = .ok (.invokevirtual 167, 3) := by decide +kernel
theorem dX8_castPair_21 : decode cX8_castPair 21 = .ok (.ifCond .eq 13, 3) := by decide +kernel
theorem dX8_castPair_24 : decode cX8_castPair 24 = .ok (.aload_n 0, 1) := by decide +kernel
theorem dX8_castPair_25 : decode cX8_castPair 25 = .ok (.iload_n 1, 1) := by decide +kernel
theorem dX8_castPair_26 : decode cX8_castPair 26 = .ok (.iload_n 2, 1) := by decide +kernel
theorem dX8_castPair_27 : decode cX8_castPair 27 = .ok (.iload_n 3, 1) := by decide +kernel
theorem dX8_castPair_28 : decode cX8_castPair 28 = .ok (.invokevirtual 163, 3) := by decide +kernel
theorem dX8_castPair_31 : decode cX8_castPair 31 = .ok (.goto 4, 3) := by decide +kernel
theorem dX8_castPair_34 : decode cX8_castPair 34 = .ok (.lconst 0, 1) := by decide +kernel
theorem dX8_castPair_35 : decode cX8_castPair 35 = .ok (.lreturn, 1) := by decide +kernel
set_option maxRecDepth 20000 in
theorem ggX8_place_X8_in : GoodIn wsX8_place wsX8_in := goodIn_r _ [8] (by decide +kernel) (by decide +kernel)
set_option maxRecDepth 20000 in
theorem gX8_place_X8_in : GoodIn wsX8_place (va_wsS RX8 122 yX8_in wsX8_in) := goodIn_app (goodIn_of _ (by decide +kernel)) ggX8_place_X8_in
set_option maxRecDepth 20000 in
theorem ggX8_place_X8_isExponent : GoodIn wsX8_place wsX8_isExponent := goodIn_r _ [12, 13, 5, 6, 7, 8, 14, 15, 16, 17, 18, 19, 20, 21, 22, 23, 24, 25, 26, 27, 28, 29, 30, 31, 32, 33, 34, 35, 36, 37, 38, 39, 40, 41, 42, 43, 44, 45, 46, 47, 48, 49, 50, 51, 52, 53, 54, 55, 56, 57] (by decide +kernel) (by decide +kernel)
set_option maxRecDepth 20000 in
theorem gX8_place_X8_isExponent : GoodIn wsX8_place (wsV RX8 143 RX8 yX8_isExponent wsX8_isExponent) := goodIn_app (goodIn_of _ (by decide +kernel)) ggX8_place_X8_isExponent
theorem dX8_place_0 : decode cX8_place 0 = .ok (.aload_n 0, 1) := by decide +kernel
theorem dX8_place_1 : decode cX8_place 1 = .ok (.getfield 140, 3) := by decide +kernel
theorem dX8_place_4 : decode cX8_place 4 = .ok (.iconst 2, 1) := by decide +kernel
theorem dX8_place_5 : decode cX8_place 5 = .ok (.if_icmp .ne 39, 3) := by decide +kernel
theorem dX8_place_8 : decode cX8_place 8 = .ok (.iload_n 1, 1) := by decide +kernel
theorem dX8_place_9 : decode cX8_place 9 = .ok (.iconst 0, 1) := by decide +kernel
theorem dX8_place_10 : decode cX8_place 10 = .ok (.aload_n 0, 1) := by decide +kernel
theorem dX8_place_11 : decode cX8_place 11 = .ok (.getfield 170, 3) := by decide +kernel
theorem dX8_place_14 : decode cX8_place 14 = .ok (.iconst 1, 1) := by decide +kernel
theorem dX8_place_15 : decode cX8_place 15 = .ok (.isub, 1) := by decide +kernel
theorem dX8_place_16 : decode cX8_place 16 = .ok (.invokestatic 122, 3) := by decide +kernel
theorem dX8_place_19 : decode cX8_place 19 = .ok (.ifCond .eq 25, 3) := by decide +kernel
theorem dX8_place_22 : decode cX8_place 22 = .ok (.iload_n 2, 1) := by decide +kernel
theorem dX8_place_23 : decode cX8_place 23 = .ok (.iconst 0, 1) := by decide +kernel
theorem dX8_place_24 : decode cX8_place 24 = .ok (.aload_n 0, 1) := by decide +kernel
theorem dX8_place_25 : decode cX8_place 25 = .ok (.getfield 170, 3) := by decide +kernel
theorem dX8_place_28 : decode cX8_place 28 = .ok (.iconst 1, 1) := by decide +kernel
theorem dX8_place_29 : decode cX8_place 29 = .ok (.isub, 1) := by decide +kernel
theorem dX8_place_30 : decode cX8_place 30 = .ok (.invokestatic 122, 3) := by decide +kernel
theorem dX8_place_33 : decode cX8_place 33 = .ok (.ifCond .eq 11, 3) := by decide +kernel
theorem dX8_place_36 : decode cX8_place 36 = .ok (.aload_n 0, 1) := by decide +kernel
theorem dX8_place_37 : decode cX8_place 37 = .ok (.iload_n 3, 1) := by decide +kernel
theorem dX8_place_38 : decode cX8_place 38 = .ok (.invokevirtual 143, 3) := by decide +kernel
theorem dX8_place_41 : decode cX8_place 41 = .ok (.ifCond .ne 5, 3) := by decide +kernel
theorem dX8_place_44 : decode cX8_place 44 = .ok (.iconst 0, 1) := by decide +kernel
theorem dX8_place_45 : decode cX8_place 45 = .ok (.ireturn, 1) := by decide +kernel
theorem dX8_place_46 : decode cX8_place 46 = .ok (.aload_n 0, 1) := by decide +kernel
theorem dX8_place_47 : decode cX8_place 47 = .ok (.getfield 35, 3) := by decide +kernel
theorem dX8_place_50 : decode cX8_place 50 = .ok (.iload_n 1, 1) := by decide +kernel
theorem dX8_place_51 : decode cX8_place 51 = .ok (.iload_n 2, 1) := by decide +kernel
theorem dX8_place_52 : decode cX8_place 52 = .ok (.iastore, 1) := by decide +kernel
theorem dX8_place_53 : decode cX8_place 53 = .ok (.aload_n 0, 1) := by decide +kernel
theorem dX8_place_54 : decode cX8_place 54 = .ok (.getfield 38, 3) := by decide +kernel
theorem dX8_place_57 : decode cX8_place 57 = .ok (.iload_n 1, 1) := by decide +kernel
theorem dX8_place_58 : decode cX8_place 58 = .ok (.iload_n 3, 1) := by decide +kernel
theorem dX8_place_59 : decode cX8_place 59 = .ok (.iastore, 1) := by decide +kernel
theorem dX8_place_60 : decode cX8_place 60 = .ok (.iconst 1, 1) := by decide +kernel
theorem dX8_place_61 : decode cX8_place 61 = .ok (.ireturn, 1) := by decide +kernel
set_option maxRecDepth 20000 in
theorem ggX8_forge_X8_in : GoodIn wsX8_forge wsX8_in := goodIn_r _ [8] (by decide +kernel) (by decide +kernel)
set_option maxRecDepth 20000 in
theorem gX8_forge_X8_in : GoodIn wsX8_forge (va_wsS RX8 122 yX8_in wsX8_in) := goodIn_app (goodIn_of _ (by decide +kernel)) ggX8_forge_X8_in
set_option maxRecDepth 20000 in
theorem ggX8_forge_X8_isOfGroup : GoodIn wsX8_forge wsX8_isOfGroup := goodIn_r _ [12, 13, 14, 5, 6, 7, 8, 15, 16, 17, 18, 19, 20, 21, 22, 23, 24, 25, 26, 27, 28, 29, 30, 31, 32, 33, 34, 35, 36, 37, 38, 39, 40, 41, 42, 43, 44, 45, 46, 47, 48, 49, 50, 51, 52, 53, 54, 55, 56, 57, 58, 59, 60, 61, 62, 63, 64, 65, 66] (by decide +kernel) (by decide +kernel)
set_option maxRecDepth 20000 in
theorem gX8_forge_X8_isOfGroup : GoodIn wsX8_forge (wsV RX8 167 RX8 yX8_isOfGroup wsX8_isOfGroup) := goodIn_app (goodIn_of _ (by decide +kernel)) ggX8_forge_X8_isOfGroup
theorem dX8_forge_0 : decode cX8_forge 0 = .ok (.aload_n 0, 1) := by decide +kernel
theorem dX8_forge_1 : decode cX8_forge 1 = .ok (.getfield 140, 3) := by decide +kernel
theorem dX8_forge_4 : decode cX8_forge 4 = .ok (.iconst 2, 1) := by decide +kernel
theorem dX8_forge_5 : decode cX8_forge 5 = .ok (.if_icmp .ne 33, 3) := by decide +kernel
theorem dX8_forge_8 : decode cX8_forge 8 = .ok (.iload_n 1, 1) := by decide +kernel
theorem dX8_forge_9 : decode cX8_forge 9 = .ok (.iconst 0, 1) := by decide +kernel
theorem dX8_forge_10 : decode cX8_forge 10 = .ok (.aload_n 0, 1) := by decide +kernel
theorem dX8_forge_11 : decode cX8_forge 11 = .ok (.getfield 170, 3) := by decide +kernel
theorem dX8_forge_14 : decode cX8_forge 14 = .ok (.iconst 1, 1) := by decide +kernel
theorem dX8_forge_15 : decode cX8_forge 15 = .ok (.isub, 1) := by decide +kernel
theorem dX8_forge_16 : decode cX8_forge 16 = .ok (.invokestatic 122, 3) := by decide +kernel
theorem dX8_forge_19 : decode cX8_forge 19 = .ok (.ifCond .eq 19, 3) := by decide +kernel
theorem dX8_forge_22 : decode cX8_forge 22 = .ok (.aload_n 0, 1) := by decide +kernel
theorem dX8_forge_23 : decode cX8_forge 23 = .ok (.iload_n 2, 1) := by decide +kernel
theorem dX8_forge_24 : decode cX8_forge 24 = .ok (.invokevirtual 167, 3) := by decide +kernel
theorem dX8_forge_27 : decode cX8_forge 27 = .ok (.ifCond .eq 11, 3) := by decide +kernel
theorem dX8_forge_30 : decode cX8_forge 30 = .ok (.aload_n 0, 1) := by decide +kernel
theorem dX8_forge_31 : decode cX8_forge 31 = .ok (.iload_n 3, 1) := by decide +kernel
theorem dX8_forge_32 : decode cX8_forge 32 = .ok (.invokevirtual 167, 3) := by decide +kernel
theorem dX8_forge_35 : decode cX8_forge 35 = .ok (.ifCond .ne 5, 3) := by decide +kernel
theorem dX8_forge_38 : decode cX8_forge 38 = .ok (.iconst 0, 1) := by decide +kernel
theorem dX8_forge_39 : decode cX8_forge 39 = .ok (.ireturn, 1) := by decide +kernel
theorem dX8_forge_40 : decode cX8_forge 40 = .ok (.aload_n 0, 1) := by decide +kernel
theorem dX8_forge_41 : decode cX8_forge 41 = .ok (.getfield 41, 3) := by decide +kernel
theorem dX8_forge_44 : decode cX8_forge 44 = .ok (.iload_n 1, 1) := by decide +kernel
theorem dX8_forge_45 : decode cX8_forge 45 = .ok (.iload_n 2, 1) := by decide +kernel
theorem dX8_forge_46 : decode cX8_forge 46 = .ok (.iastore, 1) := by decide +kernel
theorem dX8_forge_47 : decode cX8_forge 47 = .ok (.aload_n 0, 1) := by decide +kernel
theorem dX8_forge_48 : decode cX8_forge 48 = .ok (.getfield 44, 3) := by decide +kernel
theorem dX8_forge_51 : decode cX8_forge 51 = .ok (.iload_n 1, 1) := by decide +kernel
theorem dX8_forge_52 : decode cX8_forge 52 = .ok (.iload_n 3, 1) := by decide +kernel
theorem dX8_forge_53 : decode cX8_forge 53 = .ok (.iastore, 1) := by decide +kernel
theorem dX8_forge_54 : decode cX8_forge 54 = .ok (.iconst 1, 1) := by decide +kernel
theorem dX8_forge_55 : decode cX8_forge 55 = .ok (.ireturn, 1) := by decide +kernel
theorem dX8_isWhole_0 : decode cX8_isWhole 0 = .ok (.iconst 0, 1) := by decide +kernel
theorem dX8_isWhole_1 : decode cX8_isWhole 1 = .ok (.istore_n 1, 1) := by decide +kernel
theorem dX8_isWhole_2 : decode cX8_isWhole 2 = .ok (.iload_n 1, 1) := by decide +kernel
theorem dX8_isWhole_3 : decode cX8_isWhole 3 = .ok (.aload_n 0, 1) := by decide +kernel
theorem dX8_isWhole_4 : decode cX8_isWhole 4 = .ok (.getfield 170, 3) := by decide +kernel
theorem dX8_isWhole_7 : decode cX8_isWhole 7 = .ok (.if_icmp .ge 51, 3) := by decide +kernel
theorem dX8_isWhole_10 : decode cX8_isWhole 10 = .ok (.aload_n 0, 1) := by decide +kernel
theorem dX8_isWhole_11 : decode cX8_isWhole 11 = .ok (.getfield 35, 3) := by decide +kernel
theorem dX8_isWhole_14 : decode cX8_isWhole 14 = .ok (.iload_n 1, 1) := by decide +kernel
theorem dX8_isWhole_15 : decode cX8_isWhole 15 = .ok (.iaload, 1) := by decide +kernel
theorem dX8_isWhole_16 : decode cX8_isWhole 16 = .ok (.iconst (-1), 1) := by decide +kernel
theorem dX8_isWhole_17 : decode cX8_isWhole 17 = .ok (.if_icmp .ne 5, 3) := by decide +kernel
theorem dX8_isWhole_20 : decode cX8_isWhole 20 = .ok (.iconst 0, 1) := by decide +kernel
theorem dX8_isWhole_21 : decode cX8_isWhole 21 = .ok (.ireturn, 1) := by decide +kernel
theorem dX8_isWhole_22 : decode cX8_isWhole 22 = .ok (.iconst 0, 1) := by decide +kernel
theorem dX8_isWhole_23 : decode cX8_isWhole 23 = .ok (.istore_n 2, 1) := by decide +kernel
theorem dX8_isWhole_24 : decode cX8_isWhole 24 = .ok (.iload_n 2, 1) := by decide +kernel
theorem dX8_isWhole_25 : decode cX8_isWhole 25 = .ok (.iload_n 1, 1) := by decide +kernel
theorem dX8_isWhole_26 : decode cX8_isWhole 26 = .ok (.if_icmp .ge 26, 3) := by decide +kernel
theorem dX8_isWhole_29 : decode cX8_isWhole 29 = .ok (.aload_n 0, 1) := by decide +kernel
theorem dX8_isWhole_30 : decode cX8_isWhole 30 = .ok (.getfield 35, 3) := by decide +kernel
theorem dX8_isWhole_33 : decode cX8_isWhole 33 = .ok (.iload_n 2, 1) := by decide +kernel
theorem dX8_isWhole_34 : decode cX8_isWhole 34 = .ok (.iaload, 1) := by decide +kernel
theorem dX8_isWhole_35 : decode cX8_isWhole 35 = .ok (.aload_n 0, 1) := by decide +kernel
theorem dX8_isWhole_36 : decode cX8_isWhole 36 = .ok (.getfield 35, 3) := by decide +kernel
theorem dX8_isWhole_39 : decode cX8_isWhole 39 = .ok (.iload_n 1, 1) := by decide +kernel
theorem dX8_isWhole_40 : decode cX8_isWhole 40 = .ok (.iaload, 1) := by decide +kernel
theorem dX8_isWhole_41 : decode cX8_isWhole 41 = .ok (.if_icmp .ne 5, 3) := by decide +kernel
theorem dX8_isWhole_44 : decode cX8_isWhole 44 = .ok (.iconst 0, 1) := by decide +kernel
theorem dX8_isWhole_45 : decode cX8_isWhole 45 = .ok (.ireturn, 1) := by decide +kernel
theorem dX8_isWhole_46 : decode cX8_isWhole 46 = .ok (.iinc 2 1, 3) := by decide +kernel
theorem dX8_isWhole_49 : decode cX8_isWhole 49 = .ok (.goto (-25), 3) := by decide +kernel
theorem dX8_isWhole_52 : decode cX8_isWhole 52 = .ok (.iinc 1 1, 3) := by decide +kernel
theorem dX8_isWhole_55 : decode cX8_isWhole 55 = .ok (.goto (-53), 3) := by decide +kernel
theorem dX8_isWhole_58 : decode cX8_isWhole 58 = .ok (.iconst 1, 1) := by decide +kernel
theorem dX8_isWhole_59 : decode cX8_isWhole 59 = .ok (.ireturn, 1) := by decide +kernel
set_option maxRecDepth 20000 in
theorem ggX8_anewA_X8_power : GoodIn wsX8_anewA wsX8_power := goodIn_r _ [6, 7, 8, 9, 5, 10, 11, 12, 13, 14, 15, 16, 17, 18, 19, 20, 21, 22, 23, 24, 25, 26, 27, 28, 29, 30, 31, 32, 33, 34, 35, 36, 37, 38, 39, 40, 41, 42, 43, 44, 45, 46, 47, 48, 49, 50, 51, 52, 53, 54, 55] (by decide +kernel) (by decide +kernel)
set_option maxRecDepth 20000 in
theorem gX8_anewA_X8_power : GoodIn wsX8_anewA (wsV RX8 126 RX8 yX8_power wsX8_power) := goodIn_app (goodIn_of _ (by decide +kernel)) ggX8_anewA_X8_power
set_option maxRecDepth 20000 in
theorem ggX8_anewA_X8_times : GoodIn wsX8_anewA wsX8_times := goodIn_r _ [10, 11, 12, 13, 14, 15, 16, 17, 18, 19, 20, 21, 22, 23, 24, 25, 26, 27, 28, 29, 30, 31, 32, 33, 34, 35, 36, 37, 38, 39, 40, 41, 42, 43, 44, 45, 46, 47, 48, 49, 50, 51, 52, 53, 54, 55] (by decide +kernel) (by decide +kernel)
set_option maxRecDepth 20000 in
theorem gX8_anewA_X8_times : GoodIn wsX8_anewA (wsV RX8 118 RX8 yX8_times wsX8_times) := goodIn_app (goodIn_of _ (by decide +kernel)) ggX8_anewA_X8_times
theorem dX8_anewA_0 : decode cX8_anewA 0 = .ok (.aload_n 0, 1) := by decide +kernel
theorem dX8_anewA_1 : decode cX8_anewA 1 = .ok (.aload_n 0, 1) := by decide +kernel
theorem dX8_anewA_2 : decode cX8_anewA 2 = .ok (.getfield 23, 3) := by decide +kernel
theorem dX8_anewA_5 : decode cX8_anewA 5 = .ok (.bipush 40, 2) := by decide +kernel
theorem dX8_anewA_7 : decode cX8_anewA 7 = .ok (.iload_n 1, 1) := by decide +kernel
theorem dX8_anewA_8 : decode cX8_anewA 8 = .ok (.imul, 1) := by decide +kernel
theorem dX8_anewA_9 : decode cX8_anewA 9 = .ok (.iload_n 2, 1) := by decide +kernel
theorem dX8_anewA_10 : decode cX8_anewA 10 = .ok (.iadd, 1) := by decide +kernel
theorem dX8_anewA_11 : decode cX8_anewA 11 = .ok (.iaload, 1) := by decide +kernel
theorem dX8_anewA_12 : decode cX8_anewA 12 = .ok (.aload_n 0, 1) := by decide +kernel
theorem dX8_anewA_13 : decode cX8_anewA 13 = .ok (.iconst 4, 1) := by decide +kernel
theorem dX8_anewA_14 : decode cX8_anewA 14 = .ok (.iload_n 3, 1) := by decide +kernel
theorem dX8_anewA_15 : decode cX8_anewA 15 = .ok (.invokevirtual 126, 3) := by decide +kernel
theorem dX8_anewA_18 : decode cX8_anewA 18 = .ok (.invokevirtual 118, 3) := by decide +kernel
theorem dX8_anewA_21 : decode cX8_anewA 21 = .ok (.ireturn, 1) := by decide +kernel
set_option maxRecDepth 20000 in
theorem ggX8_anewB_X8_power : GoodIn wsX8_anewB wsX8_power := goodIn_r _ [7, 8, 9, 10, 6, 11, 12, 13, 14, 15, 16, 17, 18, 19, 20, 21, 22, 23, 24, 25, 26, 27, 28, 29, 30, 31, 32, 33, 34, 35, 36, 37, 38, 39, 40, 41, 42, 43, 44, 45, 46, 47, 48, 49, 50, 51, 52, 53, 54, 55, 56] (by decide +kernel) (by decide +kernel)
set_option maxRecDepth 20000 in
theorem gX8_anewB_X8_power : GoodIn wsX8_anewB (wsV RX8 126 RX8 yX8_power wsX8_power) := goodIn_app (goodIn_of _ (by decide +kernel)) ggX8_anewB_X8_power
set_option maxRecDepth 20000 in
theorem ggX8_anewB_X8_times : GoodIn wsX8_anewB wsX8_times := goodIn_r _ [11, 12, 13, 14, 15, 16, 17, 18, 19, 20, 21, 22, 23, 24, 25, 26, 27, 28, 29, 30, 31, 32, 33, 34, 35, 36, 37, 38, 39, 40, 41, 42, 43, 44, 45, 46, 47, 48, 49, 50, 51, 52, 53, 54, 55, 56] (by decide +kernel) (by decide +kernel)
set_option maxRecDepth 20000 in
theorem gX8_anewB_X8_times : GoodIn wsX8_anewB (wsV RX8 118 RX8 yX8_times wsX8_times) := goodIn_app (goodIn_of _ (by decide +kernel)) ggX8_anewB_X8_times
theorem dX8_anewB_0 : decode cX8_anewB 0 = .ok (.aload_n 0, 1) := by decide +kernel
theorem dX8_anewB_1 : decode cX8_anewB 1 = .ok (.aload_n 0, 1) := by decide +kernel
theorem dX8_anewB_2 : decode cX8_anewB 2 = .ok (.getfield 26, 3) := by decide +kernel
theorem dX8_anewB_5 : decode cX8_anewB 5 = .ok (.bipush 40, 2) := by decide +kernel
theorem dX8_anewB_7 : decode cX8_anewB 7 = .ok (.iload_n 1, 1) := by decide +kernel
theorem dX8_anewB_8 : decode cX8_anewB 8 = .ok (.imul, 1) := by decide +kernel
theorem dX8_anewB_9 : decode cX8_anewB 9 = .ok (.iload_n 2, 1) := by decide +kernel
theorem dX8_anewB_10 : decode cX8_anewB 10 = .ok (.iadd, 1) := by decide +kernel
theorem dX8_anewB_11 : decode cX8_anewB 11 = .ok (.iaload, 1) := by decide +kernel
theorem dX8_anewB_12 : decode cX8_anewB 12 = .ok (.aload_n 0, 1) := by decide +kernel
theorem dX8_anewB_13 : decode cX8_anewB 13 = .ok (.aload_n 0, 1) := by decide +kernel
theorem dX8_anewB_14 : decode cX8_anewB 14 = .ok (.getfield 146, 3) := by decide +kernel
theorem dX8_anewB_17 : decode cX8_anewB 17 = .ok (.iload_n 3, 1) := by decide +kernel
theorem dX8_anewB_18 : decode cX8_anewB 18 = .ok (.invokevirtual 126, 3) := by decide +kernel
theorem dX8_anewB_21 : decode cX8_anewB 21 = .ok (.invokevirtual 118, 3) := by decide +kernel
theorem dX8_anewB_24 : decode cX8_anewB 24 = .ok (.ireturn, 1) := by decide +kernel
set_option maxRecDepth 20000 in
theorem ggX8_mayStage_X8_isWhole : GoodIn wsX8_mayStage wsX8_isWhole := goodIn_r _ [8, 9, 10, 11, 12, 13, 14, 15, 16, 17, 18, 19, 20, 21, 22, 23, 24, 25, 26, 27, 28, 29, 30, 31, 32, 33, 34, 35, 36, 37, 38, 39, 40, 41, 42, 43, 44, 45, 46, 47, 48, 49, 50, 51, 52, 53, 54] (by decide +kernel) (by decide +kernel)
set_option maxRecDepth 20000 in
theorem gX8_mayStage_X8_isWhole : GoodIn wsX8_mayStage (wsV RX8 177 RX8 yX8_isWhole wsX8_isWhole) := goodIn_app (goodIn_of _ (by decide +kernel)) ggX8_mayStage_X8_isWhole
theorem dX8_mayStage_0 : decode cX8_mayStage 0 = .ok (.aload_n 0, 1) := by decide +kernel
theorem dX8_mayStage_1 : decode cX8_mayStage 1 = .ok (.getfield 140, 3) := by decide +kernel
theorem dX8_mayStage_4 : decode cX8_mayStage 4 = .ok (.iconst 2, 1) := by decide +kernel
theorem dX8_mayStage_5 : decode cX8_mayStage 5 = .ok (.if_icmp .ne 28, 3) := by decide +kernel
theorem dX8_mayStage_8 : decode cX8_mayStage 8 = .ok (.aload_n 0, 1) := by decide +kernel
theorem dX8_mayStage_9 : decode cX8_mayStage 9 = .ok (.invokevirtual 177, 3) := by decide +kernel
theorem dX8_mayStage_12 : decode cX8_mayStage 12 = .ok (.ifCond .eq 21, 3) := by decide +kernel
theorem dX8_mayStage_15 : decode cX8_mayStage 15 = .ok (.aload_n 0, 1) := by decide +kernel
theorem dX8_mayStage_16 : decode cX8_mayStage 16 = .ok (.getfield 181, 3) := by decide +kernel
theorem dX8_mayStage_19 : decode cX8_mayStage 19 = .ok (.ifCond .ne 14, 3) := by decide +kernel
theorem dX8_mayStage_22 : decode cX8_mayStage 22 = .ok (.aload_n 0, 1) := by decide +kernel
theorem dX8_mayStage_23 : decode cX8_mayStage 23 = .ok (.getfield 185, 3) := by decide +kernel
theorem dX8_mayStage_26 : decode cX8_mayStage 26 = .ok (.ifCond .ne 7, 3) := by decide +kernel
theorem dX8_mayStage_29 : decode cX8_mayStage 29 = .ok (.iconst 1, 1) := by decide +kernel
theorem dX8_mayStage_30 : decode cX8_mayStage 30 = .ok (.goto 4, 3) := by decide +kernel
theorem dX8_mayStage_33 : decode cX8_mayStage 33 = .ok (.iconst 0, 1) := by decide +kernel
theorem dX8_mayStage_34 : decode cX8_mayStage 34 = .ok (.ireturn, 1) := by decide +kernel
def ech (cf : Nat → Int64) (n : Int32) : Int64 := if n = 0 then -3750763034362895579 else cf (n - 1).toNatClampNeg
theorem le_1 {i x : Int32} {n : Nat} (h : x = nI n) (h1 : 1 ≤ n) (h2 : n < 2 ^ 30) : i ≤ x - 1 ↔ i < x := by
  rw [h, show (nI n - 1 : Int32) = nI (n - 1) from pk_sub (a := n) (b := 1) h1, Int32.le_iff_toInt_le, Int32.lt_iff_toInt_lt, nI_toInt (by omega), nI_toInt (by omega)]
  omega
theorem pw8_step {z : Int32} {n : Nat} (hz : z = nI n) (h3 : n < 2 ^ 31) : (z - z / 2 * 2 = 1 ↔ n % 2 = 1) ∧ z / 2 = nI (n / 2) := by
  rw [hz, show (nI n - nI n / 2 * 2 : Int32) = nI (n % 2) from pk_rem (a := n) (d := 2) h3 (by omega) (by omega), show (1 : Int32) = nI 1 from rfl]
  exact ⟨nI_eq (by omega) (by omega), pk_div (a := n) (d := 2) h3 (by omega) (by omega)⟩
theorem pw8_odd {q z r b R : Int32} {f n : Nat} (hz : z = nI n) (h2 : n < 2 ^ (f + 1 - 1)) (h3 : n < 2 ^ 31) (c : ¬ z ≤ 0) (c2 : z - z / 2 * 2 = 1) (hw : pw q (f + 1) n r b = R) : z / 2 = nI (n / 2) ∧ 0 < f ∧ n / 2 < 2 ^ (f - 1) ∧ pw q f (n / 2) (tm q r b) (tm q b b) = R := by
  obtain ⟨_, _, g3, g4, g5⟩ := pw_step hz h2 h3 c hw
  rw [if_pos ((pw8_step hz h3).1.mp c2)] at g5
  exact ⟨(pw8_step hz h3).2, g3, g4, g5⟩
theorem pw8_even {q z r b R : Int32} {f n : Nat} (hz : z = nI n) (h2 : n < 2 ^ (f + 1 - 1)) (h3 : n < 2 ^ 31) (c : ¬ z ≤ 0) (c2 : ¬ z - z / 2 * 2 = 1) (hw : pw q (f + 1) n r b = R) : z / 2 = nI (n / 2) ∧ 0 < f ∧ n / 2 < 2 ^ (f - 1) ∧ pw q f (n / 2) r (tm q b b) = R := by
  obtain ⟨_, _, g3, g4, g5⟩ := pw_step hz h2 h3 c hw
  rw [if_neg (fun h => c2 ((pw8_step hz h3).1.mpr h))] at g5
  exact ⟨(pw8_step hz h3).2, g3, g4, g5⟩
theorem en_in {n : Int32} {n0 : Nat} (hn : n = nI n0) (h6 : n0 < 600) (c : ¬ n = 0) : vp_in (n - 1) 600 := by
  have h0 : 1 ≤ n0 := by
    rcases Nat.eq_zero_or_pos n0 with e | e
    · rw [e] at hn; exact absurd hn c
    · exact e
  rw [hn, show (nI n0 - 1 : Int32) = nI (n0 - 1) from pk_sub (a := n0) (b := 1) h0]
  exact vp_in_nI (by omega) (by decide)
theorem en_p1 {n : Int32} {n0 : Nat} (hn : n = nI n0) (h6 : n0 < 600) : n + 1 - 1 = n := by
  rw [hn, show (nI n0 + 1 : Int32) = nI (n0 + 1) from nI_1 n0]
  exact nI_pred n0
theorem en_in1 {n : Int32} {n0 : Nat} (hn : n = nI n0) (h6 : n0 < 600) : vp_in (n + 1 - 1) 600 := by rw [en_p1 hn h6]; exact ad_in hn h6
theorem en_ret {n : Int32} {n0 : Nat} {cf : Nat → Int64} {v : Int64} (hn : n = nI n0) (h6 : n0 < 600) : vp_updL cf n.toNatClampNeg v (n + 1 - 1).toNatClampNeg = v := by rw [en_p1 hn h6]; simp [vp_updL]
theorem gv_in {j x : Int32} {t0 : Nat} (h : 1 ≤ j ∧ j ≤ x) (hm : x = nI t0) (ht5 : t0 ≤ 5) : vp_in j 6 := by
  rw [vp_in_iff]
  have h1 := Int32.le_iff_toInt_le.mp h.1
  have h2 := Int32.le_iff_toInt_le.mp h.2
  rw [hm, nI_toInt (by omega)] at h2
  have h3 : (1 : Int32).toInt = 1 := rfl
  omega
theorem bI_iff {P Q : Prop} [Decidable P] [Decidable Q] (h : P ↔ Q) : bI P = bI Q := by
  unfold bI
  by_cases hp : P
  · rw [if_pos hp, if_pos (h.mp hp)]
  · rw [if_neg hp, if_neg (fun q => hp (h.mpr q))]
theorem in_1 {i x : Int32} {n : Nat} (h : x = nI n) (h2 : n < 2 ^ 30) : (0 ≤ i ∧ i ≤ x - 1) ↔ (0 ≤ i ∧ i < x) := by
  rcases Nat.eq_zero_or_pos n with e | e
  · rw [h, e]
    constructor
    · rintro ⟨a, b⟩
      exact absurd (Int32.le_trans a b) (by decide)
    · rintro ⟨a, b⟩
      exact absurd (Int32.lt_of_le_of_lt a b) (by decide)
  · rw [le_1 h e h2]
theorem ech_cho {n : Int32} {n0 : Nat} {cf : Nat → Int64} (hn : n = nI n0) (h6 : n0 < 600) : ech cf n = cho cf n (n - 1) := by
  unfold ech cho
  rcases Nat.eq_zero_or_pos n0 with e | e
  · subst e
    rw [hn, if_pos (by decide), if_pos (by decide)]
  · have h1 : n - 1 = nI (n0 - 1) := by rw [hn]; exact pk_sub (a := n0) (b := 1) e
    have h0 : ¬ n = 0 := by rw [hn]; exact nI_ne0 e (by omega)
    rw [if_neg h0, h1, if_neg (nn_ne (nn_nI (by omega))), if_pos ⟨nI_pos' (by omega), by rw [hn]; exact nI_lt (by omega) (by omega)⟩]
theorem ex_upd (xf : Nat → Int32) (k : Nat) (x : Int32) : (fun i => (upd xf k x i).toInt64) = vp_updL (fun i => (xf i).toInt64) k x.toInt64 := by
  funext i
  unfold upd vp_updL
  split <;> rfl
theorem ex_upd0 (xf : Nat → Int32) (k : Nat) : (fun i => (upd xf k 0 i).toInt64) = vp_updL (fun i => (xf i).toInt64) k 0 := by
  funext i
  unfold upd vp_updL
  split <;> rfl
theorem vo_40 {x : Int32} {v0 : Nat} (h : x = nI v0) (h4 : v0 ≤ 40) : x < 40 ↔ ¬ x = 40 := by
  rw [h, show (40 : Int32) = nI 40 from rfl, nI_ltI (by omega) (by omega), nI_eq (by omega) (by omega)]
  omega
/-- 0 .. P - 1 -/
abbrev rng (P x : Int32) : Prop := ∃ k p0 : Nat, x = nI k ∧ P = nI p0 ∧ k < p0 ∧ p0 < 1000000
theorem tm_nI {q a b : Int32} {q0 a0 b0 : Nat} (hq : q = nI q0) (ha : a = nI a0) (hb : b = nI b0) (h1 : 0 < q0) (h2 : q0 < 1000000) (h3 : a0 < 1000000) (h4 : b0 < 1000000) : tm q a b = nI (a0 * b0 % q0) := by
  have h5 : a0 * b0 < 1000000 * 1000000 := Nat.mul_lt_mul'' h3 h4
  have h6 : a0 * b0 % q0 < q0 := Nat.mod_lt _ h1
  rw [tm, hq, ha, hb, nI_l (by omega), nI_l (by omega), nI_l (by omega), lN_mul, pk_lRem (by omega) h1 (by omega), lN_i]
theorem tm_rng {q a b : Int32} {q0 a0 b0 : Nat} (hq : q = nI q0) (ha : a = nI a0) (hb : b = nI b0) (h1 : 0 < q0) (h2 : q0 < 1000000) (h3 : a0 < 1000000) (h4 : b0 < 1000000) : rng q (tm q a b) := ⟨_, q0, tm_nI hq ha hb h1 h2 h3 h4, hq, Nat.mod_lt _ h1, h2⟩
theorem pw_n {q : Int32} {q0 : Nat} (hq : q = nI q0) (h1 : 2 ≤ q0) (h2 : q0 < 1000000) : ∀ (f n : Nat) (r b : Int32) (r0 b0 : Nat), r = nI r0 → r0 < q0 → b = nI b0 → b0 < 1000000 → ∃ k : Nat, pw q f n r b = nI k ∧ k < q0
  | 0, n, r, b, r0, b0, hr, hr1, hb, hb1 => ⟨r0, hr, hr1⟩
  | f + 1, n, r, b, r0, b0, hr, hr1, hb, hb1 => by
    rw [pw]
    by_cases hn : n = 0
    · rw [if_pos hn]; exact ⟨r0, hr, hr1⟩
    · rw [if_neg hn]
      have e1 := tm_nI hq hr hb (by omega) h2 (by omega) hb1
      have e2 := tm_nI hq hb hb (by omega) h2 hb1 hb1
      have l1 : r0 * b0 % q0 < q0 := Nat.mod_lt _ (by omega)
      have l2 : b0 * b0 % q0 < q0 := Nat.mod_lt _ (by omega)
      by_cases h3 : n % 2 = 1
      · rw [if_pos h3]; exact pw_n hq h1 h2 f _ _ _ _ _ e1 l1 e2 (by omega)
      · rw [if_neg h3]; exact pw_n hq h1 h2 f _ _ _ _ _ hr hr1 e2 (by omega)
theorem pw_rng {q : Int32} {q0 : Nat} (hq : q = nI q0) (h1 : 2 ≤ q0 ∧ q0 < 1000000) (n : Nat) (b : Int32) (b0 : Nat := 4) (hb : b = nI b0 := by rfl) (hb1 : b0 < 1000000 := by omega) : rng q (pw q 32 n 1 b) := by
  obtain ⟨k, h3, h4⟩ := pw_n hq h1.1 h1.2 32 n 1 b 1 b0 rfl (by omega) hb hb1
  exact ⟨k, q0, h3, hq, h4, h1.2⟩
theorem tm_1 {q x : Int32} (h : rng q x) : tm q 1 x = x := by
  obtain ⟨k, q0, h1, h2, h3, h4⟩ := h
  rw [show tm q 1 x = nI (1 * k % q0) from tm_nI h2 (a := 1) (a0 := 1) rfl h1 (by omega) h4 (by omega) (by omega), Nat.one_mul, Nat.mod_eq_of_lt h3, h1]
theorem i8_cl {z : Int32} {k : Nat} {g : Nat → Int32} (hz : z = nI k) (hk : k < 1000) : g z.toNatClampNeg = g k := by rw [hz, nI_clamp (by omega)]
theorem i8_next {g : Nat → Int32} {k j : Nat} (h : ∀ i : Nat, i < j → ¬ g i = g k) (c : ¬ g j = g k) : ∀ i : Nat, i < j + 1 → ¬ g i = g k := by
  intro i hi
  by_cases e : i = j
  · rw [e]; exact c
  · exact h i (by omega)
theorem an_ix {mm i : Int32} {mx0 i0 : Nat} (hm : mm = nI mx0) (hi : i = nI i0) : 40 * mm + i = nI (40 * mx0 + i0) := by
  rw [hm, hi, show (40 : Int32) = nI 40 from rfl, pk_mul, nI_add]
theorem an_at {mm i : Int32} {mx0 i0 : Nat} {g : Nat → Int32} (hm : mm = nI mx0) (hi : i = nI i0) (h5 : mx0 ≤ 4) (h4 : i0 < 40) : g (40 * mm + i).toNatClampNeg = g (40 * mx0 + i0) := by
  rw [an_ix hm hi, nI_clamp (by omega)]
theorem d8_c {fr n z : Int32} {f0 n0 k : Nat} (hz : z = nI (f0 + k)) (hfr : fr = nI f0) (hn : n = nI n0) (h : f0 + n0 < 2 ^ 30) (h2 : k ≤ n0) : fr + n ≤ z ↔ n0 ≤ k := by
  rw [hz, hfr, hn, nI_add, nI_leI (by omega) (by omega)]
  omega
theorem d8_lt {fr n z : Int32} {f0 n0 k : Nat} (hz : z = nI (f0 + k)) (hfr : fr = nI f0) (hn : n = nI n0) (h : f0 + n0 < 2 ^ 30) (h2 : k ≤ n0) (c : ¬ fr + n ≤ z) : k < n0 := by rw [d8_c hz hfr hn h h2] at c; omega
theorem d8_end {fr n z : Int32} {f0 n0 k : Nat} (hz : z = nI (f0 + k)) (hfr : fr = nI f0) (hn : n = nI n0) (h : f0 + n0 < 2 ^ 30) (h2 : k ≤ n0) (c : fr + n ≤ z) : k = n0 := by rw [d8_c hz hfr hn h h2] at c; omega
theorem d8_next {z : Int32} {f0 k : Nat} {af bf : Nat → Int32} {d : Int64} (hz : z = nI (f0 + k)) (h : f0 + k < 2 ^ 30) (hd : d = dgs (fun i => af (f0 + i)) (fun i => bf (f0 + i)) k) : dg (dg d (af z.toNatClampNeg).toInt64) (bf z.toNatClampNeg).toInt64 = dgs (fun i => af (f0 + i)) (fun i => bf (f0 + i)) (k + 1) := by
  rw [hz, nI_clamp (by omega), hd]
  rfl
set_option maxHeartbeats 4000000 in
set_option maxRecDepth 100000 in
theorem c_X8_times (l : Launch) (D : va_G) (cA : Nat → ClassId) (h0 : Nat) (m0 : Int32) (m1 : Int32) (m2 : Int32) (m3 : Int32) (m4 : Int32) (m5 : Nat) (m6 : Int32) (m7 : Int32) (m8 : Int32) (m9 : Nat) (m10 : Nat) (m11 : Nat) (m12 : Int32) (m13 : Nat) (m14 : Nat) (m15 : Nat) (m16 : Nat) (m17 : Int32) (m18 : Nat) (m19 : Nat) (m20 : Nat) (m21 : Nat) (m22 : Nat) (m23 : Nat) (m24 : Nat) (m25 : Nat) (m26 : Int32) (m27 : Int32) (m28 : Int32) (m29 : Int32) (m30 : Int32) (m31 : Int32) (m32 : Nat) (m33 : Nat) (m34 : Nat) (m35 : Nat) (m36 : Int32) (m37 : Nat) (m38 : Int32) (m39 : Nat) (m40 : Nat) (m41 : Nat) (m42 : Nat) (m43 : Nat) (a : Int32) (b : Int32) (hp0 : 0 < m0) : Met l yX8_times wsX8_times ({ frames := 0, cells := 0, slots := 0, locals := 0 }) (rPc vwCl D cA [(h0, .inr (7, [.int m0, .int m1, .int m2, .int m3, .int m4, .ref m5, .int m6, .int m7, .int m8, .ref m9, .ref m10, .ref m11, .int m12, .ref m13, .ref m14, .ref m15, .ref m16, .int m17, .ref m18, .ref m19, .ref m20, .ref m21, .ref m22, .ref m23, .ref m24, .ref m25, .int m26, .int m27, .int m28, .int m29, .int m30, .int m31, .ref m32, .ref m33, .ref m34, .ref m35, .int m36, .ref m37, .int m38, .ref m39, .ref m40, .ref m41, .ref m42, .ref m43]))] [.ref h0, .int a, .int b]) (rq_x (some (.int (tm m0 a b)))) 0 0 (fun _ => False) := by
  refine Met.ofW (cc := cX8_times) (maxL := 3) (ret := (some .int)) (by decide) rfl ?_
  intro p e s m args below meth c s₁ B hml hv
  obtain ⟨rfl, hP, hK⟩ := hv
  have hx := B.exec
  have hb := B.bytes
  have hr := B.returns
  have hts := atoms_spec (ws := wsX8_times) B.pre
  have hown : s.vm.findClass RX8 = some m.cls := findClass_of_methodNamed B.named
  have hlocks := B.notSynchronized
  have hin_X8 : ∀ w ∈ wsX80, w ∈ wsX8_times := fun w h => List.mem_cons_of_mem _ (List.mem_append_right _ h)
  have w_RX8_99 := hts (.fieldLink RX8 99 "MixElectionModel" "p" "I") (by decide +kernel)
  have hl := lv_entry ([.ref h0, .int a, .int b]) (n := 3) (Nat.le_of_ble_eq_true rfl)
  rw [lg_entry_eq]
  generalize (lg_sl ([.ref h0, .int a, .int b]) ++ List.replicate (3 - (lg_sl ([.ref h0, .int a, .int b])).length) Slot.unset).toArray = ls at hl ⊢
  have hl : lv_has ls 3 [(0, .ref h0), (1, .int a), (2, .int b)] := hl
  refine lv_iload_n hx hb dX8_times_0 rfl (lv_at hl 1 rfl) ?_
  refine lv_i2l hx hb dX8_times_1 rfl ?_
  refine lv_iload_n hx hb dX8_times_2 rfl (lv_at hl 2 rfl) ?_
  refine lv_i2l hx hb dX8_times_3 rfl ?_
  refine lv_lmul hx hb dX8_times_4 ?_
  refine lv_aload_n hx hb dX8_times_5 rfl (lv_at hl 0 rfl) ?_
  refine va_get (D := D) (ci := 7) (v := .int m0) (C := RX8) (T := TX8) (N := 44) hx hb hts hin_X8 hown hK hP 0 rfl rfl 0 (by decide) (w_RX8_99) (fun _ h9 => h9) rfl dX8_times_6 ?_
  refine lv_i2l hx hb dX8_times_9 rfl ?_
  refine lv_lrem hx hb dX8_times_10 (tm_ne hp0) ?_
  refine lv_l2i hx hb dX8_times_11 rfl ?_
  exact W.iret (v := ((a.toInt64 * b.toInt64) - (a.toInt64 * b.toInt64) / m0.toInt64 * m0.toInt64).toInt32) hx hb hr (fun t ht hW => ⟨congrArg (fun z => Outcome.returned (some (Value.int z))) (rfl), ht⟩) (fun _ h => by cases h) dX8_times_12

set_option maxHeartbeats 4000000 in
set_option maxRecDepth 100000 in
theorem c_X8_power (l : Launch) (D : va_G) (cA : Nat → ClassId) (h0 : Nat) (m0 : Int32) (m1 : Int32) (m2 : Int32) (m3 : Int32) (m4 : Int32) (m5 : Nat) (m6 : Int32) (m7 : Int32) (m8 : Int32) (m9 : Nat) (m10 : Nat) (m11 : Nat) (m12 : Int32) (m13 : Nat) (m14 : Nat) (m15 : Nat) (m16 : Nat) (m17 : Int32) (m18 : Nat) (m19 : Nat) (m20 : Nat) (m21 : Nat) (m22 : Nat) (m23 : Nat) (m24 : Nat) (m25 : Nat) (m26 : Int32) (m27 : Int32) (m28 : Int32) (m29 : Int32) (m30 : Int32) (m31 : Int32) (m32 : Nat) (m33 : Nat) (m34 : Nat) (m35 : Nat) (m36 : Int32) (m37 : Nat) (m38 : Int32) (m39 : Nat) (m40 : Nat) (m41 : Nat) (m42 : Nat) (m43 : Nat) (a : Int32) (x : Int32) (x0 : Nat) (hx0 : x = nI x0) (hX : x0 < 2 ^ 31) (hp0 : 0 < m0) : Met l yX8_power wsX8_power ({ frames := 1, cells := 0, slots := 0, locals := 22 }) (rPc vwCl D cA [(h0, .inr (7, [.int m0, .int m1, .int m2, .int m3, .int m4, .ref m5, .int m6, .int m7, .int m8, .ref m9, .ref m10, .ref m11, .int m12, .ref m13, .ref m14, .ref m15, .ref m16, .int m17, .ref m18, .ref m19, .ref m20, .ref m21, .ref m22, .ref m23, .ref m24, .ref m25, .int m26, .int m27, .int m28, .int m29, .int m30, .int m31, .ref m32, .ref m33, .ref m34, .ref m35, .int m36, .ref m37, .int m38, .ref m39, .ref m40, .ref m41, .ref m42, .ref m43]))] [.ref h0, .int a, .int x]) (rq_x (some (.int (pw m0 32 x0 1 a)))) 0 0 (fun _ => False) := by
  refine Met.ofW (cc := cX8_power) (maxL := 6) (ret := (some .int)) (by decide) rfl ?_
  intro p e s m args below meth c s₁ B hml hv
  obtain ⟨rfl, hP, hK⟩ := hv
  have hx := B.exec
  have hb := B.bytes
  have hr := B.returns
  have hts := atoms_spec (ws := wsX8_power) B.pre
  have hown : s.vm.findClass RX8 = some m.cls := findClass_of_methodNamed B.named
  have hlocks := B.notSynchronized
  have hl := lv_entry ([.ref h0, .int a, .int x]) (n := 6) (Nat.le_of_ble_eq_true rfl)
  rw [lg_entry_eq]
  generalize (lg_sl ([.ref h0, .int a, .int x]) ++ List.replicate (6 - (lg_sl ([.ref h0, .int a, .int x])).length) Slot.unset).toArray = ls at hl ⊢
  have hl : lv_has ls 6 [(0, .ref h0), (1, .int a), (2, .int x)] := hl
  refine lv_iconst (v := 1) hx hb dX8_power_0 (by decide) ?_
  refine lv_istore_n (lv' := [(3, .int 1), (0, .ref h0), (1, .int a), (2, .int x)]) hx hb dX8_power_1 rfl hl (by decide) rfl (fun ls hl => ?_)
  refine lv_iload_n hx hb dX8_power_2 rfl (lv_at hl 2 rfl) ?_
  refine lv_istore (lv' := [(4, .int a), (3, .int 1), (0, .ref h0), (1, .int a), (2, .int x)]) hx hb dX8_power_3 hl (by decide) rfl (fun ls hl => ?_)
  refine lv_iload_n hx hb dX8_power_5 rfl (lv_at hl 4 rfl) ?_
  refine lv_istore (lv' := [(5, .int x), (4, .int a), (3, .int 1), (0, .ref h0), (1, .int a), (2, .int x)]) hx hb dX8_power_6 hl (by decide) rfl (fun ls hl => ?_)
  have loop8 : ∀ (f n : Nat) (z r b : Int32), z = nI n → 0 < f → n < 2 ^ (f - 1) → n < 2 ^ 31 → pw m0 f n r b = pw m0 32 x0 1 a → ∀ ls : Array Slot, lv_has ls 6 [(0, .ref h0), (1, .int a), (2, .int x), (3, .int r), (4, .int b), (5, .int z)] → W p l e (headSpec wsX8_power ({ frames := 1, cells := 0, slots := 0, locals := 22 })).room s m [.ref h0, .int a, .int x].toArray below meth c s.heap [] 0 0 (MQ below (rq_x (some (.int (pw m0 32 x0 1 a)))) [.ref h0, .int a, .int x].toArray s 0 0 (fun _ => False)) (F0 m 8 ls []) := by
    intro f
    induction f with
    | zero =>
      intro n z r b hz h1
      omega
    | succ f ih =>
      intro n z r b hz h1 h2 h3 hw ls hl
      refine lv_iload hx hb dX8_power_8 (lv_at hl 5 rfl) ?_
      refine lv_if_le (tgt := 48) hx hb dX8_power_10 (by decide) (fun c_10 => ?_) (fun c_10 => ?_)
      · skip
        refine lv_iload_n hx hb dX8_power_48 rfl (lv_at hl 3 rfl) ?_
        exact W.iret (v := r) hx hb hr (fun t ht hW => ⟨congrArg (fun z => Outcome.returned (some (Value.int z))) (pw_end hz h3 c_10 hw), ht⟩) (fun _ h => by cases h) dX8_power_49
      · skip
        refine lv_iload hx hb dX8_power_13 (lv_at hl 5 rfl) ?_
        refine lv_iconst (v := 2) hx hb dX8_power_15 (by decide) ?_
        refine lv_irem hx hb dX8_power_16 (by decide) ?_
        refine lv_iconst (v := 1) hx hb dX8_power_17 (by decide) ?_
        refine lv_icmp_ne (tgt := 29) hx hb dX8_power_18 (by decide) (fun c_18 => ?_) (fun c_18 => ?_)
        · skip
          refine lv_aload_n hx hb dX8_power_29 rfl (lv_at hl 0 rfl) ?_
          refine lv_iload hx hb dX8_power_30 (lv_at hl 4 rfl) ?_
          refine lv_iload hx hb dX8_power_32 (lv_at hl 4 rfl) ?_
          refine rq_call1 (v := .int (tm m0 b b)) (rn_V (As := [.int b, .int b]) (rest := []) (ci := 7) (fs := [.int m0, .int m1, .int m2, .int m3, .int m4, .ref m5, .int m6, .int m7, .int m8, .ref m9, .ref m10, .ref m11, .int m12, .ref m13, .ref m14, .ref m15, .ref m16, .int m17, .ref m18, .ref m19, .ref m20, .ref m21, .ref m22, .ref m23, .ref m24, .ref m25, .int m26, .int m27, .int m28, .int m29, .int m30, .int m31, .ref m32, .ref m33, .ref m34, .ref m35, .int m36, .ref m37, .int m38, .ref m39, .ref m40, .ref m41, .ref m42, .ref m43]) ⟨hx, hb, hml, hown, hts⟩ (c_X8_times l D cA h0 m0 m1 m2 m3 m4 m5 m6 m7 m8 m9 m10 m11 m12 m13 m14 m15 m16 m17 m18 m19 m20 m21 m22 m23 m24 m25 m26 m27 m28 m29 m30 m31 m32 m33 m34 m35 m36 m37 m38 m39 m40 m41 m42 m43 b b (by assumption)) rfl (cwV 2 hts gX8_power_X8_times rfl rfl rfl (by decide +kernel) ⟨Nat.le_of_ble_eq_true rfl, Nat.le_of_ble_eq_true rfl⟩) hK hP [0] rfl rfl rfl hl.1 rfl (Nat.le_of_ble_eq_true rfl) dX8_power_34 ⟨Nat.le_of_ble_eq_true rfl, Nat.le_of_ble_eq_true rfl⟩) ?_
          refine lv_istore (lv' := [(4, .int (tm m0 b b)), (0, .ref h0), (1, .int a), (2, .int x), (3, .int r), (5, .int z)]) hx hb dX8_power_37 hl (by decide) rfl (fun ls hl => ?_)
          refine lv_iload hx hb dX8_power_39 (lv_at hl 5 rfl) ?_
          refine lv_iconst (v := 2) hx hb dX8_power_41 (by decide) ?_
          refine lv_idiv hx hb dX8_power_42 (by decide) ?_
          refine lv_istore (lv' := [(5, .int (z / 2)), (4, .int (tm m0 b b)), (0, .ref h0), (1, .int a), (2, .int x), (3, .int r)]) hx hb dX8_power_43 hl (by decide) rfl (fun ls hl => ?_)
          refine lv_goto (tgt := 8) hx hb dX8_power_45 (by decide) ?_
          obtain ⟨g1, g2, g3, g4⟩ := pw8_even hz h2 h3 c_10 c_18 hw
          exact ih (n / 2) _ _ _ g1 g2 g3 (by omega) g4 ls (lv_sub hl [2, 3, 4, 5, 1, 0] rfl)
        · skip
          refine lv_aload_n hx hb dX8_power_21 rfl (lv_at hl 0 rfl) ?_
          refine lv_iload_n hx hb dX8_power_22 rfl (lv_at hl 3 rfl) ?_
          refine lv_iload hx hb dX8_power_23 (lv_at hl 4 rfl) ?_
          refine rq_call1 (v := .int (tm m0 r b)) (rn_V (As := [.int r, .int b]) (rest := []) (ci := 7) (fs := [.int m0, .int m1, .int m2, .int m3, .int m4, .ref m5, .int m6, .int m7, .int m8, .ref m9, .ref m10, .ref m11, .int m12, .ref m13, .ref m14, .ref m15, .ref m16, .int m17, .ref m18, .ref m19, .ref m20, .ref m21, .ref m22, .ref m23, .ref m24, .ref m25, .int m26, .int m27, .int m28, .int m29, .int m30, .int m31, .ref m32, .ref m33, .ref m34, .ref m35, .int m36, .ref m37, .int m38, .ref m39, .ref m40, .ref m41, .ref m42, .ref m43]) ⟨hx, hb, hml, hown, hts⟩ (c_X8_times l D cA h0 m0 m1 m2 m3 m4 m5 m6 m7 m8 m9 m10 m11 m12 m13 m14 m15 m16 m17 m18 m19 m20 m21 m22 m23 m24 m25 m26 m27 m28 m29 m30 m31 m32 m33 m34 m35 m36 m37 m38 m39 m40 m41 m42 m43 r b (by assumption)) rfl (cwV 2 hts gX8_power_X8_times rfl rfl rfl (by decide +kernel) ⟨Nat.le_of_ble_eq_true rfl, Nat.le_of_ble_eq_true rfl⟩) hK hP [0] rfl rfl rfl hl.1 rfl (Nat.le_of_ble_eq_true rfl) dX8_power_25 ⟨Nat.le_of_ble_eq_true rfl, Nat.le_of_ble_eq_true rfl⟩) ?_
          refine lv_istore_n (lv' := [(3, .int (tm m0 r b)), (0, .ref h0), (1, .int a), (2, .int x), (4, .int b), (5, .int z)]) hx hb dX8_power_28 rfl hl (by decide) rfl (fun ls hl => ?_)
          refine lv_aload_n hx hb dX8_power_29 rfl (lv_at hl 1 rfl) ?_
          refine lv_iload hx hb dX8_power_30 (lv_at hl 4 rfl) ?_
          refine lv_iload hx hb dX8_power_32 (lv_at hl 4 rfl) ?_
          refine rq_call1 (v := .int (tm m0 b b)) (rn_V (As := [.int b, .int b]) (rest := []) (ci := 7) (fs := [.int m0, .int m1, .int m2, .int m3, .int m4, .ref m5, .int m6, .int m7, .int m8, .ref m9, .ref m10, .ref m11, .int m12, .ref m13, .ref m14, .ref m15, .ref m16, .int m17, .ref m18, .ref m19, .ref m20, .ref m21, .ref m22, .ref m23, .ref m24, .ref m25, .int m26, .int m27, .int m28, .int m29, .int m30, .int m31, .ref m32, .ref m33, .ref m34, .ref m35, .int m36, .ref m37, .int m38, .ref m39, .ref m40, .ref m41, .ref m42, .ref m43]) ⟨hx, hb, hml, hown, hts⟩ (c_X8_times l D cA h0 m0 m1 m2 m3 m4 m5 m6 m7 m8 m9 m10 m11 m12 m13 m14 m15 m16 m17 m18 m19 m20 m21 m22 m23 m24 m25 m26 m27 m28 m29 m30 m31 m32 m33 m34 m35 m36 m37 m38 m39 m40 m41 m42 m43 b b (by assumption)) rfl (cwV 2 hts gX8_power_X8_times rfl rfl rfl (by decide +kernel) ⟨Nat.le_of_ble_eq_true rfl, Nat.le_of_ble_eq_true rfl⟩) hK hP [0] rfl rfl rfl hl.1 rfl (Nat.le_of_ble_eq_true rfl) dX8_power_34 ⟨Nat.le_of_ble_eq_true rfl, Nat.le_of_ble_eq_true rfl⟩) ?_
          refine lv_istore (lv' := [(4, .int (tm m0 b b)), (3, .int (tm m0 r b)), (0, .ref h0), (1, .int a), (2, .int x), (5, .int z)]) hx hb dX8_power_37 hl (by decide) rfl (fun ls hl => ?_)
          refine lv_iload hx hb dX8_power_39 (lv_at hl 5 rfl) ?_
          refine lv_iconst (v := 2) hx hb dX8_power_41 (by decide) ?_
          refine lv_idiv hx hb dX8_power_42 (by decide) ?_
          refine lv_istore (lv' := [(5, .int (z / 2)), (4, .int (tm m0 b b)), (3, .int (tm m0 r b)), (0, .ref h0), (1, .int a), (2, .int x)]) hx hb dX8_power_43 hl (by decide) rfl (fun ls hl => ?_)
          refine lv_goto (tgt := 8) hx hb dX8_power_45 (by decide) ?_
          obtain ⟨g1, g2, g3, g4⟩ := pw8_odd hz h2 h3 c_10 c_18 hw
          exact ih (n / 2) _ _ _ g1 g2 g3 (by omega) g4 ls (lv_sub hl [3, 4, 5, 2, 1, 0] rfl)
  exact loop8 32 x0 x 1 a hx0 (by omega) hX hX rfl ls (lv_sub hl [3, 4, 5, 2, 1, 0] rfl)

set_option maxHeartbeats 4000000 in
set_option maxRecDepth 100000 in
theorem c_X8_on (l : Launch) (D : va_G) (cA : Nat → ClassId) (d : Int64) (x : Int64) : Met l yX8_on wsX8_on ({ frames := 0, cells := 0, slots := 0, locals := 0 }) (rPc vwCl D cA [] [.long d, .long x]) (rq_x (some (.long (dg d x)))) 0 0 (fun _ => False) := by
  refine Met.ofW (cc := cX8_on) (maxL := 4) (ret := (some .long)) (by decide) rfl ?_
  intro p e s m args below meth c s₁ B hml hv
  obtain ⟨rfl, hP, hK⟩ := hv
  have hx := B.exec
  have hb := B.bytes
  have hr := B.returns
  have hts := atoms_spec (ws := wsX8_on) B.pre
  have hown : s.vm.findClass RX8 = some m.cls := findClass_of_methodNamed B.named
  have hlocks := B.notSynchronized
  have hl := lv_entry ([.long d, .long x]) (n := 4) (Nat.le_of_ble_eq_true rfl)
  rw [lg_entry_eq]
  generalize (lg_sl ([.long d, .long x]) ++ List.replicate (4 - (lg_sl ([.long d, .long x])).length) Slot.unset).toArray = ls at hl ⊢
  have hl : lv_has ls 4 [(0, .long d), (2, .long x)] := hl
  refine lv_lload_n hx hb dX8_on_0 rfl (lv_at hl 0 rfl) ?_
  refine lv_lload_n hx hb dX8_on_1 rfl (lv_at hl 1 rfl) ?_
  refine lv_lxor hx hb dX8_on_2 ?_
  refine lv_ldc2 (v := (1099511628211)) hx hb hown (hts (.constantLong RX8 129 (1099511628211)) (by decide +kernel)) dX8_on_3 ?_
  refine lv_lmul hx hb dX8_on_6 ?_
  exact W.lret (v := ((d ^^^ x) * (1099511628211))) hx hb hr (fun t ht hW => ⟨congrArg (fun z => Outcome.returned (some (Value.long z))) (rfl), ht⟩) (fun _ h => by cases h) dX8_on_7

set_option maxHeartbeats 4000000 in
set_option maxRecDepth 100000 in
theorem c_X8_isExponent (l : Launch) (D : va_G) (cA : Nat → ClassId) (h0 : Nat) (m0 : Int32) (m1 : Int32) (m2 : Int32) (m3 : Int32) (m4 : Int32) (m5 : Nat) (m6 : Int32) (m7 : Int32) (m8 : Int32) (m9 : Nat) (m10 : Nat) (m11 : Nat) (m12 : Int32) (m13 : Nat) (m14 : Nat) (m15 : Nat) (m16 : Nat) (m17 : Int32) (m18 : Nat) (m19 : Nat) (m20 : Nat) (m21 : Nat) (m22 : Nat) (m23 : Nat) (m24 : Nat) (m25 : Nat) (m26 : Int32) (m27 : Int32) (m28 : Int32) (m29 : Int32) (m30 : Int32) (m31 : Int32) (m32 : Nat) (m33 : Nat) (m34 : Nat) (m35 : Nat) (m36 : Int32) (m37 : Nat) (m38 : Int32) (m39 : Nat) (m40 : Nat) (m41 : Nat) (m42 : Nat) (m43 : Nat) (v : Int32) (q0 : Nat) (hgq : m1 = nI q0) (hq1 : 1 ≤ q0 ∧ q0 < 1000000) : Met l yX8_isExponent wsX8_isExponent ({ frames := 1, cells := 0, slots := 0, locals := 22 }) (rPc vwCl D cA [(h0, .inr (7, [.int m0, .int m1, .int m2, .int m3, .int m4, .ref m5, .int m6, .int m7, .int m8, .ref m9, .ref m10, .ref m11, .int m12, .ref m13, .ref m14, .ref m15, .ref m16, .int m17, .ref m18, .ref m19, .ref m20, .ref m21, .ref m22, .ref m23, .ref m24, .ref m25, .int m26, .int m27, .int m28, .int m29, .int m30, .int m31, .ref m32, .ref m33, .ref m34, .ref m35, .int m36, .ref m37, .int m38, .ref m39, .ref m40, .ref m41, .ref m42, .ref m43]))] [.ref h0, .int v]) (rq_x (some (.int (bI (0 ≤ v ∧ v < m1))))) 0 0 (fun _ => False) := by
  refine Met.ofW (cc := cX8_isExponent) (maxL := 2) (ret := (some .boolean)) (by decide) rfl ?_
  intro p e s m args below meth c s₁ B hml hv
  obtain ⟨rfl, hP, hK⟩ := hv
  have hx := B.exec
  have hb := B.bytes
  have hr := B.returns
  have hts := atoms_spec (ws := wsX8_isExponent) B.pre
  have hown : s.vm.findClass RX8 = some m.cls := findClass_of_methodNamed B.named
  have hlocks := B.notSynchronized
  have hin_X8 : ∀ w ∈ wsX80, w ∈ wsX8_isExponent := fun w h => List.mem_cons_of_mem _ (List.mem_append_right _ h)
  have w_RX8_103 := hts (.fieldLink RX8 103 "MixElectionModel" "q" "I") (by decide +kernel)
  have hl := lv_entry ([.ref h0, .int v]) (n := 2) (Nat.le_of_ble_eq_true rfl)
  rw [lg_entry_eq]
  generalize (lg_sl ([.ref h0, .int v]) ++ List.replicate (2 - (lg_sl ([.ref h0, .int v])).length) Slot.unset).toArray = ls at hl ⊢
  have hl : lv_has ls 2 [(0, .ref h0), (1, .int v)] := hl
  refine lv_iload_n hx hb dX8_isExponent_0 rfl (lv_at hl 1 rfl) ?_
  refine lv_iconst (v := 0) hx hb dX8_isExponent_1 (by decide) ?_
  refine lv_aload_n hx hb dX8_isExponent_2 rfl (lv_at hl 0 rfl) ?_
  refine va_get (D := D) (ci := 7) (v := .int m1) (C := RX8) (T := TX8) (N := 44) hx hb hts hin_X8 hown hK hP 0 rfl rfl 1 (by decide) (w_RX8_103) (fun _ h9 => h9) rfl dX8_isExponent_3 ?_
  refine lv_iconst (v := 1) hx hb dX8_isExponent_6 (by decide) ?_
  refine lv_isub hx hb dX8_isExponent_7 ?_
  refine rq_call1 (v := .int (bI (0 ≤ v ∧ v ≤ (m1 - 1)))) (rn_S (As := [.int v, .int 0, .int (m1 - 1)]) (rest := []) ⟨hx, hb, hml, hown, hts⟩ (c_X8_in l D cA v 0 (m1 - 1)) (va_cwS 3 hts gX8_isExponent_X8_in rfl rfl rfl (by decide +kernel) ⟨Nat.le_of_ble_eq_true rfl, Nat.le_of_ble_eq_true rfl⟩) hK hP [] rfl rfl hl.1 rfl (Nat.le_of_ble_eq_true rfl) dX8_isExponent_8 ⟨Nat.le_of_ble_eq_true rfl, Nat.le_of_ble_eq_true rfl⟩) ?_
  exact W.zret (v := (bI (0 ≤ v ∧ v ≤ (m1 - 1)))) hx hb hr bI_nar (fun t ht hW => ⟨congrArg (fun z => Outcome.returned (some (Value.int z))) (bI_iff (in_1 hgq (by omega))), ht⟩) (fun _ h => by cases h) dX8_isExponent_11

set_option maxHeartbeats 4000000 in
set_option maxRecDepth 100000 in
theorem c_X8_isOfGroup (l : Launch) (D : va_G) (cA : Nat → ClassId) (h0 : Nat) (m0 : Int32) (m1 : Int32) (m2 : Int32) (m3 : Int32) (m4 : Int32) (m5 : Nat) (m6 : Int32) (m7 : Int32) (m8 : Int32) (m9 : Nat) (m10 : Nat) (m11 : Nat) (m12 : Int32) (m13 : Nat) (m14 : Nat) (m15 : Nat) (m16 : Nat) (m17 : Int32) (m18 : Nat) (m19 : Nat) (m20 : Nat) (m21 : Nat) (m22 : Nat) (m23 : Nat) (m24 : Nat) (m25 : Nat) (m26 : Int32) (m27 : Int32) (m28 : Int32) (m29 : Int32) (m30 : Int32) (m31 : Int32) (m32 : Nat) (m33 : Nat) (m34 : Nat) (m35 : Nat) (m36 : Int32) (m37 : Nat) (m38 : Int32) (m39 : Nat) (m40 : Nat) (m41 : Nat) (m42 : Nat) (m43 : Nat) (a : Int32) (q0 : Nat) (p0 : Nat) (hgq : m1 = nI q0) (hq1 : 1 ≤ q0 ∧ q0 < 1000000) (hgp : m0 = nI p0) (hp1 : 2 ≤ p0 ∧ p0 < 1000000) : Met l yX8_isOfGroup wsX8_isOfGroup ({ frames := 2, cells := 0, slots := 0, locals := 47 }) (rPc vwCl D cA [(h0, .inr (7, [.int m0, .int m1, .int m2, .int m3, .int m4, .ref m5, .int m6, .int m7, .int m8, .ref m9, .ref m10, .ref m11, .int m12, .ref m13, .ref m14, .ref m15, .ref m16, .int m17, .ref m18, .ref m19, .ref m20, .ref m21, .ref m22, .ref m23, .ref m24, .ref m25, .int m26, .int m27, .int m28, .int m29, .int m30, .int m31, .ref m32, .ref m33, .ref m34, .ref m35, .int m36, .ref m37, .int m38, .ref m39, .ref m40, .ref m41, .ref m42, .ref m43]))] [.ref h0, .int a]) (rq_x (some (.int (bI (1 ≤ a ∧ a < m0 ∧ pw m0 32 q0 1 a = 1))))) 0 0 (fun _ => False) := by
  refine Met.ofW (cc := cX8_isOfGroup) (maxL := 2) (ret := (some .boolean)) (by decide) rfl ?_
  intro p e s m args below meth c s₁ B hml hv
  obtain ⟨rfl, hP, hK⟩ := hv
  have hx := B.exec
  have hb := B.bytes
  have hr := B.returns
  have hts := atoms_spec (ws := wsX8_isOfGroup) B.pre
  have hown : s.vm.findClass RX8 = some m.cls := findClass_of_methodNamed B.named
  have hlocks := B.notSynchronized
  have hin_X8 : ∀ w ∈ wsX80, w ∈ wsX8_isOfGroup := fun w h => List.mem_cons_of_mem _ (List.mem_append_right _ h)
  have w_RX8_99 := hts (.fieldLink RX8 99 "MixElectionModel" "p" "I") (by decide +kernel)
  have w_RX8_103 := hts (.fieldLink RX8 103 "MixElectionModel" "q" "I") (by decide +kernel)
  have hl := lv_entry ([.ref h0, .int a]) (n := 2) (Nat.le_of_ble_eq_true rfl)
  rw [lg_entry_eq]
  generalize (lg_sl ([.ref h0, .int a]) ++ List.replicate (2 - (lg_sl ([.ref h0, .int a])).length) Slot.unset).toArray = ls at hl ⊢
  have hl : lv_has ls 2 [(0, .ref h0), (1, .int a)] := hl
  refine lv_iload_n hx hb dX8_isOfGroup_0 rfl (lv_at hl 1 rfl) ?_
  refine lv_iconst (v := 1) hx hb dX8_isOfGroup_1 (by decide) ?_
  refine lv_aload_n hx hb dX8_isOfGroup_2 rfl (lv_at hl 0 rfl) ?_
  refine va_get (D := D) (ci := 7) (v := .int m0) (C := RX8) (T := TX8) (N := 44) hx hb hts hin_X8 hown hK hP 0 rfl rfl 0 (by decide) (w_RX8_99) (fun _ h9 => h9) rfl dX8_isOfGroup_3 ?_
  refine lv_iconst (v := 1) hx hb dX8_isOfGroup_6 (by decide) ?_
  refine lv_isub hx hb dX8_isOfGroup_7 ?_
  refine rq_call1 (v := .int (bI (1 ≤ a ∧ a ≤ (m0 - 1)))) (rn_S (As := [.int a, .int 1, .int (m0 - 1)]) (rest := []) ⟨hx, hb, hml, hown, hts⟩ (c_X8_in l D cA a 1 (m0 - 1)) (va_cwS 3 hts gX8_isOfGroup_X8_in rfl rfl rfl (by decide +kernel) ⟨Nat.le_of_ble_eq_true rfl, Nat.le_of_ble_eq_true rfl⟩) hK hP [] rfl rfl hl.1 rfl (Nat.le_of_ble_eq_true rfl) dX8_isOfGroup_8 ⟨Nat.le_of_ble_eq_true rfl, Nat.le_of_ble_eq_true rfl⟩) ?_
  refine lv_if_eq (tgt := 31) hx hb dX8_isOfGroup_11 (by decide) (fun c_11 => ?_) (fun c_11 => ?_)
  · skip
    refine lv_iconst (v := 0) hx hb dX8_isOfGroup_31 (by decide) ?_
    exact W.zret (v := 0) hx hb hr rfl (fun t ht hW => ⟨congrArg (fun z => Outcome.returned (some (Value.int z))) (bI_f (fun h => bI_0 c_11 ⟨h.1, (le_1 hgp (by omega) (by omega)).mpr h.2.1⟩)), ht⟩) (fun _ h => by cases h) dX8_isOfGroup_32
  · skip
    refine lv_aload_n hx hb dX8_isOfGroup_14 rfl (lv_at hl 0 rfl) ?_
    refine lv_iload_n hx hb dX8_isOfGroup_15 rfl (lv_at hl 1 rfl) ?_
    refine lv_aload_n hx hb dX8_isOfGroup_16 rfl (lv_at hl 0 rfl) ?_
    refine va_get (D := D) (ci := 7) (v := .int m1) (C := RX8) (T := TX8) (N := 44) hx hb hts hin_X8 hown hK hP 0 rfl rfl 1 (by decide) (w_RX8_103) (fun _ h9 => h9) rfl dX8_isOfGroup_17 ?_
    refine rq_call1 (v := .int (pw m0 32 q0 1 a)) (rn_V (As := [.int a, .int m1]) (rest := []) (ci := 7) (fs := [.int m0, .int m1, .int m2, .int m3, .int m4, .ref m5, .int m6, .int m7, .int m8, .ref m9, .ref m10, .ref m11, .int m12, .ref m13, .ref m14, .ref m15, .ref m16, .int m17, .ref m18, .ref m19, .ref m20, .ref m21, .ref m22, .ref m23, .ref m24, .ref m25, .int m26, .int m27, .int m28, .int m29, .int m30, .int m31, .ref m32, .ref m33, .ref m34, .ref m35, .int m36, .ref m37, .int m38, .ref m39, .ref m40, .ref m41, .ref m42, .ref m43]) ⟨hx, hb, hml, hown, hts⟩ (c_X8_power l D cA h0 m0 m1 m2 m3 m4 m5 m6 m7 m8 m9 m10 m11 m12 m13 m14 m15 m16 m17 m18 m19 m20 m21 m22 m23 m24 m25 m26 m27 m28 m29 m30 m31 m32 m33 m34 m35 m36 m37 m38 m39 m40 m41 m42 m43 a m1 q0 hgq (by omega) (iv_p hgp hp1.1 hp1.2)) rfl (cwV 2 hts gX8_isOfGroup_X8_power rfl rfl rfl (by decide +kernel) ⟨Nat.le_of_ble_eq_true rfl, Nat.le_of_ble_eq_true rfl⟩) hK hP [0] rfl rfl rfl hl.1 rfl (Nat.le_of_ble_eq_true rfl) dX8_isOfGroup_20 ⟨Nat.le_of_ble_eq_true rfl, Nat.le_of_ble_eq_true rfl⟩) ?_
    refine lv_iconst (v := 1) hx hb dX8_isOfGroup_23 (by decide) ?_
    refine lv_icmp_ne (tgt := 31) hx hb dX8_isOfGroup_24 (by decide) (fun c_24 => ?_) (fun c_24 => ?_)
    · skip
      refine lv_iconst (v := 0) hx hb dX8_isOfGroup_31 (by decide) ?_
      exact W.zret (v := 0) hx hb hr rfl (fun t ht hW => ⟨congrArg (fun z => Outcome.returned (some (Value.int z))) (bI_f (fun h => c_24 h.2.2)), ht⟩) (fun _ h => by cases h) dX8_isOfGroup_32
    · skip
      refine lv_iconst (v := 1) hx hb dX8_isOfGroup_27 (by decide) ?_
      refine lv_goto (tgt := 32) hx hb dX8_isOfGroup_28 (by decide) ?_
      exact W.zret (v := 1) hx hb hr rfl (fun t ht hW => ⟨congrArg (fun z => Outcome.returned (some (Value.int z))) (bI_t ⟨(bI_1 c_11).1, (le_1 hgp (by omega) (by omega)).mp (bI_1 c_11).2, c_24⟩), ht⟩) (fun _ h => by cases h) dX8_isOfGroup_32

set_option maxHeartbeats 4000000 in
set_option maxRecDepth 100000 in
theorem c_X8_mark (l : Launch) (D : va_G) (cA : Nat → ClassId) (h0 : Nat) (m0 : Int32) (m1 : Int32) (m2 : Int32) (m3 : Int32) (m4 : Int32) (m5 : Nat) (m6 : Int32) (m7 : Int32) (m8 : Int32) (m9 : Nat) (m10 : Nat) (m11 : Nat) (m12 : Int32) (m13 : Nat) (m14 : Nat) (m15 : Nat) (m16 : Nat) (m17 : Int32) (m18 : Nat) (m19 : Nat) (m20 : Nat) (m21 : Nat) (m22 : Nat) (m23 : Nat) (m24 : Nat) (m25 : Nat) (m26 : Int32) (m27 : Int32) (m28 : Int32) (m29 : Int32) (m30 : Int32) (m31 : Int32) (m32 : Nat) (m33 : Nat) (m34 : Nat) (m35 : Nat) (m36 : Int32) (m37 : Nat) (m38 : Int32) (m39 : Nat) (m40 : Nat) (m41 : Nat) (m42 : Nat) (m43 : Nat) (x : Int32) (x0 : Nat) (hx0 : x = nI x0) (hX : x0 < 1000) (hp0 : 0 < m0) : Met l yX8_mark wsX8_mark ({ frames := 2, cells := 0, slots := 0, locals := 47 }) (rPc vwCl D cA [(h0, .inr (7, [.int m0, .int m1, .int m2, .int m3, .int m4, .ref m5, .int m6, .int m7, .int m8, .ref m9, .ref m10, .ref m11, .int m12, .ref m13, .ref m14, .ref m15, .ref m16, .int m17, .ref m18, .ref m19, .ref m20, .ref m21, .ref m22, .ref m23, .ref m24, .ref m25, .int m26, .int m27, .int m28, .int m29, .int m30, .int m31, .ref m32, .ref m33, .ref m34, .ref m35, .int m36, .ref m37, .int m38, .ref m39, .ref m40, .ref m41, .ref m42, .ref m43]))] [.ref h0, .int x]) (rq_x (some (.int (pw m0 32 (x0 + 1) 1 4)))) 0 0 (fun _ => False) := by
  refine Met.ofW (cc := cX8_mark) (maxL := 2) (ret := (some .int)) (by decide) rfl ?_
  intro p e s m args below meth c s₁ B hml hv
  obtain ⟨rfl, hP, hK⟩ := hv
  have hx := B.exec
  have hb := B.bytes
  have hr := B.returns
  have hts := atoms_spec (ws := wsX8_mark) B.pre
  have hown : s.vm.findClass RX8 = some m.cls := findClass_of_methodNamed B.named
  have hlocks := B.notSynchronized
  have hl := lv_entry ([.ref h0, .int x]) (n := 2) (Nat.le_of_ble_eq_true rfl)
  rw [lg_entry_eq]
  generalize (lg_sl ([.ref h0, .int x]) ++ List.replicate (2 - (lg_sl ([.ref h0, .int x])).length) Slot.unset).toArray = ls at hl ⊢
  have hl : lv_has ls 2 [(0, .ref h0), (1, .int x)] := hl
  refine lv_aload_n hx hb dX8_mark_0 rfl (lv_at hl 0 rfl) ?_
  refine lv_iconst (v := 4) hx hb dX8_mark_1 (by decide) ?_
  refine lv_iload_n hx hb dX8_mark_2 rfl (lv_at hl 1 rfl) ?_
  refine lv_iconst (v := 1) hx hb dX8_mark_3 (by decide) ?_
  refine lv_iadd hx hb dX8_mark_4 ?_
  refine rq_call1 (v := .int (pw m0 32 (x0 + 1) 1 4)) (rn_V (As := [.int 4, .int (x + 1)]) (rest := []) (ci := 7) (fs := [.int m0, .int m1, .int m2, .int m3, .int m4, .ref m5, .int m6, .int m7, .int m8, .ref m9, .ref m10, .ref m11, .int m12, .ref m13, .ref m14, .ref m15, .ref m16, .int m17, .ref m18, .ref m19, .ref m20, .ref m21, .ref m22, .ref m23, .ref m24, .ref m25, .int m26, .int m27, .int m28, .int m29, .int m30, .int m31, .ref m32, .ref m33, .ref m34, .ref m35, .int m36, .ref m37, .int m38, .ref m39, .ref m40, .ref m41, .ref m42, .ref m43]) ⟨hx, hb, hml, hown, hts⟩ (c_X8_power l D cA h0 m0 m1 m2 m3 m4 m5 m6 m7 m8 m9 m10 m11 m12 m13 m14 m15 m16 m17 m18 m19 m20 m21 m22 m23 m24 m25 m26 m27 m28 m29 m30 m31 m32 m33 m34 m35 m36 m37 m38 m39 m40 m41 m42 m43 4 (x + 1) (x0 + 1) (by rw [hx0]; exact nI_1 x0) (by omega) hp0) rfl (cwV 2 hts gX8_mark_X8_power rfl rfl rfl (by decide +kernel) ⟨Nat.le_of_ble_eq_true rfl, Nat.le_of_ble_eq_true rfl⟩) hK hP [0] rfl rfl rfl hl.1 rfl (Nat.le_of_ble_eq_true rfl) dX8_mark_5 ⟨Nat.le_of_ble_eq_true rfl, Nat.le_of_ble_eq_true rfl⟩) ?_
  exact W.iret (v := (pw m0 32 (x0 + 1) 1 4)) hx hb hr (fun t ht hW => ⟨congrArg (fun z => Outcome.returned (some (Value.int z))) (rfl), ht⟩) (fun _ h => by cases h) dX8_mark_8

set_option maxHeartbeats 4000000 in
set_option maxRecDepth 100000 in
theorem c_X8_enter (l : Launch) (D : va_G) (cA : Nat → ClassId) (h0 : Nat) (m0 : Int32) (m1 : Int32) (m2 : Int32) (m3 : Int32) (m4 : Int32) (m5 : Nat) (m6 : Int32) (m7 : Int32) (m8 : Int32) (m9 : Nat) (m10 : Nat) (m11 : Nat) (m12 : Int32) (m13 : Nat) (m14 : Nat) (m15 : Nat) (m16 : Nat) (m17 : Int32) (m18 : Nat) (m19 : Nat) (m20 : Nat) (m21 : Nat) (m22 : Nat) (m23 : Nat) (m24 : Nat) (m25 : Nat) (m26 : Int32) (m27 : Int32) (m28 : Int32) (m29 : Int32) (m30 : Int32) (m31 : Int32) (m32 : Nat) (m33 : Nat) (m34 : Nat) (m35 : Nat) (m36 : Int32) (m37 : Nat) (m38 : Int32) (m39 : Nat) (m40 : Nat) (m41 : Nat) (m42 : Nat) (m43 : Nat) (kf : Nat → Int32) (xf : Nat → Int32) (yf : Nat → Int32) (zf : Nat → Int64) (cf : Nat → Int64) (kd : Int32) (x : Int32) (y : Int32) (z : Int64) (n0 : Nat) (hn : m38 = nI n0) (h6 : n0 < 600) : Met l yX8_enter wsX8_enter ({ frames := 1, cells := 0, slots := 0, locals := 23 }) (wPc vwCl D cA [(h0, .inr (7, [.int m0, .int m1, .int m2, .int m3, .int m4, .ref m5, .int m6, .int m7, .int m8, .ref m9, .ref m10, .ref m11, .int m12, .ref m13, .ref m14, .ref m15, .ref m16, .int m17, .ref m18, .ref m19, .ref m20, .ref m21, .ref m22, .ref m23, .ref m24, .ref m25, .int m26, .int m27, .int m28, .int m29, .int m30, .int m31, .ref m32, .ref m33, .ref m34, .ref m35, .int m36, .ref m37, .int m38, .ref m39, .ref m40, .ref m41, .ref m42, .ref m43])), (m39, .inl (cA 0, 600, .inl kf)), (m40, .inl (cA 2, 600, .inr (.inl (fun i => (xf i).toInt64)))), (m41, .inl (cA 2, 600, .inr (.inl (fun i => (yf i).toInt64)))), (m42, .inl (cA 2, 600, .inr (.inl zf))), (m43, .inl (cA 2, 600, .inr (.inl cf)))] [.ref h0, .int kd, .long x.toInt64, .long y.toInt64, .long z]) (wq_x vwCl D [(h0, .inr (7, [.int m0, .int m1, .int m2, .int m3, .int m4, .ref m5, .int m6, .int m7, .int m8, .ref m9, .ref m10, .ref m11, .int m12, .ref m13, .ref m14, .ref m15, .ref m16, .int m17, .ref m18, .ref m19, .ref m20, .ref m21, .ref m22, .ref m23, .ref m24, .ref m25, .int m26, .int m27, .int m28, .int m29, .int m30, .int m31, .ref m32, .ref m33, .ref m34, .ref m35, .int m36, .ref m37, .int (m38 + 1), .ref m39, .ref m40, .ref m41, .ref m42, .ref m43])), (m39, .inl (cA 0, 600, .inl (upd kf m38.toNatClampNeg kd))), (m40, .inl (cA 2, 600, .inr (.inl (fun i => ((upd xf m38.toNatClampNeg x) i).toInt64)))), (m41, .inl (cA 2, 600, .inr (.inl (fun i => ((upd yf m38.toNatClampNeg y) i).toInt64)))), (m42, .inl (cA 2, 600, .inr (.inl (vp_updL zf m38.toNatClampNeg z)))), (m43, .inl (cA 2, 600, .inr (.inl (vp_updL cf m38.toNatClampNeg (dg (dg (dg (dg (cho cf m38 (m38 - 1)) (kd.toInt64)) (x.toInt64)) (y.toInt64)) z)))))] (some (.long (dg (dg (dg (dg (cho cf m38 (m38 - 1)) (kd.toInt64)) (x.toInt64)) (y.toInt64)) z))) (wA [(h0, .inr (7, [.int m0, .int m1, .int m2, .int m3, .int m4, .ref m5, .int m6, .int m7, .int m8, .ref m9, .ref m10, .ref m11, .int m12, .ref m13, .ref m14, .ref m15, .ref m16, .int m17, .ref m18, .ref m19, .ref m20, .ref m21, .ref m22, .ref m23, .ref m24, .ref m25, .int m26, .int m27, .int m28, .int m29, .int m30, .int m31, .ref m32, .ref m33, .ref m34, .ref m35, .int m36, .ref m37, .int m38, .ref m39, .ref m40, .ref m41, .ref m42, .ref m43])), (m39, .inl (cA 0, 600, .inl kf)), (m40, .inl (cA 2, 600, .inr (.inl (fun i => (xf i).toInt64)))), (m41, .inl (cA 2, 600, .inr (.inl (fun i => (yf i).toInt64)))), (m42, .inl (cA 2, 600, .inr (.inl zf))), (m43, .inl (cA 2, 600, .inr (.inl cf)))])) 0 0 (wA [(h0, .inr (7, [.int m0, .int m1, .int m2, .int m3, .int m4, .ref m5, .int m6, .int m7, .int m8, .ref m9, .ref m10, .ref m11, .int m12, .ref m13, .ref m14, .ref m15, .ref m16, .int m17, .ref m18, .ref m19, .ref m20, .ref m21, .ref m22, .ref m23, .ref m24, .ref m25, .int m26, .int m27, .int m28, .int m29, .int m30, .int m31, .ref m32, .ref m33, .ref m34, .ref m35, .int m36, .ref m37, .int m38, .ref m39, .ref m40, .ref m41, .ref m42, .ref m43])), (m39, .inl (cA 0, 600, .inl kf)), (m40, .inl (cA 2, 600, .inr (.inl (fun i => (xf i).toInt64)))), (m41, .inl (cA 2, 600, .inr (.inl (fun i => (yf i).toInt64)))), (m42, .inl (cA 2, 600, .inr (.inl zf))), (m43, .inl (cA 2, 600, .inr (.inl cf)))]) := by
  refine Met.ofW (cc := cX8_enter) (maxL := 10) (ret := (some .long)) (by decide) rfl ?_
  intro p e s m args below meth c s₁ B hml hv
  obtain ⟨rfl, hP, hK, hD0⟩ := hv
  have hx := B.exec
  have hb := B.bytes
  have hr := B.returns
  have hts := atoms_spec (ws := wsX8_enter) B.pre
  have hown : s.vm.findClass RX8 = some m.cls := findClass_of_methodNamed B.named
  have hlocks := B.notSynchronized
  have hin_X8 : ∀ w ∈ wsX80, w ∈ wsX8_enter := fun w h => List.mem_cons_of_mem _ (List.mem_append_right _ h)
  have w_RX8_74 := hts (.fieldLink RX8 74 "MixElectionModel" "entryKind" "[I") (by decide +kernel)
  have w_RX8_135 := hts (.fieldLink RX8 135 "MixElectionModel" "entries" "I") (by decide +kernel)
  have w_RX8_77 := hts (.fieldLink RX8 77 "MixElectionModel" "entryX" "[J") (by decide +kernel)
  have w_RX8_81 := hts (.fieldLink RX8 81 "MixElectionModel" "entryY" "[J") (by decide +kernel)
  have w_RX8_84 := hts (.fieldLink RX8 84 "MixElectionModel" "entryZ" "[J") (by decide +kernel)
  have w_RX8_87 := hts (.fieldLink RX8 87 "MixElectionModel" "chain" "[J") (by decide +kernel)
  have hD : va_D (wA [(h0, .inr (7, [.int m0, .int m1, .int m2, .int m3, .int m4, .ref m5, .int m6, .int m7, .int m8, .ref m9, .ref m10, .ref m11, .int m12, .ref m13, .ref m14, .ref m15, .ref m16, .int m17, .ref m18, .ref m19, .ref m20, .ref m21, .ref m22, .ref m23, .ref m24, .ref m25, .int m26, .int m27, .int m28, .int m29, .int m30, .int m31, .ref m32, .ref m33, .ref m34, .ref m35, .int m36, .ref m37, .int m38, .ref m39, .ref m40, .ref m41, .ref m42, .ref m43])), (m39, .inl (cA 0, 600, .inl kf)), (m40, .inl (cA 2, 600, .inr (.inl (fun i => (xf i).toInt64)))), (m41, .inl (cA 2, 600, .inr (.inl (fun i => (yf i).toInt64)))), (m42, .inl (cA 2, 600, .inr (.inl zf))), (m43, .inl (cA 2, 600, .inr (.inl cf)))]) [(h0, .inr (7, [.int m0, .int m1, .int m2, .int m3, .int m4, .ref m5, .int m6, .int m7, .int m8, .ref m9, .ref m10, .ref m11, .int m12, .ref m13, .ref m14, .ref m15, .ref m16, .int m17, .ref m18, .ref m19, .ref m20, .ref m21, .ref m22, .ref m23, .ref m24, .ref m25, .int m26, .int m27, .int m28, .int m29, .int m30, .int m31, .ref m32, .ref m33, .ref m34, .ref m35, .int m36, .ref m37, .int m38, .ref m39, .ref m40, .ref m41, .ref m42, .ref m43])), (m39, .inl (cA 0, 600, .inl kf)), (m40, .inl (cA 2, 600, .inr (.inl (fun i => (xf i).toInt64)))), (m41, .inl (cA 2, 600, .inr (.inl (fun i => (yf i).toInt64)))), (m42, .inl (cA 2, 600, .inr (.inl zf))), (m43, .inl (cA 2, 600, .inr (.inl cf)))] := ⟨hD0.1, fun k q h => List.mem_map.mpr ⟨q, List.mem_of_getElem? h, rfl⟩⟩
  have hS : va_S (wA [(h0, .inr (7, [.int m0, .int m1, .int m2, .int m3, .int m4, .ref m5, .int m6, .int m7, .int m8, .ref m9, .ref m10, .ref m11, .int m12, .ref m13, .ref m14, .ref m15, .ref m16, .int m17, .ref m18, .ref m19, .ref m20, .ref m21, .ref m22, .ref m23, .ref m24, .ref m25, .int m26, .int m27, .int m28, .int m29, .int m30, .int m31, .ref m32, .ref m33, .ref m34, .ref m35, .int m36, .ref m37, .int m38, .ref m39, .ref m40, .ref m41, .ref m42, .ref m43])), (m39, .inl (cA 0, 600, .inl kf)), (m40, .inl (cA 2, 600, .inr (.inl (fun i => (xf i).toInt64)))), (m41, .inl (cA 2, 600, .inr (.inl (fun i => (yf i).toInt64)))), (m42, .inl (cA 2, 600, .inr (.inl zf))), (m43, .inl (cA 2, 600, .inr (.inl cf)))]) s.heap s.heap [] := va_S.rf
  generalize hAe : wA [(h0, .inr (7, [.int m0, .int m1, .int m2, .int m3, .int m4, .ref m5, .int m6, .int m7, .int m8, .ref m9, .ref m10, .ref m11, .int m12, .ref m13, .ref m14, .ref m15, .ref m16, .int m17, .ref m18, .ref m19, .ref m20, .ref m21, .ref m22, .ref m23, .ref m24, .ref m25, .int m26, .int m27, .int m28, .int m29, .int m30, .int m31, .ref m32, .ref m33, .ref m34, .ref m35, .int m36, .ref m37, .int m38, .ref m39, .ref m40, .ref m41, .ref m42, .ref m43])), (m39, .inl (cA 0, 600, .inl kf)), (m40, .inl (cA 2, 600, .inr (.inl (fun i => (xf i).toInt64)))), (m41, .inl (cA 2, 600, .inr (.inl (fun i => (yf i).toInt64)))), (m42, .inl (cA 2, 600, .inr (.inl zf))), (m43, .inl (cA 2, 600, .inr (.inl cf)))] = A at hD hS ⊢
  have hP : va_P D vwCl [(h0, .inr (7, [.int m0, .int m1, .int m2, .int m3, .int m4, .ref m5, .int m6, .int m7, .int m8, .ref m9, .ref m10, .ref m11, .int m12, .ref m13, .ref m14, .ref m15, .ref m16, .int m17, .ref m18, .ref m19, .ref m20, .ref m21, .ref m22, .ref m23, .ref m24, .ref m25, .int m26, .int m27, .int m28, .int m29, .int m30, .int m31, .ref m32, .ref m33, .ref m34, .ref m35, .int m36, .ref m37, .int m38, .ref m39, .ref m40, .ref m41, .ref m42, .ref m43])), (m39, .inl (cA 0, 600, .inl kf)), (m40, .inl (cA 2, 600, .inr (.inl (fun i => (xf i).toInt64)))), (m41, .inl (cA 2, 600, .inr (.inl (fun i => (yf i).toInt64)))), (m42, .inl (cA 2, 600, .inr (.inl zf))), (m43, .inl (cA 2, 600, .inr (.inl cf)))] s.heap := hP
  have hl := lv_entry ([.ref h0, .int kd, .long x.toInt64, .long y.toInt64, .long z]) (n := 10) (Nat.le_of_ble_eq_true rfl)
  rw [lg_entry_eq]
  generalize (lg_sl ([.ref h0, .int kd, .long x.toInt64, .long y.toInt64, .long z]) ++ List.replicate (10 - (lg_sl ([.ref h0, .int kd, .long x.toInt64, .long y.toInt64, .long z])).length) Slot.unset).toArray = ls at hl ⊢
  have hl : lv_has ls 10 [(0, .ref h0), (1, .int kd), (2, .long x.toInt64), (4, .long y.toInt64), (6, .long z)] := hl
  refine lv_aload_n hx hb dX8_enter_0 rfl (lv_at hl 0 rfl) ?_
  refine va_get (D := D) (ci := 7) (v := .ref m39) (C := RX8) (T := TX8) (N := 44) hx hb hts hin_X8 hown hK hP 0 rfl rfl 39 (by decide) (w_RX8_74) (fun _ h9 => h9) rfl dX8_enter_1 ?_
  refine lv_aload_n hx hb dX8_enter_4 rfl (lv_at hl 0 rfl) ?_
  refine va_get (D := D) (ci := 7) (v := .int m38) (C := RX8) (T := TX8) (N := 44) hx hb hts hin_X8 hown hK hP 0 rfl rfl 38 (by decide) (w_RX8_135) (fun _ h9 => h9) rfl dX8_enter_5 ?_
  refine lv_iload_n hx hb dX8_enter_8 rfl (lv_at hl 1 rfl) ?_
  refine va_iast hx hb hK hP hD hS 1 0 rfl rfl (ad_in hn h6) dX8_enter_9 (fun H locs hP hD hS => ?_)
  have hP : va_P D vwCl [(h0, .inr (7, [.int m0, .int m1, .int m2, .int m3, .int m4, .ref m5, .int m6, .int m7, .int m8, .ref m9, .ref m10, .ref m11, .int m12, .ref m13, .ref m14, .ref m15, .ref m16, .int m17, .ref m18, .ref m19, .ref m20, .ref m21, .ref m22, .ref m23, .ref m24, .ref m25, .int m26, .int m27, .int m28, .int m29, .int m30, .int m31, .ref m32, .ref m33, .ref m34, .ref m35, .int m36, .ref m37, .int m38, .ref m39, .ref m40, .ref m41, .ref m42, .ref m43])), (m39, .inl (cA 0, 600, .inl (upd kf m38.toNatClampNeg kd))), (m40, .inl (cA 2, 600, .inr (.inl (fun i => (xf i).toInt64)))), (m41, .inl (cA 2, 600, .inr (.inl (fun i => (yf i).toInt64)))), (m42, .inl (cA 2, 600, .inr (.inl zf))), (m43, .inl (cA 2, 600, .inr (.inl cf)))] H := hP
  have hD : va_D A [(h0, .inr (7, [.int m0, .int m1, .int m2, .int m3, .int m4, .ref m5, .int m6, .int m7, .int m8, .ref m9, .ref m10, .ref m11, .int m12, .ref m13, .ref m14, .ref m15, .ref m16, .int m17, .ref m18, .ref m19, .ref m20, .ref m21, .ref m22, .ref m23, .ref m24, .ref m25, .int m26, .int m27, .int m28, .int m29, .int m30, .int m31, .ref m32, .ref m33, .ref m34, .ref m35, .int m36, .ref m37, .int m38, .ref m39, .ref m40, .ref m41, .ref m42, .ref m43])), (m39, .inl (cA 0, 600, .inl (upd kf m38.toNatClampNeg kd))), (m40, .inl (cA 2, 600, .inr (.inl (fun i => (xf i).toInt64)))), (m41, .inl (cA 2, 600, .inr (.inl (fun i => (yf i).toInt64)))), (m42, .inl (cA 2, 600, .inr (.inl zf))), (m43, .inl (cA 2, 600, .inr (.inl cf)))] := hD
  refine lv_aload_n hx hb dX8_enter_10 rfl (lv_at hl 0 rfl) ?_
  refine va_get (D := D) (ci := 7) (v := .ref m40) (C := RX8) (T := TX8) (N := 44) hx hb hts hin_X8 hown hK hP 0 rfl rfl 40 (by decide) (w_RX8_77) (fun _ h9 => h9) rfl dX8_enter_11 ?_
  refine lv_aload_n hx hb dX8_enter_14 rfl (lv_at hl 0 rfl) ?_
  refine va_get (D := D) (ci := 7) (v := .int m38) (C := RX8) (T := TX8) (N := 44) hx hb hts hin_X8 hown hK hP 0 rfl rfl 38 (by decide) (w_RX8_135) (fun _ h9 => h9) rfl dX8_enter_15 ?_
  refine lv_lload_n hx hb dX8_enter_18 rfl (lv_at hl 2 rfl) ?_
  refine va_last hx hb hK hP hD hS 2 2 rfl rfl (ad_in hn h6) dX8_enter_19 (fun H locs hP hD hS => ?_)
  have hP : va_P D vwCl [(h0, .inr (7, [.int m0, .int m1, .int m2, .int m3, .int m4, .ref m5, .int m6, .int m7, .int m8, .ref m9, .ref m10, .ref m11, .int m12, .ref m13, .ref m14, .ref m15, .ref m16, .int m17, .ref m18, .ref m19, .ref m20, .ref m21, .ref m22, .ref m23, .ref m24, .ref m25, .int m26, .int m27, .int m28, .int m29, .int m30, .int m31, .ref m32, .ref m33, .ref m34, .ref m35, .int m36, .ref m37, .int m38, .ref m39, .ref m40, .ref m41, .ref m42, .ref m43])), (m39, .inl (cA 0, 600, .inl (upd kf m38.toNatClampNeg kd))), (m40, .inl (cA 2, 600, .inr (.inl (vp_updL (fun i => (xf i).toInt64) m38.toNatClampNeg x.toInt64)))), (m41, .inl (cA 2, 600, .inr (.inl (fun i => (yf i).toInt64)))), (m42, .inl (cA 2, 600, .inr (.inl zf))), (m43, .inl (cA 2, 600, .inr (.inl cf)))] H := hP
  have hD : va_D A [(h0, .inr (7, [.int m0, .int m1, .int m2, .int m3, .int m4, .ref m5, .int m6, .int m7, .int m8, .ref m9, .ref m10, .ref m11, .int m12, .ref m13, .ref m14, .ref m15, .ref m16, .int m17, .ref m18, .ref m19, .ref m20, .ref m21, .ref m22, .ref m23, .ref m24, .ref m25, .int m26, .int m27, .int m28, .int m29, .int m30, .int m31, .ref m32, .ref m33, .ref m34, .ref m35, .int m36, .ref m37, .int m38, .ref m39, .ref m40, .ref m41, .ref m42, .ref m43])), (m39, .inl (cA 0, 600, .inl (upd kf m38.toNatClampNeg kd))), (m40, .inl (cA 2, 600, .inr (.inl (vp_updL (fun i => (xf i).toInt64) m38.toNatClampNeg x.toInt64)))), (m41, .inl (cA 2, 600, .inr (.inl (fun i => (yf i).toInt64)))), (m42, .inl (cA 2, 600, .inr (.inl zf))), (m43, .inl (cA 2, 600, .inr (.inl cf)))] := hD
  refine lv_aload_n hx hb dX8_enter_20 rfl (lv_at hl 0 rfl) ?_
  refine va_get (D := D) (ci := 7) (v := .ref m41) (C := RX8) (T := TX8) (N := 44) hx hb hts hin_X8 hown hK hP 0 rfl rfl 41 (by decide) (w_RX8_81) (fun _ h9 => h9) rfl dX8_enter_21 ?_
  refine lv_aload_n hx hb dX8_enter_24 rfl (lv_at hl 0 rfl) ?_
  refine va_get (D := D) (ci := 7) (v := .int m38) (C := RX8) (T := TX8) (N := 44) hx hb hts hin_X8 hown hK hP 0 rfl rfl 38 (by decide) (w_RX8_135) (fun _ h9 => h9) rfl dX8_enter_25 ?_
  refine lv_lload hx hb dX8_enter_28 (lv_at hl 3 rfl) ?_
  refine va_last hx hb hK hP hD hS 3 2 rfl rfl (ad_in hn h6) dX8_enter_30 (fun H locs hP hD hS => ?_)
  have hP : va_P D vwCl [(h0, .inr (7, [.int m0, .int m1, .int m2, .int m3, .int m4, .ref m5, .int m6, .int m7, .int m8, .ref m9, .ref m10, .ref m11, .int m12, .ref m13, .ref m14, .ref m15, .ref m16, .int m17, .ref m18, .ref m19, .ref m20, .ref m21, .ref m22, .ref m23, .ref m24, .ref m25, .int m26, .int m27, .int m28, .int m29, .int m30, .int m31, .ref m32, .ref m33, .ref m34, .ref m35, .int m36, .ref m37, .int m38, .ref m39, .ref m40, .ref m41, .ref m42, .ref m43])), (m39, .inl (cA 0, 600, .inl (upd kf m38.toNatClampNeg kd))), (m40, .inl (cA 2, 600, .inr (.inl (vp_updL (fun i => (xf i).toInt64) m38.toNatClampNeg x.toInt64)))), (m41, .inl (cA 2, 600, .inr (.inl (vp_updL (fun i => (yf i).toInt64) m38.toNatClampNeg y.toInt64)))), (m42, .inl (cA 2, 600, .inr (.inl zf))), (m43, .inl (cA 2, 600, .inr (.inl cf)))] H := hP
  have hD : va_D A [(h0, .inr (7, [.int m0, .int m1, .int m2, .int m3, .int m4, .ref m5, .int m6, .int m7, .int m8, .ref m9, .ref m10, .ref m11, .int m12, .ref m13, .ref m14, .ref m15, .ref m16, .int m17, .ref m18, .ref m19, .ref m20, .ref m21, .ref m22, .ref m23, .ref m24, .ref m25, .int m26, .int m27, .int m28, .int m29, .int m30, .int m31, .ref m32, .ref m33, .ref m34, .ref m35, .int m36, .ref m37, .int m38, .ref m39, .ref m40, .ref m41, .ref m42, .ref m43])), (m39, .inl (cA 0, 600, .inl (upd kf m38.toNatClampNeg kd))), (m40, .inl (cA 2, 600, .inr (.inl (vp_updL (fun i => (xf i).toInt64) m38.toNatClampNeg x.toInt64)))), (m41, .inl (cA 2, 600, .inr (.inl (vp_updL (fun i => (yf i).toInt64) m38.toNatClampNeg y.toInt64)))), (m42, .inl (cA 2, 600, .inr (.inl zf))), (m43, .inl (cA 2, 600, .inr (.inl cf)))] := hD
  refine lv_aload_n hx hb dX8_enter_31 rfl (lv_at hl 0 rfl) ?_
  refine va_get (D := D) (ci := 7) (v := .ref m42) (C := RX8) (T := TX8) (N := 44) hx hb hts hin_X8 hown hK hP 0 rfl rfl 42 (by decide) (w_RX8_84) (fun _ h9 => h9) rfl dX8_enter_32 ?_
  refine lv_aload_n hx hb dX8_enter_35 rfl (lv_at hl 0 rfl) ?_
  refine va_get (D := D) (ci := 7) (v := .int m38) (C := RX8) (T := TX8) (N := 44) hx hb hts hin_X8 hown hK hP 0 rfl rfl 38 (by decide) (w_RX8_135) (fun _ h9 => h9) rfl dX8_enter_36 ?_
  refine lv_lload hx hb dX8_enter_39 (lv_at hl 4 rfl) ?_
  refine va_last hx hb hK hP hD hS 4 2 rfl rfl (ad_in hn h6) dX8_enter_41 (fun H locs hP hD hS => ?_)
  have hP : va_P D vwCl [(h0, .inr (7, [.int m0, .int m1, .int m2, .int m3, .int m4, .ref m5, .int m6, .int m7, .int m8, .ref m9, .ref m10, .ref m11, .int m12, .ref m13, .ref m14, .ref m15, .ref m16, .int m17, .ref m18, .ref m19, .ref m20, .ref m21, .ref m22, .ref m23, .ref m24, .ref m25, .int m26, .int m27, .int m28, .int m29, .int m30, .int m31, .ref m32, .ref m33, .ref m34, .ref m35, .int m36, .ref m37, .int m38, .ref m39, .ref m40, .ref m41, .ref m42, .ref m43])), (m39, .inl (cA 0, 600, .inl (upd kf m38.toNatClampNeg kd))), (m40, .inl (cA 2, 600, .inr (.inl (vp_updL (fun i => (xf i).toInt64) m38.toNatClampNeg x.toInt64)))), (m41, .inl (cA 2, 600, .inr (.inl (vp_updL (fun i => (yf i).toInt64) m38.toNatClampNeg y.toInt64)))), (m42, .inl (cA 2, 600, .inr (.inl (vp_updL zf m38.toNatClampNeg z)))), (m43, .inl (cA 2, 600, .inr (.inl cf)))] H := hP
  have hD : va_D A [(h0, .inr (7, [.int m0, .int m1, .int m2, .int m3, .int m4, .ref m5, .int m6, .int m7, .int m8, .ref m9, .ref m10, .ref m11, .int m12, .ref m13, .ref m14, .ref m15, .ref m16, .int m17, .ref m18, .ref m19, .ref m20, .ref m21, .ref m22, .ref m23, .ref m24, .ref m25, .int m26, .int m27, .int m28, .int m29, .int m30, .int m31, .ref m32, .ref m33, .ref m34, .ref m35, .int m36, .ref m37, .int m38, .ref m39, .ref m40, .ref m41, .ref m42, .ref m43])), (m39, .inl (cA 0, 600, .inl (upd kf m38.toNatClampNeg kd))), (m40, .inl (cA 2, 600, .inr (.inl (vp_updL (fun i => (xf i).toInt64) m38.toNatClampNeg x.toInt64)))), (m41, .inl (cA 2, 600, .inr (.inl (vp_updL (fun i => (yf i).toInt64) m38.toNatClampNeg y.toInt64)))), (m42, .inl (cA 2, 600, .inr (.inl (vp_updL zf m38.toNatClampNeg z)))), (m43, .inl (cA 2, 600, .inr (.inl cf)))] := hD
  refine lv_aload_n hx hb dX8_enter_42 rfl (lv_at hl 0 rfl) ?_
  refine va_get (D := D) (ci := 7) (v := .int m38) (C := RX8) (T := TX8) (N := 44) hx hb hts hin_X8 hown hK hP 0 rfl rfl 38 (by decide) (w_RX8_135) (fun _ h9 => h9) rfl dX8_enter_43 ?_
  refine lv_if_ne (tgt := 55) hx hb dX8_enter_46 (by decide) (fun c_46 => ?_) (fun c_46 => ?_)
  · skip
    refine lv_aload_n hx hb dX8_enter_55 rfl (lv_at hl 0 rfl) ?_
    refine va_get (D := D) (ci := 7) (v := .ref m43) (C := RX8) (T := TX8) (N := 44) hx hb hts hin_X8 hown hK hP 0 rfl rfl 43 (by decide) (w_RX8_87) (fun _ h9 => h9) rfl dX8_enter_56 ?_
    refine lv_aload_n hx hb dX8_enter_59 rfl (lv_at hl 0 rfl) ?_
    refine va_get (D := D) (ci := 7) (v := .int m38) (C := RX8) (T := TX8) (N := 44) hx hb hts hin_X8 hown hK hP 0 rfl rfl 38 (by decide) (w_RX8_135) (fun _ h9 => h9) rfl dX8_enter_60 ?_
    refine lv_iconst (v := 1) hx hb dX8_enter_63 (by decide) ?_
    refine lv_isub hx hb dX8_enter_64 ?_
    refine va_lald hx hb hK hP 5 2 rfl rfl (en_in hn h6 c_46) dX8_enter_65 ?_
    refine lv_topl (fun d8 e8 => ?_)
    have e9 : d8 = cho cf m38 (m38 - 1) := by rw [e8, ← ech_cho hn h6, ech, if_neg c_46]
    subst e9
    refine lv_lstore (lv' := [(8, .long (cho cf m38 (m38 - 1))), (0, .ref h0), (1, .int kd), (2, .long x.toInt64), (4, .long y.toInt64), (6, .long z)]) hx hb dX8_enter_66 hl (by decide) rfl (fun ls hl => ?_)
    refine lv_aload_n hx hb dX8_enter_68 rfl (lv_at hl 1 rfl) ?_
    refine va_get (D := D) (ci := 7) (v := .ref m43) (C := RX8) (T := TX8) (N := 44) hx hb hts hin_X8 hown hK hP 0 rfl rfl 43 (by decide) (w_RX8_87) (fun _ h9 => h9) rfl dX8_enter_69 ?_
    refine lv_aload_n hx hb dX8_enter_72 rfl (lv_at hl 1 rfl) ?_
    refine va_get (D := D) (ci := 7) (v := .int m38) (C := RX8) (T := TX8) (N := 44) hx hb hts hin_X8 hown hK hP 0 rfl rfl 38 (by decide) (w_RX8_135) (fun _ h9 => h9) rfl dX8_enter_73 ?_
    refine lv_lload hx hb dX8_enter_76 (lv_at hl 0 rfl) ?_
    refine lv_iload_n hx hb dX8_enter_78 rfl (lv_at hl 2 rfl) ?_
    refine lv_i2l hx hb dX8_enter_79 rfl ?_
    refine rq_call1 (v := .long (dg (cho cf m38 (m38 - 1)) kd.toInt64)) (rn_S (As := [.long (cho cf m38 (m38 - 1)), .long kd.toInt64]) (rest := [.int m38, .ref m43]) ⟨hx, hb, hml, hown, hts⟩ (c_X8_on l D cA (cho cf m38 (m38 - 1)) kd.toInt64) (va_cwS 2 hts gX8_enter_X8_on rfl rfl rfl (by decide +kernel) ⟨Nat.le_of_ble_eq_true rfl, Nat.le_of_ble_eq_true rfl⟩) hK hP [] rfl rfl hl.1 rfl (Nat.le_of_ble_eq_true rfl) dX8_enter_80 ⟨Nat.le_of_ble_eq_true rfl, Nat.le_of_ble_eq_true rfl⟩) ?_
    refine lv_lload_n hx hb dX8_enter_83 rfl (lv_at hl 3 rfl) ?_
    refine rq_call1 (v := .long (dg (dg (cho cf m38 (m38 - 1)) kd.toInt64) x.toInt64)) (rn_S (As := [.long (dg (cho cf m38 (m38 - 1)) kd.toInt64), .long x.toInt64]) (rest := [.int m38, .ref m43]) ⟨hx, hb, hml, hown, hts⟩ (c_X8_on l D cA (dg (cho cf m38 (m38 - 1)) kd.toInt64) x.toInt64) (va_cwS 2 hts gX8_enter_X8_on rfl rfl rfl (by decide +kernel) ⟨Nat.le_of_ble_eq_true rfl, Nat.le_of_ble_eq_true rfl⟩) hK hP [] rfl rfl hl.1 rfl (Nat.le_of_ble_eq_true rfl) dX8_enter_84 ⟨Nat.le_of_ble_eq_true rfl, Nat.le_of_ble_eq_true rfl⟩) ?_
    refine lv_lload hx hb dX8_enter_87 (lv_at hl 4 rfl) ?_
    refine rq_call1 (v := .long (dg (dg (dg (cho cf m38 (m38 - 1)) kd.toInt64) x.toInt64) y.toInt64)) (rn_S (As := [.long (dg (dg (cho cf m38 (m38 - 1)) kd.toInt64) x.toInt64), .long y.toInt64]) (rest := [.int m38, .ref m43]) ⟨hx, hb, hml, hown, hts⟩ (c_X8_on l D cA (dg (dg (cho cf m38 (m38 - 1)) kd.toInt64) x.toInt64) y.toInt64) (va_cwS 2 hts gX8_enter_X8_on rfl rfl rfl (by decide +kernel) ⟨Nat.le_of_ble_eq_true rfl, Nat.le_of_ble_eq_true rfl⟩) hK hP [] rfl rfl hl.1 rfl (Nat.le_of_ble_eq_true rfl) dX8_enter_89 ⟨Nat.le_of_ble_eq_true rfl, Nat.le_of_ble_eq_true rfl⟩) ?_
    refine lv_lload hx hb dX8_enter_92 (lv_at hl 5 rfl) ?_
    refine rq_call1 (v := .long (dg (dg (dg (dg (cho cf m38 (m38 - 1)) kd.toInt64) x.toInt64) y.toInt64) z)) (rn_S (As := [.long (dg (dg (dg (cho cf m38 (m38 - 1)) kd.toInt64) x.toInt64) y.toInt64), .long z]) (rest := [.int m38, .ref m43]) ⟨hx, hb, hml, hown, hts⟩ (c_X8_on l D cA (dg (dg (dg (cho cf m38 (m38 - 1)) kd.toInt64) x.toInt64) y.toInt64) z) (va_cwS 2 hts gX8_enter_X8_on rfl rfl rfl (by decide +kernel) ⟨Nat.le_of_ble_eq_true rfl, Nat.le_of_ble_eq_true rfl⟩) hK hP [] rfl rfl hl.1 rfl (Nat.le_of_ble_eq_true rfl) dX8_enter_94 ⟨Nat.le_of_ble_eq_true rfl, Nat.le_of_ble_eq_true rfl⟩) ?_
    refine va_last hx hb hK hP hD hS 5 2 rfl rfl (ad_in hn h6) dX8_enter_97 (fun H locs hP hD hS => ?_)
    have hP : va_P D vwCl [(h0, .inr (7, [.int m0, .int m1, .int m2, .int m3, .int m4, .ref m5, .int m6, .int m7, .int m8, .ref m9, .ref m10, .ref m11, .int m12, .ref m13, .ref m14, .ref m15, .ref m16, .int m17, .ref m18, .ref m19, .ref m20, .ref m21, .ref m22, .ref m23, .ref m24, .ref m25, .int m26, .int m27, .int m28, .int m29, .int m30, .int m31, .ref m32, .ref m33, .ref m34, .ref m35, .int m36, .ref m37, .int m38, .ref m39, .ref m40, .ref m41, .ref m42, .ref m43])), (m39, .inl (cA 0, 600, .inl (upd kf m38.toNatClampNeg kd))), (m40, .inl (cA 2, 600, .inr (.inl (vp_updL (fun i => (xf i).toInt64) m38.toNatClampNeg x.toInt64)))), (m41, .inl (cA 2, 600, .inr (.inl (vp_updL (fun i => (yf i).toInt64) m38.toNatClampNeg y.toInt64)))), (m42, .inl (cA 2, 600, .inr (.inl (vp_updL zf m38.toNatClampNeg z)))), (m43, .inl (cA 2, 600, .inr (.inl (vp_updL cf m38.toNatClampNeg (dg (dg (dg (dg (cho cf m38 (m38 - 1)) kd.toInt64) x.toInt64) y.toInt64) z)))))] H := hP
    have hD : va_D A [(h0, .inr (7, [.int m0, .int m1, .int m2, .int m3, .int m4, .ref m5, .int m6, .int m7, .int m8, .ref m9, .ref m10, .ref m11, .int m12, .ref m13, .ref m14, .ref m15, .ref m16, .int m17, .ref m18, .ref m19, .ref m20, .ref m21, .ref m22, .ref m23, .ref m24, .ref m25, .int m26, .int m27, .int m28, .int m29, .int m30, .int m31, .ref m32, .ref m33, .ref m34, .ref m35, .int m36, .ref m37, .int m38, .ref m39, .ref m40, .ref m41, .ref m42, .ref m43])), (m39, .inl (cA 0, 600, .inl (upd kf m38.toNatClampNeg kd))), (m40, .inl (cA 2, 600, .inr (.inl (vp_updL (fun i => (xf i).toInt64) m38.toNatClampNeg x.toInt64)))), (m41, .inl (cA 2, 600, .inr (.inl (vp_updL (fun i => (yf i).toInt64) m38.toNatClampNeg y.toInt64)))), (m42, .inl (cA 2, 600, .inr (.inl (vp_updL zf m38.toNatClampNeg z)))), (m43, .inl (cA 2, 600, .inr (.inl (vp_updL cf m38.toNatClampNeg (dg (dg (dg (dg (cho cf m38 (m38 - 1)) kd.toInt64) x.toInt64) y.toInt64) z)))))] := hD
    refine lv_aload_n hx hb dX8_enter_98 rfl (lv_at hl 1 rfl) ?_
    refine lv_dup hx hb dX8_enter_99 rfl ?_
    refine va_get (D := D) (ci := 7) (v := .int m38) (C := RX8) (T := TX8) (N := 44) hx hb hts hin_X8 hown hK hP 0 rfl rfl 38 (by decide) (w_RX8_135) (fun _ h9 => h9) rfl dX8_enter_100 ?_
    refine lv_iconst (v := 1) hx hb dX8_enter_103 (by decide) ?_
    refine lv_iadd hx hb dX8_enter_104 ?_
    refine va_put (D := D) (ci := 7) (v := .int (m38 + 1)) (ty := .int) (C := RX8) (T := TX8) (N := 44) hx hb hts hin_X8 tyX8 tyX8_ok nmX8 hown hK hP hD hS 0 rfl rfl 38 (by decide) (w_RX8_135) (fun _ h9 => h9) rfl (by decide +kernel) rfl rfl (Nat.le_of_ble_eq_true rfl) dX8_enter_105 (fun H locs hP hD hS => ?_)
    have hP : va_P D vwCl [(h0, .inr (7, [.int m0, .int m1, .int m2, .int m3, .int m4, .ref m5, .int m6, .int m7, .int m8, .ref m9, .ref m10, .ref m11, .int m12, .ref m13, .ref m14, .ref m15, .ref m16, .int m17, .ref m18, .ref m19, .ref m20, .ref m21, .ref m22, .ref m23, .ref m24, .ref m25, .int m26, .int m27, .int m28, .int m29, .int m30, .int m31, .ref m32, .ref m33, .ref m34, .ref m35, .int m36, .ref m37, .int (m38 + 1), .ref m39, .ref m40, .ref m41, .ref m42, .ref m43])), (m39, .inl (cA 0, 600, .inl (upd kf m38.toNatClampNeg kd))), (m40, .inl (cA 2, 600, .inr (.inl (vp_updL (fun i => (xf i).toInt64) m38.toNatClampNeg x.toInt64)))), (m41, .inl (cA 2, 600, .inr (.inl (vp_updL (fun i => (yf i).toInt64) m38.toNatClampNeg y.toInt64)))), (m42, .inl (cA 2, 600, .inr (.inl (vp_updL zf m38.toNatClampNeg z)))), (m43, .inl (cA 2, 600, .inr (.inl (vp_updL cf m38.toNatClampNeg (dg (dg (dg (dg (cho cf m38 (m38 - 1)) kd.toInt64) x.toInt64) y.toInt64) z)))))] H := hP
    have hD : va_D A [(h0, .inr (7, [.int m0, .int m1, .int m2, .int m3, .int m4, .ref m5, .int m6, .int m7, .int m8, .ref m9, .ref m10, .ref m11, .int m12, .ref m13, .ref m14, .ref m15, .ref m16, .int m17, .ref m18, .ref m19, .ref m20, .ref m21, .ref m22, .ref m23, .ref m24, .ref m25, .int m26, .int m27, .int m28, .int m29, .int m30, .int m31, .ref m32, .ref m33, .ref m34, .ref m35, .int m36, .ref m37, .int (m38 + 1), .ref m39, .ref m40, .ref m41, .ref m42, .ref m43])), (m39, .inl (cA 0, 600, .inl (upd kf m38.toNatClampNeg kd))), (m40, .inl (cA 2, 600, .inr (.inl (vp_updL (fun i => (xf i).toInt64) m38.toNatClampNeg x.toInt64)))), (m41, .inl (cA 2, 600, .inr (.inl (vp_updL (fun i => (yf i).toInt64) m38.toNatClampNeg y.toInt64)))), (m42, .inl (cA 2, 600, .inr (.inl (vp_updL zf m38.toNatClampNeg z)))), (m43, .inl (cA 2, 600, .inr (.inl (vp_updL cf m38.toNatClampNeg (dg (dg (dg (dg (cho cf m38 (m38 - 1)) kd.toInt64) x.toInt64) y.toInt64) z)))))] := hD
    refine lv_aload_n hx hb dX8_enter_108 rfl (lv_at hl 1 rfl) ?_
    refine va_get (D := D) (ci := 7) (v := .ref m43) (C := RX8) (T := TX8) (N := 44) hx hb hts hin_X8 hown hK hP 0 rfl rfl 43 (by decide) (w_RX8_87) (fun _ h9 => h9) rfl dX8_enter_109 ?_
    refine lv_aload_n hx hb dX8_enter_112 rfl (lv_at hl 1 rfl) ?_
    refine va_get (D := D) (ci := 7) (v := .int (m38 + 1)) (C := RX8) (T := TX8) (N := 44) hx hb hts hin_X8 hown hK hP 0 rfl rfl 38 (by decide) (w_RX8_135) (fun _ h9 => h9) rfl dX8_enter_113 ?_
    refine lv_iconst (v := 1) hx hb dX8_enter_116 (by decide) ?_
    refine lv_isub hx hb dX8_enter_117 ?_
    refine va_lald hx hb hK hP 5 2 rfl rfl (en_in1 hn h6) dX8_enter_118 ?_
    have hP9 : va_P D vwCl [(h0, .inr (7, [.int m0, .int m1, .int m2, .int m3, .int m4, .ref m5, .int m6, .int m7, .int m8, .ref m9, .ref m10, .ref m11, .int m12, .ref m13, .ref m14, .ref m15, .ref m16, .int m17, .ref m18, .ref m19, .ref m20, .ref m21, .ref m22, .ref m23, .ref m24, .ref m25, .int m26, .int m27, .int m28, .int m29, .int m30, .int m31, .ref m32, .ref m33, .ref m34, .ref m35, .int m36, .ref m37, .int (m38 + 1), .ref m39, .ref m40, .ref m41, .ref m42, .ref m43])), (m39, .inl (cA 0, 600, .inl (upd kf m38.toNatClampNeg kd))), (m40, .inl (cA 2, 600, .inr (.inl (fun i => ((upd xf m38.toNatClampNeg x) i).toInt64)))), (m41, .inl (cA 2, 600, .inr (.inl (fun i => ((upd yf m38.toNatClampNeg y) i).toInt64)))), (m42, .inl (cA 2, 600, .inr (.inl (vp_updL zf m38.toNatClampNeg z)))), (m43, .inl (cA 2, 600, .inr (.inl (vp_updL cf m38.toNatClampNeg (dg (dg (dg (dg (cho cf m38 (m38 - 1)) (kd.toInt64)) (x.toInt64)) (y.toInt64)) z)))))] H := (by rw [ex_upd xf m38.toNatClampNeg x, ex_upd yf m38.toNatClampNeg y]; exact hP)
    exact W.lret (v := ((vp_updL cf m38.toNatClampNeg (dg (dg (dg (dg (cho cf m38 (m38 - 1)) kd.toInt64) x.toInt64) y.toInt64) z)) ((m38 + 1) - 1).toNatClampNeg)) hx hb hr (fun t ht hW => ⟨congrArg (fun z => Outcome.returned (some (Value.long z))) (en_ret hn h6), by rw [ht]; exact hP9, hS.F ht⟩) hS.2.2 dX8_enter_119
  · skip
    refine lv_ldc2 (v := (-3750763034362895579)) hx hb hown (hts (.constantLong RX8 138 (-3750763034362895579)) (by decide +kernel)) dX8_enter_49 ?_
    refine lv_goto (tgt := 66) hx hb dX8_enter_52 (by decide) ?_
    refine lv_topl (fun d8 e8 => ?_)
    have e9 : d8 = cho cf m38 (m38 - 1) := by rw [e8, ← ech_cho hn h6, ech, if_pos c_46]
    subst e9
    refine lv_lstore (lv' := [(8, .long (cho cf m38 (m38 - 1))), (0, .ref h0), (1, .int kd), (2, .long x.toInt64), (4, .long y.toInt64), (6, .long z)]) hx hb dX8_enter_66 hl (by decide) rfl (fun ls hl => ?_)
    refine lv_aload_n hx hb dX8_enter_68 rfl (lv_at hl 1 rfl) ?_
    refine va_get (D := D) (ci := 7) (v := .ref m43) (C := RX8) (T := TX8) (N := 44) hx hb hts hin_X8 hown hK hP 0 rfl rfl 43 (by decide) (w_RX8_87) (fun _ h9 => h9) rfl dX8_enter_69 ?_
    refine lv_aload_n hx hb dX8_enter_72 rfl (lv_at hl 1 rfl) ?_
    refine va_get (D := D) (ci := 7) (v := .int m38) (C := RX8) (T := TX8) (N := 44) hx hb hts hin_X8 hown hK hP 0 rfl rfl 38 (by decide) (w_RX8_135) (fun _ h9 => h9) rfl dX8_enter_73 ?_
    refine lv_lload hx hb dX8_enter_76 (lv_at hl 0 rfl) ?_
    refine lv_iload_n hx hb dX8_enter_78 rfl (lv_at hl 2 rfl) ?_
    refine lv_i2l hx hb dX8_enter_79 rfl ?_
    refine rq_call1 (v := .long (dg (cho cf m38 (m38 - 1)) kd.toInt64)) (rn_S (As := [.long (cho cf m38 (m38 - 1)), .long kd.toInt64]) (rest := [.int m38, .ref m43]) ⟨hx, hb, hml, hown, hts⟩ (c_X8_on l D cA (cho cf m38 (m38 - 1)) kd.toInt64) (va_cwS 2 hts gX8_enter_X8_on rfl rfl rfl (by decide +kernel) ⟨Nat.le_of_ble_eq_true rfl, Nat.le_of_ble_eq_true rfl⟩) hK hP [] rfl rfl hl.1 rfl (Nat.le_of_ble_eq_true rfl) dX8_enter_80 ⟨Nat.le_of_ble_eq_true rfl, Nat.le_of_ble_eq_true rfl⟩) ?_
    refine lv_lload_n hx hb dX8_enter_83 rfl (lv_at hl 3 rfl) ?_
    refine rq_call1 (v := .long (dg (dg (cho cf m38 (m38 - 1)) kd.toInt64) x.toInt64)) (rn_S (As := [.long (dg (cho cf m38 (m38 - 1)) kd.toInt64), .long x.toInt64]) (rest := [.int m38, .ref m43]) ⟨hx, hb, hml, hown, hts⟩ (c_X8_on l D cA (dg (cho cf m38 (m38 - 1)) kd.toInt64) x.toInt64) (va_cwS 2 hts gX8_enter_X8_on rfl rfl rfl (by decide +kernel) ⟨Nat.le_of_ble_eq_true rfl, Nat.le_of_ble_eq_true rfl⟩) hK hP [] rfl rfl hl.1 rfl (Nat.le_of_ble_eq_true rfl) dX8_enter_84 ⟨Nat.le_of_ble_eq_true rfl, Nat.le_of_ble_eq_true rfl⟩) ?_
    refine lv_lload hx hb dX8_enter_87 (lv_at hl 4 rfl) ?_
    refine rq_call1 (v := .long (dg (dg (dg (cho cf m38 (m38 - 1)) kd.toInt64) x.toInt64) y.toInt64)) (rn_S (As := [.long (dg (dg (cho cf m38 (m38 - 1)) kd.toInt64) x.toInt64), .long y.toInt64]) (rest := [.int m38, .ref m43]) ⟨hx, hb, hml, hown, hts⟩ (c_X8_on l D cA (dg (dg (cho cf m38 (m38 - 1)) kd.toInt64) x.toInt64) y.toInt64) (va_cwS 2 hts gX8_enter_X8_on rfl rfl rfl (by decide +kernel) ⟨Nat.le_of_ble_eq_true rfl, Nat.le_of_ble_eq_true rfl⟩) hK hP [] rfl rfl hl.1 rfl (Nat.le_of_ble_eq_true rfl) dX8_enter_89 ⟨Nat.le_of_ble_eq_true rfl, Nat.le_of_ble_eq_true rfl⟩) ?_
    refine lv_lload hx hb dX8_enter_92 (lv_at hl 5 rfl) ?_
    refine rq_call1 (v := .long (dg (dg (dg (dg (cho cf m38 (m38 - 1)) kd.toInt64) x.toInt64) y.toInt64) z)) (rn_S (As := [.long (dg (dg (dg (cho cf m38 (m38 - 1)) kd.toInt64) x.toInt64) y.toInt64), .long z]) (rest := [.int m38, .ref m43]) ⟨hx, hb, hml, hown, hts⟩ (c_X8_on l D cA (dg (dg (dg (cho cf m38 (m38 - 1)) kd.toInt64) x.toInt64) y.toInt64) z) (va_cwS 2 hts gX8_enter_X8_on rfl rfl rfl (by decide +kernel) ⟨Nat.le_of_ble_eq_true rfl, Nat.le_of_ble_eq_true rfl⟩) hK hP [] rfl rfl hl.1 rfl (Nat.le_of_ble_eq_true rfl) dX8_enter_94 ⟨Nat.le_of_ble_eq_true rfl, Nat.le_of_ble_eq_true rfl⟩) ?_
    refine va_last hx hb hK hP hD hS 5 2 rfl rfl (ad_in hn h6) dX8_enter_97 (fun H locs hP hD hS => ?_)
    have hP : va_P D vwCl [(h0, .inr (7, [.int m0, .int m1, .int m2, .int m3, .int m4, .ref m5, .int m6, .int m7, .int m8, .ref m9, .ref m10, .ref m11, .int m12, .ref m13, .ref m14, .ref m15, .ref m16, .int m17, .ref m18, .ref m19, .ref m20, .ref m21, .ref m22, .ref m23, .ref m24, .ref m25, .int m26, .int m27, .int m28, .int m29, .int m30, .int m31, .ref m32, .ref m33, .ref m34, .ref m35, .int m36, .ref m37, .int m38, .ref m39, .ref m40, .ref m41, .ref m42, .ref m43])), (m39, .inl (cA 0, 600, .inl (upd kf m38.toNatClampNeg kd))), (m40, .inl (cA 2, 600, .inr (.inl (vp_updL (fun i => (xf i).toInt64) m38.toNatClampNeg x.toInt64)))), (m41, .inl (cA 2, 600, .inr (.inl (vp_updL (fun i => (yf i).toInt64) m38.toNatClampNeg y.toInt64)))), (m42, .inl (cA 2, 600, .inr (.inl (vp_updL zf m38.toNatClampNeg z)))), (m43, .inl (cA 2, 600, .inr (.inl (vp_updL cf m38.toNatClampNeg (dg (dg (dg (dg (cho cf m38 (m38 - 1)) kd.toInt64) x.toInt64) y.toInt64) z)))))] H := hP
    have hD : va_D A [(h0, .inr (7, [.int m0, .int m1, .int m2, .int m3, .int m4, .ref m5, .int m6, .int m7, .int m8, .ref m9, .ref m10, .ref m11, .int m12, .ref m13, .ref m14, .ref m15, .ref m16, .int m17, .ref m18, .ref m19, .ref m20, .ref m21, .ref m22, .ref m23, .ref m24, .ref m25, .int m26, .int m27, .int m28, .int m29, .int m30, .int m31, .ref m32, .ref m33, .ref m34, .ref m35, .int m36, .ref m37, .int m38, .ref m39, .ref m40, .ref m41, .ref m42, .ref m43])), (m39, .inl (cA 0, 600, .inl (upd kf m38.toNatClampNeg kd))), (m40, .inl (cA 2, 600, .inr (.inl (vp_updL (fun i => (xf i).toInt64) m38.toNatClampNeg x.toInt64)))), (m41, .inl (cA 2, 600, .inr (.inl (vp_updL (fun i => (yf i).toInt64) m38.toNatClampNeg y.toInt64)))), (m42, .inl (cA 2, 600, .inr (.inl (vp_updL zf m38.toNatClampNeg z)))), (m43, .inl (cA 2, 600, .inr (.inl (vp_updL cf m38.toNatClampNeg (dg (dg (dg (dg (cho cf m38 (m38 - 1)) kd.toInt64) x.toInt64) y.toInt64) z)))))] := hD
    refine lv_aload_n hx hb dX8_enter_98 rfl (lv_at hl 1 rfl) ?_
    refine lv_dup hx hb dX8_enter_99 rfl ?_
    refine va_get (D := D) (ci := 7) (v := .int m38) (C := RX8) (T := TX8) (N := 44) hx hb hts hin_X8 hown hK hP 0 rfl rfl 38 (by decide) (w_RX8_135) (fun _ h9 => h9) rfl dX8_enter_100 ?_
    refine lv_iconst (v := 1) hx hb dX8_enter_103 (by decide) ?_
    refine lv_iadd hx hb dX8_enter_104 ?_
    refine va_put (D := D) (ci := 7) (v := .int (m38 + 1)) (ty := .int) (C := RX8) (T := TX8) (N := 44) hx hb hts hin_X8 tyX8 tyX8_ok nmX8 hown hK hP hD hS 0 rfl rfl 38 (by decide) (w_RX8_135) (fun _ h9 => h9) rfl (by decide +kernel) rfl rfl (Nat.le_of_ble_eq_true rfl) dX8_enter_105 (fun H locs hP hD hS => ?_)
    have hP : va_P D vwCl [(h0, .inr (7, [.int m0, .int m1, .int m2, .int m3, .int m4, .ref m5, .int m6, .int m7, .int m8, .ref m9, .ref m10, .ref m11, .int m12, .ref m13, .ref m14, .ref m15, .ref m16, .int m17, .ref m18, .ref m19, .ref m20, .ref m21, .ref m22, .ref m23, .ref m24, .ref m25, .int m26, .int m27, .int m28, .int m29, .int m30, .int m31, .ref m32, .ref m33, .ref m34, .ref m35, .int m36, .ref m37, .int (m38 + 1), .ref m39, .ref m40, .ref m41, .ref m42, .ref m43])), (m39, .inl (cA 0, 600, .inl (upd kf m38.toNatClampNeg kd))), (m40, .inl (cA 2, 600, .inr (.inl (vp_updL (fun i => (xf i).toInt64) m38.toNatClampNeg x.toInt64)))), (m41, .inl (cA 2, 600, .inr (.inl (vp_updL (fun i => (yf i).toInt64) m38.toNatClampNeg y.toInt64)))), (m42, .inl (cA 2, 600, .inr (.inl (vp_updL zf m38.toNatClampNeg z)))), (m43, .inl (cA 2, 600, .inr (.inl (vp_updL cf m38.toNatClampNeg (dg (dg (dg (dg (cho cf m38 (m38 - 1)) kd.toInt64) x.toInt64) y.toInt64) z)))))] H := hP
    have hD : va_D A [(h0, .inr (7, [.int m0, .int m1, .int m2, .int m3, .int m4, .ref m5, .int m6, .int m7, .int m8, .ref m9, .ref m10, .ref m11, .int m12, .ref m13, .ref m14, .ref m15, .ref m16, .int m17, .ref m18, .ref m19, .ref m20, .ref m21, .ref m22, .ref m23, .ref m24, .ref m25, .int m26, .int m27, .int m28, .int m29, .int m30, .int m31, .ref m32, .ref m33, .ref m34, .ref m35, .int m36, .ref m37, .int (m38 + 1), .ref m39, .ref m40, .ref m41, .ref m42, .ref m43])), (m39, .inl (cA 0, 600, .inl (upd kf m38.toNatClampNeg kd))), (m40, .inl (cA 2, 600, .inr (.inl (vp_updL (fun i => (xf i).toInt64) m38.toNatClampNeg x.toInt64)))), (m41, .inl (cA 2, 600, .inr (.inl (vp_updL (fun i => (yf i).toInt64) m38.toNatClampNeg y.toInt64)))), (m42, .inl (cA 2, 600, .inr (.inl (vp_updL zf m38.toNatClampNeg z)))), (m43, .inl (cA 2, 600, .inr (.inl (vp_updL cf m38.toNatClampNeg (dg (dg (dg (dg (cho cf m38 (m38 - 1)) kd.toInt64) x.toInt64) y.toInt64) z)))))] := hD
    refine lv_aload_n hx hb dX8_enter_108 rfl (lv_at hl 1 rfl) ?_
    refine va_get (D := D) (ci := 7) (v := .ref m43) (C := RX8) (T := TX8) (N := 44) hx hb hts hin_X8 hown hK hP 0 rfl rfl 43 (by decide) (w_RX8_87) (fun _ h9 => h9) rfl dX8_enter_109 ?_
    refine lv_aload_n hx hb dX8_enter_112 rfl (lv_at hl 1 rfl) ?_
    refine va_get (D := D) (ci := 7) (v := .int (m38 + 1)) (C := RX8) (T := TX8) (N := 44) hx hb hts hin_X8 hown hK hP 0 rfl rfl 38 (by decide) (w_RX8_135) (fun _ h9 => h9) rfl dX8_enter_113 ?_
    refine lv_iconst (v := 1) hx hb dX8_enter_116 (by decide) ?_
    refine lv_isub hx hb dX8_enter_117 ?_
    refine va_lald hx hb hK hP 5 2 rfl rfl (en_in1 hn h6) dX8_enter_118 ?_
    have hP9 : va_P D vwCl [(h0, .inr (7, [.int m0, .int m1, .int m2, .int m3, .int m4, .ref m5, .int m6, .int m7, .int m8, .ref m9, .ref m10, .ref m11, .int m12, .ref m13, .ref m14, .ref m15, .ref m16, .int m17, .ref m18, .ref m19, .ref m20, .ref m21, .ref m22, .ref m23, .ref m24, .ref m25, .int m26, .int m27, .int m28, .int m29, .int m30, .int m31, .ref m32, .ref m33, .ref m34, .ref m35, .int m36, .ref m37, .int (m38 + 1), .ref m39, .ref m40, .ref m41, .ref m42, .ref m43])), (m39, .inl (cA 0, 600, .inl (upd kf m38.toNatClampNeg kd))), (m40, .inl (cA 2, 600, .inr (.inl (fun i => ((upd xf m38.toNatClampNeg x) i).toInt64)))), (m41, .inl (cA 2, 600, .inr (.inl (fun i => ((upd yf m38.toNatClampNeg y) i).toInt64)))), (m42, .inl (cA 2, 600, .inr (.inl (vp_updL zf m38.toNatClampNeg z)))), (m43, .inl (cA 2, 600, .inr (.inl (vp_updL cf m38.toNatClampNeg (dg (dg (dg (dg (cho cf m38 (m38 - 1)) (kd.toInt64)) (x.toInt64)) (y.toInt64)) z)))))] H := (by rw [ex_upd xf m38.toNatClampNeg x, ex_upd yf m38.toNatClampNeg y]; exact hP)
    exact W.lret (v := ((vp_updL cf m38.toNatClampNeg (dg (dg (dg (dg (cho cf m38 (m38 - 1)) kd.toInt64) x.toInt64) y.toInt64) z)) ((m38 + 1) - 1).toNatClampNeg)) hx hb hr (fun t ht hW => ⟨congrArg (fun z => Outcome.returned (some (Value.long z))) (en_ret hn h6), by rw [ht]; exact hP9, hS.F ht⟩) hS.2.2 dX8_enter_119

set_option maxHeartbeats 4000000 in
set_option maxRecDepth 100000 in
theorem c_X8_enter0 (l : Launch) (D : va_G) (cA : Nat → ClassId) (h0 : Nat) (m0 : Int32) (m1 : Int32) (m2 : Int32) (m3 : Int32) (m4 : Int32) (m5 : Nat) (m6 : Int32) (m7 : Int32) (m8 : Int32) (m9 : Nat) (m10 : Nat) (m11 : Nat) (m12 : Int32) (m13 : Nat) (m14 : Nat) (m15 : Nat) (m16 : Nat) (m17 : Int32) (m18 : Nat) (m19 : Nat) (m20 : Nat) (m21 : Nat) (m22 : Nat) (m23 : Nat) (m24 : Nat) (m25 : Nat) (m26 : Int32) (m27 : Int32) (m28 : Int32) (m29 : Int32) (m30 : Int32) (m31 : Int32) (m32 : Nat) (m33 : Nat) (m34 : Nat) (m35 : Nat) (m36 : Int32) (m37 : Nat) (m38 : Int32) (m39 : Nat) (m40 : Nat) (m41 : Nat) (m42 : Nat) (m43 : Nat) (kf : Nat → Int32) (xf : Nat → Int32) (yf : Nat → Int32) (zf : Nat → Int64) (cf : Nat → Int64) (kd : Int32) (x : Int32) (z : Int64) (n0 : Nat) (hn : m38 = nI n0) (h6 : n0 < 600) : Met l yX8_enter wsX8_enter ({ frames := 1, cells := 0, slots := 0, locals := 23 }) (wPc vwCl D cA [(h0, .inr (7, [.int m0, .int m1, .int m2, .int m3, .int m4, .ref m5, .int m6, .int m7, .int m8, .ref m9, .ref m10, .ref m11, .int m12, .ref m13, .ref m14, .ref m15, .ref m16, .int m17, .ref m18, .ref m19, .ref m20, .ref m21, .ref m22, .ref m23, .ref m24, .ref m25, .int m26, .int m27, .int m28, .int m29, .int m30, .int m31, .ref m32, .ref m33, .ref m34, .ref m35, .int m36, .ref m37, .int m38, .ref m39, .ref m40, .ref m41, .ref m42, .ref m43])), (m39, .inl (cA 0, 600, .inl kf)), (m40, .inl (cA 2, 600, .inr (.inl (fun i => (xf i).toInt64)))), (m41, .inl (cA 2, 600, .inr (.inl (fun i => (yf i).toInt64)))), (m42, .inl (cA 2, 600, .inr (.inl zf))), (m43, .inl (cA 2, 600, .inr (.inl cf)))] [.ref h0, .int kd, .long x.toInt64, .long 0, .long z]) (wq_x vwCl D [(h0, .inr (7, [.int m0, .int m1, .int m2, .int m3, .int m4, .ref m5, .int m6, .int m7, .int m8, .ref m9, .ref m10, .ref m11, .int m12, .ref m13, .ref m14, .ref m15, .ref m16, .int m17, .ref m18, .ref m19, .ref m20, .ref m21, .ref m22, .ref m23, .ref m24, .ref m25, .int m26, .int m27, .int m28, .int m29, .int m30, .int m31, .ref m32, .ref m33, .ref m34, .ref m35, .int m36, .ref m37, .int (m38 + 1), .ref m39, .ref m40, .ref m41, .ref m42, .ref m43])), (m39, .inl (cA 0, 600, .inl (upd kf m38.toNatClampNeg kd))), (m40, .inl (cA 2, 600, .inr (.inl (fun i => ((upd xf m38.toNatClampNeg x) i).toInt64)))), (m41, .inl (cA 2, 600, .inr (.inl (fun i => ((upd yf m38.toNatClampNeg 0) i).toInt64)))), (m42, .inl (cA 2, 600, .inr (.inl (vp_updL zf m38.toNatClampNeg z)))), (m43, .inl (cA 2, 600, .inr (.inl (vp_updL cf m38.toNatClampNeg (dg (dg (dg (dg (cho cf m38 (m38 - 1)) (kd.toInt64)) (x.toInt64)) ((0 : Int32).toInt64)) z)))))] (some (.long (dg (dg (dg (dg (cho cf m38 (m38 - 1)) (kd.toInt64)) (x.toInt64)) ((0 : Int32).toInt64)) z))) (wA [(h0, .inr (7, [.int m0, .int m1, .int m2, .int m3, .int m4, .ref m5, .int m6, .int m7, .int m8, .ref m9, .ref m10, .ref m11, .int m12, .ref m13, .ref m14, .ref m15, .ref m16, .int m17, .ref m18, .ref m19, .ref m20, .ref m21, .ref m22, .ref m23, .ref m24, .ref m25, .int m26, .int m27, .int m28, .int m29, .int m30, .int m31, .ref m32, .ref m33, .ref m34, .ref m35, .int m36, .ref m37, .int m38, .ref m39, .ref m40, .ref m41, .ref m42, .ref m43])), (m39, .inl (cA 0, 600, .inl kf)), (m40, .inl (cA 2, 600, .inr (.inl (fun i => (xf i).toInt64)))), (m41, .inl (cA 2, 600, .inr (.inl (fun i => (yf i).toInt64)))), (m42, .inl (cA 2, 600, .inr (.inl zf))), (m43, .inl (cA 2, 600, .inr (.inl cf)))])) 0 0 (wA [(h0, .inr (7, [.int m0, .int m1, .int m2, .int m3, .int m4, .ref m5, .int m6, .int m7, .int m8, .ref m9, .ref m10, .ref m11, .int m12, .ref m13, .ref m14, .ref m15, .ref m16, .int m17, .ref m18, .ref m19, .ref m20, .ref m21, .ref m22, .ref m23, .ref m24, .ref m25, .int m26, .int m27, .int m28, .int m29, .int m30, .int m31, .ref m32, .ref m33, .ref m34, .ref m35, .int m36, .ref m37, .int m38, .ref m39, .ref m40, .ref m41, .ref m42, .ref m43])), (m39, .inl (cA 0, 600, .inl kf)), (m40, .inl (cA 2, 600, .inr (.inl (fun i => (xf i).toInt64)))), (m41, .inl (cA 2, 600, .inr (.inl (fun i => (yf i).toInt64)))), (m42, .inl (cA 2, 600, .inr (.inl zf))), (m43, .inl (cA 2, 600, .inr (.inl cf)))]) := by
  refine Met.ofW (cc := cX8_enter) (maxL := 10) (ret := (some .long)) (by decide) rfl ?_
  intro p e s m args below meth c s₁ B hml hv
  obtain ⟨rfl, hP, hK, hD0⟩ := hv
  have hx := B.exec
  have hb := B.bytes
  have hr := B.returns
  have hts := atoms_spec (ws := wsX8_enter) B.pre
  have hown : s.vm.findClass RX8 = some m.cls := findClass_of_methodNamed B.named
  have hlocks := B.notSynchronized
  have hin_X8 : ∀ w ∈ wsX80, w ∈ wsX8_enter := fun w h => List.mem_cons_of_mem _ (List.mem_append_right _ h)
  have w_RX8_74 := hts (.fieldLink RX8 74 "MixElectionModel" "entryKind" "[I") (by decide +kernel)
  have w_RX8_135 := hts (.fieldLink RX8 135 "MixElectionModel" "entries" "I") (by decide +kernel)
  have w_RX8_77 := hts (.fieldLink RX8 77 "MixElectionModel" "entryX" "[J") (by decide +kernel)
  have w_RX8_81 := hts (.fieldLink RX8 81 "MixElectionModel" "entryY" "[J") (by decide +kernel)
  have w_RX8_84 := hts (.fieldLink RX8 84 "MixElectionModel" "entryZ" "[J") (by decide +kernel)
  have w_RX8_87 := hts (.fieldLink RX8 87 "MixElectionModel" "chain" "[J") (by decide +kernel)
  have hD : va_D (wA [(h0, .inr (7, [.int m0, .int m1, .int m2, .int m3, .int m4, .ref m5, .int m6, .int m7, .int m8, .ref m9, .ref m10, .ref m11, .int m12, .ref m13, .ref m14, .ref m15, .ref m16, .int m17, .ref m18, .ref m19, .ref m20, .ref m21, .ref m22, .ref m23, .ref m24, .ref m25, .int m26, .int m27, .int m28, .int m29, .int m30, .int m31, .ref m32, .ref m33, .ref m34, .ref m35, .int m36, .ref m37, .int m38, .ref m39, .ref m40, .ref m41, .ref m42, .ref m43])), (m39, .inl (cA 0, 600, .inl kf)), (m40, .inl (cA 2, 600, .inr (.inl (fun i => (xf i).toInt64)))), (m41, .inl (cA 2, 600, .inr (.inl (fun i => (yf i).toInt64)))), (m42, .inl (cA 2, 600, .inr (.inl zf))), (m43, .inl (cA 2, 600, .inr (.inl cf)))]) [(h0, .inr (7, [.int m0, .int m1, .int m2, .int m3, .int m4, .ref m5, .int m6, .int m7, .int m8, .ref m9, .ref m10, .ref m11, .int m12, .ref m13, .ref m14, .ref m15, .ref m16, .int m17, .ref m18, .ref m19, .ref m20, .ref m21, .ref m22, .ref m23, .ref m24, .ref m25, .int m26, .int m27, .int m28, .int m29, .int m30, .int m31, .ref m32, .ref m33, .ref m34, .ref m35, .int m36, .ref m37, .int m38, .ref m39, .ref m40, .ref m41, .ref m42, .ref m43])), (m39, .inl (cA 0, 600, .inl kf)), (m40, .inl (cA 2, 600, .inr (.inl (fun i => (xf i).toInt64)))), (m41, .inl (cA 2, 600, .inr (.inl (fun i => (yf i).toInt64)))), (m42, .inl (cA 2, 600, .inr (.inl zf))), (m43, .inl (cA 2, 600, .inr (.inl cf)))] := ⟨hD0.1, fun k q h => List.mem_map.mpr ⟨q, List.mem_of_getElem? h, rfl⟩⟩
  have hS : va_S (wA [(h0, .inr (7, [.int m0, .int m1, .int m2, .int m3, .int m4, .ref m5, .int m6, .int m7, .int m8, .ref m9, .ref m10, .ref m11, .int m12, .ref m13, .ref m14, .ref m15, .ref m16, .int m17, .ref m18, .ref m19, .ref m20, .ref m21, .ref m22, .ref m23, .ref m24, .ref m25, .int m26, .int m27, .int m28, .int m29, .int m30, .int m31, .ref m32, .ref m33, .ref m34, .ref m35, .int m36, .ref m37, .int m38, .ref m39, .ref m40, .ref m41, .ref m42, .ref m43])), (m39, .inl (cA 0, 600, .inl kf)), (m40, .inl (cA 2, 600, .inr (.inl (fun i => (xf i).toInt64)))), (m41, .inl (cA 2, 600, .inr (.inl (fun i => (yf i).toInt64)))), (m42, .inl (cA 2, 600, .inr (.inl zf))), (m43, .inl (cA 2, 600, .inr (.inl cf)))]) s.heap s.heap [] := va_S.rf
  generalize hAe : wA [(h0, .inr (7, [.int m0, .int m1, .int m2, .int m3, .int m4, .ref m5, .int m6, .int m7, .int m8, .ref m9, .ref m10, .ref m11, .int m12, .ref m13, .ref m14, .ref m15, .ref m16, .int m17, .ref m18, .ref m19, .ref m20, .ref m21, .ref m22, .ref m23, .ref m24, .ref m25, .int m26, .int m27, .int m28, .int m29, .int m30, .int m31, .ref m32, .ref m33, .ref m34, .ref m35, .int m36, .ref m37, .int m38, .ref m39, .ref m40, .ref m41, .ref m42, .ref m43])), (m39, .inl (cA 0, 600, .inl kf)), (m40, .inl (cA 2, 600, .inr (.inl (fun i => (xf i).toInt64)))), (m41, .inl (cA 2, 600, .inr (.inl (fun i => (yf i).toInt64)))), (m42, .inl (cA 2, 600, .inr (.inl zf))), (m43, .inl (cA 2, 600, .inr (.inl cf)))] = A at hD hS ⊢
  have hP : va_P D vwCl [(h0, .inr (7, [.int m0, .int m1, .int m2, .int m3, .int m4, .ref m5, .int m6, .int m7, .int m8, .ref m9, .ref m10, .ref m11, .int m12, .ref m13, .ref m14, .ref m15, .ref m16, .int m17, .ref m18, .ref m19, .ref m20, .ref m21, .ref m22, .ref m23, .ref m24, .ref m25, .int m26, .int m27, .int m28, .int m29, .int m30, .int m31, .ref m32, .ref m33, .ref m34, .ref m35, .int m36, .ref m37, .int m38, .ref m39, .ref m40, .ref m41, .ref m42, .ref m43])), (m39, .inl (cA 0, 600, .inl kf)), (m40, .inl (cA 2, 600, .inr (.inl (fun i => (xf i).toInt64)))), (m41, .inl (cA 2, 600, .inr (.inl (fun i => (yf i).toInt64)))), (m42, .inl (cA 2, 600, .inr (.inl zf))), (m43, .inl (cA 2, 600, .inr (.inl cf)))] s.heap := hP
  have hl := lv_entry ([.ref h0, .int kd, .long x.toInt64, .long 0, .long z]) (n := 10) (Nat.le_of_ble_eq_true rfl)
  rw [lg_entry_eq]
  generalize (lg_sl ([.ref h0, .int kd, .long x.toInt64, .long 0, .long z]) ++ List.replicate (10 - (lg_sl ([.ref h0, .int kd, .long x.toInt64, .long 0, .long z])).length) Slot.unset).toArray = ls at hl ⊢
  have hl : lv_has ls 10 [(0, .ref h0), (1, .int kd), (2, .long x.toInt64), (4, .long 0), (6, .long z)] := hl
  refine lv_aload_n hx hb dX8_enter_0 rfl (lv_at hl 0 rfl) ?_
  refine va_get (D := D) (ci := 7) (v := .ref m39) (C := RX8) (T := TX8) (N := 44) hx hb hts hin_X8 hown hK hP 0 rfl rfl 39 (by decide) (w_RX8_74) (fun _ h9 => h9) rfl dX8_enter_1 ?_
  refine lv_aload_n hx hb dX8_enter_4 rfl (lv_at hl 0 rfl) ?_
  refine va_get (D := D) (ci := 7) (v := .int m38) (C := RX8) (T := TX8) (N := 44) hx hb hts hin_X8 hown hK hP 0 rfl rfl 38 (by decide) (w_RX8_135) (fun _ h9 => h9) rfl dX8_enter_5 ?_
  refine lv_iload_n hx hb dX8_enter_8 rfl (lv_at hl 1 rfl) ?_
  refine va_iast hx hb hK hP hD hS 1 0 rfl rfl (ad_in hn h6) dX8_enter_9 (fun H locs hP hD hS => ?_)
  have hP : va_P D vwCl [(h0, .inr (7, [.int m0, .int m1, .int m2, .int m3, .int m4, .ref m5, .int m6, .int m7, .int m8, .ref m9, .ref m10, .ref m11, .int m12, .ref m13, .ref m14, .ref m15, .ref m16, .int m17, .ref m18, .ref m19, .ref m20, .ref m21, .ref m22, .ref m23, .ref m24, .ref m25, .int m26, .int m27, .int m28, .int m29, .int m30, .int m31, .ref m32, .ref m33, .ref m34, .ref m35, .int m36, .ref m37, .int m38, .ref m39, .ref m40, .ref m41, .ref m42, .ref m43])), (m39, .inl (cA 0, 600, .inl (upd kf m38.toNatClampNeg kd))), (m40, .inl (cA 2, 600, .inr (.inl (fun i => (xf i).toInt64)))), (m41, .inl (cA 2, 600, .inr (.inl (fun i => (yf i).toInt64)))), (m42, .inl (cA 2, 600, .inr (.inl zf))), (m43, .inl (cA 2, 600, .inr (.inl cf)))] H := hP
  have hD : va_D A [(h0, .inr (7, [.int m0, .int m1, .int m2, .int m3, .int m4, .ref m5, .int m6, .int m7, .int m8, .ref m9, .ref m10, .ref m11, .int m12, .ref m13, .ref m14, .ref m15, .ref m16, .int m17, .ref m18, .ref m19, .ref m20, .ref m21, .ref m22, .ref m23, .ref m24, .ref m25, .int m26, .int m27, .int m28, .int m29, .int m30, .int m31, .ref m32, .ref m33, .ref m34, .ref m35, .int m36, .ref m37, .int m38, .ref m39, .ref m40, .ref m41, .ref m42, .ref m43])), (m39, .inl (cA 0, 600, .inl (upd kf m38.toNatClampNeg kd))), (m40, .inl (cA 2, 600, .inr (.inl (fun i => (xf i).toInt64)))), (m41, .inl (cA 2, 600, .inr (.inl (fun i => (yf i).toInt64)))), (m42, .inl (cA 2, 600, .inr (.inl zf))), (m43, .inl (cA 2, 600, .inr (.inl cf)))] := hD
  refine lv_aload_n hx hb dX8_enter_10 rfl (lv_at hl 0 rfl) ?_
  refine va_get (D := D) (ci := 7) (v := .ref m40) (C := RX8) (T := TX8) (N := 44) hx hb hts hin_X8 hown hK hP 0 rfl rfl 40 (by decide) (w_RX8_77) (fun _ h9 => h9) rfl dX8_enter_11 ?_
  refine lv_aload_n hx hb dX8_enter_14 rfl (lv_at hl 0 rfl) ?_
  refine va_get (D := D) (ci := 7) (v := .int m38) (C := RX8) (T := TX8) (N := 44) hx hb hts hin_X8 hown hK hP 0 rfl rfl 38 (by decide) (w_RX8_135) (fun _ h9 => h9) rfl dX8_enter_15 ?_
  refine lv_lload_n hx hb dX8_enter_18 rfl (lv_at hl 2 rfl) ?_
  refine va_last hx hb hK hP hD hS 2 2 rfl rfl (ad_in hn h6) dX8_enter_19 (fun H locs hP hD hS => ?_)
  have hP : va_P D vwCl [(h0, .inr (7, [.int m0, .int m1, .int m2, .int m3, .int m4, .ref m5, .int m6, .int m7, .int m8, .ref m9, .ref m10, .ref m11, .int m12, .ref m13, .ref m14, .ref m15, .ref m16, .int m17, .ref m18, .ref m19, .ref m20, .ref m21, .ref m22, .ref m23, .ref m24, .ref m25, .int m26, .int m27, .int m28, .int m29, .int m30, .int m31, .ref m32, .ref m33, .ref m34, .ref m35, .int m36, .ref m37, .int m38, .ref m39, .ref m40, .ref m41, .ref m42, .ref m43])), (m39, .inl (cA 0, 600, .inl (upd kf m38.toNatClampNeg kd))), (m40, .inl (cA 2, 600, .inr (.inl (vp_updL (fun i => (xf i).toInt64) m38.toNatClampNeg x.toInt64)))), (m41, .inl (cA 2, 600, .inr (.inl (fun i => (yf i).toInt64)))), (m42, .inl (cA 2, 600, .inr (.inl zf))), (m43, .inl (cA 2, 600, .inr (.inl cf)))] H := hP
  have hD : va_D A [(h0, .inr (7, [.int m0, .int m1, .int m2, .int m3, .int m4, .ref m5, .int m6, .int m7, .int m8, .ref m9, .ref m10, .ref m11, .int m12, .ref m13, .ref m14, .ref m15, .ref m16, .int m17, .ref m18, .ref m19, .ref m20, .ref m21, .ref m22, .ref m23, .ref m24, .ref m25, .int m26, .int m27, .int m28, .int m29, .int m30, .int m31, .ref m32, .ref m33, .ref m34, .ref m35, .int m36, .ref m37, .int m38, .ref m39, .ref m40, .ref m41, .ref m42, .ref m43])), (m39, .inl (cA 0, 600, .inl (upd kf m38.toNatClampNeg kd))), (m40, .inl (cA 2, 600, .inr (.inl (vp_updL (fun i => (xf i).toInt64) m38.toNatClampNeg x.toInt64)))), (m41, .inl (cA 2, 600, .inr (.inl (fun i => (yf i).toInt64)))), (m42, .inl (cA 2, 600, .inr (.inl zf))), (m43, .inl (cA 2, 600, .inr (.inl cf)))] := hD
  refine lv_aload_n hx hb dX8_enter_20 rfl (lv_at hl 0 rfl) ?_
  refine va_get (D := D) (ci := 7) (v := .ref m41) (C := RX8) (T := TX8) (N := 44) hx hb hts hin_X8 hown hK hP 0 rfl rfl 41 (by decide) (w_RX8_81) (fun _ h9 => h9) rfl dX8_enter_21 ?_
  refine lv_aload_n hx hb dX8_enter_24 rfl (lv_at hl 0 rfl) ?_
  refine va_get (D := D) (ci := 7) (v := .int m38) (C := RX8) (T := TX8) (N := 44) hx hb hts hin_X8 hown hK hP 0 rfl rfl 38 (by decide) (w_RX8_135) (fun _ h9 => h9) rfl dX8_enter_25 ?_
  refine lv_lload hx hb dX8_enter_28 (lv_at hl 3 rfl) ?_
  refine va_last hx hb hK hP hD hS 3 2 rfl rfl (ad_in hn h6) dX8_enter_30 (fun H locs hP hD hS => ?_)
  have hP : va_P D vwCl [(h0, .inr (7, [.int m0, .int m1, .int m2, .int m3, .int m4, .ref m5, .int m6, .int m7, .int m8, .ref m9, .ref m10, .ref m11, .int m12, .ref m13, .ref m14, .ref m15, .ref m16, .int m17, .ref m18, .ref m19, .ref m20, .ref m21, .ref m22, .ref m23, .ref m24, .ref m25, .int m26, .int m27, .int m28, .int m29, .int m30, .int m31, .ref m32, .ref m33, .ref m34, .ref m35, .int m36, .ref m37, .int m38, .ref m39, .ref m40, .ref m41, .ref m42, .ref m43])), (m39, .inl (cA 0, 600, .inl (upd kf m38.toNatClampNeg kd))), (m40, .inl (cA 2, 600, .inr (.inl (vp_updL (fun i => (xf i).toInt64) m38.toNatClampNeg x.toInt64)))), (m41, .inl (cA 2, 600, .inr (.inl (vp_updL (fun i => (yf i).toInt64) m38.toNatClampNeg 0)))), (m42, .inl (cA 2, 600, .inr (.inl zf))), (m43, .inl (cA 2, 600, .inr (.inl cf)))] H := hP
  have hD : va_D A [(h0, .inr (7, [.int m0, .int m1, .int m2, .int m3, .int m4, .ref m5, .int m6, .int m7, .int m8, .ref m9, .ref m10, .ref m11, .int m12, .ref m13, .ref m14, .ref m15, .ref m16, .int m17, .ref m18, .ref m19, .ref m20, .ref m21, .ref m22, .ref m23, .ref m24, .ref m25, .int m26, .int m27, .int m28, .int m29, .int m30, .int m31, .ref m32, .ref m33, .ref m34, .ref m35, .int m36, .ref m37, .int m38, .ref m39, .ref m40, .ref m41, .ref m42, .ref m43])), (m39, .inl (cA 0, 600, .inl (upd kf m38.toNatClampNeg kd))), (m40, .inl (cA 2, 600, .inr (.inl (vp_updL (fun i => (xf i).toInt64) m38.toNatClampNeg x.toInt64)))), (m41, .inl (cA 2, 600, .inr (.inl (vp_updL (fun i => (yf i).toInt64) m38.toNatClampNeg 0)))), (m42, .inl (cA 2, 600, .inr (.inl zf))), (m43, .inl (cA 2, 600, .inr (.inl cf)))] := hD
  refine lv_aload_n hx hb dX8_enter_31 rfl (lv_at hl 0 rfl) ?_
  refine va_get (D := D) (ci := 7) (v := .ref m42) (C := RX8) (T := TX8) (N := 44) hx hb hts hin_X8 hown hK hP 0 rfl rfl 42 (by decide) (w_RX8_84) (fun _ h9 => h9) rfl dX8_enter_32 ?_
  refine lv_aload_n hx hb dX8_enter_35 rfl (lv_at hl 0 rfl) ?_
  refine va_get (D := D) (ci := 7) (v := .int m38) (C := RX8) (T := TX8) (N := 44) hx hb hts hin_X8 hown hK hP 0 rfl rfl 38 (by decide) (w_RX8_135) (fun _ h9 => h9) rfl dX8_enter_36 ?_
  refine lv_lload hx hb dX8_enter_39 (lv_at hl 4 rfl) ?_
  refine va_last hx hb hK hP hD hS 4 2 rfl rfl (ad_in hn h6) dX8_enter_41 (fun H locs hP hD hS => ?_)
  have hP : va_P D vwCl [(h0, .inr (7, [.int m0, .int m1, .int m2, .int m3, .int m4, .ref m5, .int m6, .int m7, .int m8, .ref m9, .ref m10, .ref m11, .int m12, .ref m13, .ref m14, .ref m15, .ref m16, .int m17, .ref m18, .ref m19, .ref m20, .ref m21, .ref m22, .ref m23, .ref m24, .ref m25, .int m26, .int m27, .int m28, .int m29, .int m30, .int m31, .ref m32, .ref m33, .ref m34, .ref m35, .int m36, .ref m37, .int m38, .ref m39, .ref m40, .ref m41, .ref m42, .ref m43])), (m39, .inl (cA 0, 600, .inl (upd kf m38.toNatClampNeg kd))), (m40, .inl (cA 2, 600, .inr (.inl (vp_updL (fun i => (xf i).toInt64) m38.toNatClampNeg x.toInt64)))), (m41, .inl (cA 2, 600, .inr (.inl (vp_updL (fun i => (yf i).toInt64) m38.toNatClampNeg 0)))), (m42, .inl (cA 2, 600, .inr (.inl (vp_updL zf m38.toNatClampNeg z)))), (m43, .inl (cA 2, 600, .inr (.inl cf)))] H := hP
  have hD : va_D A [(h0, .inr (7, [.int m0, .int m1, .int m2, .int m3, .int m4, .ref m5, .int m6, .int m7, .int m8, .ref m9, .ref m10, .ref m11, .int m12, .ref m13, .ref m14, .ref m15, .ref m16, .int m17, .ref m18, .ref m19, .ref m20, .ref m21, .ref m22, .ref m23, .ref m24, .ref m25, .int m26, .int m27, .int m28, .int m29, .int m30, .int m31, .ref m32, .ref m33, .ref m34, .ref m35, .int m36, .ref m37, .int m38, .ref m39, .ref m40, .ref m41, .ref m42, .ref m43])), (m39, .inl (cA 0, 600, .inl (upd kf m38.toNatClampNeg kd))), (m40, .inl (cA 2, 600, .inr (.inl (vp_updL (fun i => (xf i).toInt64) m38.toNatClampNeg x.toInt64)))), (m41, .inl (cA 2, 600, .inr (.inl (vp_updL (fun i => (yf i).toInt64) m38.toNatClampNeg 0)))), (m42, .inl (cA 2, 600, .inr (.inl (vp_updL zf m38.toNatClampNeg z)))), (m43, .inl (cA 2, 600, .inr (.inl cf)))] := hD
  refine lv_aload_n hx hb dX8_enter_42 rfl (lv_at hl 0 rfl) ?_
  refine va_get (D := D) (ci := 7) (v := .int m38) (C := RX8) (T := TX8) (N := 44) hx hb hts hin_X8 hown hK hP 0 rfl rfl 38 (by decide) (w_RX8_135) (fun _ h9 => h9) rfl dX8_enter_43 ?_
  refine lv_if_ne (tgt := 55) hx hb dX8_enter_46 (by decide) (fun c_46 => ?_) (fun c_46 => ?_)
  · skip
    refine lv_aload_n hx hb dX8_enter_55 rfl (lv_at hl 0 rfl) ?_
    refine va_get (D := D) (ci := 7) (v := .ref m43) (C := RX8) (T := TX8) (N := 44) hx hb hts hin_X8 hown hK hP 0 rfl rfl 43 (by decide) (w_RX8_87) (fun _ h9 => h9) rfl dX8_enter_56 ?_
    refine lv_aload_n hx hb dX8_enter_59 rfl (lv_at hl 0 rfl) ?_
    refine va_get (D := D) (ci := 7) (v := .int m38) (C := RX8) (T := TX8) (N := 44) hx hb hts hin_X8 hown hK hP 0 rfl rfl 38 (by decide) (w_RX8_135) (fun _ h9 => h9) rfl dX8_enter_60 ?_
    refine lv_iconst (v := 1) hx hb dX8_enter_63 (by decide) ?_
    refine lv_isub hx hb dX8_enter_64 ?_
    refine va_lald hx hb hK hP 5 2 rfl rfl (en_in hn h6 c_46) dX8_enter_65 ?_
    refine lv_topl (fun d8 e8 => ?_)
    have e9 : d8 = cho cf m38 (m38 - 1) := by rw [e8, ← ech_cho hn h6, ech, if_neg c_46]
    subst e9
    refine lv_lstore (lv' := [(8, .long (cho cf m38 (m38 - 1))), (0, .ref h0), (1, .int kd), (2, .long x.toInt64), (4, .long 0), (6, .long z)]) hx hb dX8_enter_66 hl (by decide) rfl (fun ls hl => ?_)
    refine lv_aload_n hx hb dX8_enter_68 rfl (lv_at hl 1 rfl) ?_
    refine va_get (D := D) (ci := 7) (v := .ref m43) (C := RX8) (T := TX8) (N := 44) hx hb hts hin_X8 hown hK hP 0 rfl rfl 43 (by decide) (w_RX8_87) (fun _ h9 => h9) rfl dX8_enter_69 ?_
    refine lv_aload_n hx hb dX8_enter_72 rfl (lv_at hl 1 rfl) ?_
    refine va_get (D := D) (ci := 7) (v := .int m38) (C := RX8) (T := TX8) (N := 44) hx hb hts hin_X8 hown hK hP 0 rfl rfl 38 (by decide) (w_RX8_135) (fun _ h9 => h9) rfl dX8_enter_73 ?_
    refine lv_lload hx hb dX8_enter_76 (lv_at hl 0 rfl) ?_
    refine lv_iload_n hx hb dX8_enter_78 rfl (lv_at hl 2 rfl) ?_
    refine lv_i2l hx hb dX8_enter_79 rfl ?_
    refine rq_call1 (v := .long (dg (cho cf m38 (m38 - 1)) kd.toInt64)) (rn_S (As := [.long (cho cf m38 (m38 - 1)), .long kd.toInt64]) (rest := [.int m38, .ref m43]) ⟨hx, hb, hml, hown, hts⟩ (c_X8_on l D cA (cho cf m38 (m38 - 1)) kd.toInt64) (va_cwS 2 hts gX8_enter_X8_on rfl rfl rfl (by decide +kernel) ⟨Nat.le_of_ble_eq_true rfl, Nat.le_of_ble_eq_true rfl⟩) hK hP [] rfl rfl hl.1 rfl (Nat.le_of_ble_eq_true rfl) dX8_enter_80 ⟨Nat.le_of_ble_eq_true rfl, Nat.le_of_ble_eq_true rfl⟩) ?_
    refine lv_lload_n hx hb dX8_enter_83 rfl (lv_at hl 3 rfl) ?_
    refine rq_call1 (v := .long (dg (dg (cho cf m38 (m38 - 1)) kd.toInt64) x.toInt64)) (rn_S (As := [.long (dg (cho cf m38 (m38 - 1)) kd.toInt64), .long x.toInt64]) (rest := [.int m38, .ref m43]) ⟨hx, hb, hml, hown, hts⟩ (c_X8_on l D cA (dg (cho cf m38 (m38 - 1)) kd.toInt64) x.toInt64) (va_cwS 2 hts gX8_enter_X8_on rfl rfl rfl (by decide +kernel) ⟨Nat.le_of_ble_eq_true rfl, Nat.le_of_ble_eq_true rfl⟩) hK hP [] rfl rfl hl.1 rfl (Nat.le_of_ble_eq_true rfl) dX8_enter_84 ⟨Nat.le_of_ble_eq_true rfl, Nat.le_of_ble_eq_true rfl⟩) ?_
    refine lv_lload hx hb dX8_enter_87 (lv_at hl 4 rfl) ?_
    refine rq_call1 (v := .long (dg (dg (dg (cho cf m38 (m38 - 1)) kd.toInt64) x.toInt64) 0)) (rn_S (As := [.long (dg (dg (cho cf m38 (m38 - 1)) kd.toInt64) x.toInt64), .long 0]) (rest := [.int m38, .ref m43]) ⟨hx, hb, hml, hown, hts⟩ (c_X8_on l D cA (dg (dg (cho cf m38 (m38 - 1)) kd.toInt64) x.toInt64) 0) (va_cwS 2 hts gX8_enter_X8_on rfl rfl rfl (by decide +kernel) ⟨Nat.le_of_ble_eq_true rfl, Nat.le_of_ble_eq_true rfl⟩) hK hP [] rfl rfl hl.1 rfl (Nat.le_of_ble_eq_true rfl) dX8_enter_89 ⟨Nat.le_of_ble_eq_true rfl, Nat.le_of_ble_eq_true rfl⟩) ?_
    refine lv_lload hx hb dX8_enter_92 (lv_at hl 5 rfl) ?_
    refine rq_call1 (v := .long (dg (dg (dg (dg (cho cf m38 (m38 - 1)) kd.toInt64) x.toInt64) 0) z)) (rn_S (As := [.long (dg (dg (dg (cho cf m38 (m38 - 1)) kd.toInt64) x.toInt64) 0), .long z]) (rest := [.int m38, .ref m43]) ⟨hx, hb, hml, hown, hts⟩ (c_X8_on l D cA (dg (dg (dg (cho cf m38 (m38 - 1)) kd.toInt64) x.toInt64) 0) z) (va_cwS 2 hts gX8_enter_X8_on rfl rfl rfl (by decide +kernel) ⟨Nat.le_of_ble_eq_true rfl, Nat.le_of_ble_eq_true rfl⟩) hK hP [] rfl rfl hl.1 rfl (Nat.le_of_ble_eq_true rfl) dX8_enter_94 ⟨Nat.le_of_ble_eq_true rfl, Nat.le_of_ble_eq_true rfl⟩) ?_
    refine va_last hx hb hK hP hD hS 5 2 rfl rfl (ad_in hn h6) dX8_enter_97 (fun H locs hP hD hS => ?_)
    have hP : va_P D vwCl [(h0, .inr (7, [.int m0, .int m1, .int m2, .int m3, .int m4, .ref m5, .int m6, .int m7, .int m8, .ref m9, .ref m10, .ref m11, .int m12, .ref m13, .ref m14, .ref m15, .ref m16, .int m17, .ref m18, .ref m19, .ref m20, .ref m21, .ref m22, .ref m23, .ref m24, .ref m25, .int m26, .int m27, .int m28, .int m29, .int m30, .int m31, .ref m32, .ref m33, .ref m34, .ref m35, .int m36, .ref m37, .int m38, .ref m39, .ref m40, .ref m41, .ref m42, .ref m43])), (m39, .inl (cA 0, 600, .inl (upd kf m38.toNatClampNeg kd))), (m40, .inl (cA 2, 600, .inr (.inl (vp_updL (fun i => (xf i).toInt64) m38.toNatClampNeg x.toInt64)))), (m41, .inl (cA 2, 600, .inr (.inl (vp_updL (fun i => (yf i).toInt64) m38.toNatClampNeg 0)))), (m42, .inl (cA 2, 600, .inr (.inl (vp_updL zf m38.toNatClampNeg z)))), (m43, .inl (cA 2, 600, .inr (.inl (vp_updL cf m38.toNatClampNeg (dg (dg (dg (dg (cho cf m38 (m38 - 1)) kd.toInt64) x.toInt64) 0) z)))))] H := hP
    have hD : va_D A [(h0, .inr (7, [.int m0, .int m1, .int m2, .int m3, .int m4, .ref m5, .int m6, .int m7, .int m8, .ref m9, .ref m10, .ref m11, .int m12, .ref m13, .ref m14, .ref m15, .ref m16, .int m17, .ref m18, .ref m19, .ref m20, .ref m21, .ref m22, .ref m23, .ref m24, .ref m25, .int m26, .int m27, .int m28, .int m29, .int m30, .int m31, .ref m32, .ref m33, .ref m34, .ref m35, .int m36, .ref m37, .int m38, .ref m39, .ref m40, .ref m41, .ref m42, .ref m43])), (m39, .inl (cA 0, 600, .inl (upd kf m38.toNatClampNeg kd))), (m40, .inl (cA 2, 600, .inr (.inl (vp_updL (fun i => (xf i).toInt64) m38.toNatClampNeg x.toInt64)))), (m41, .inl (cA 2, 600, .inr (.inl (vp_updL (fun i => (yf i).toInt64) m38.toNatClampNeg 0)))), (m42, .inl (cA 2, 600, .inr (.inl (vp_updL zf m38.toNatClampNeg z)))), (m43, .inl (cA 2, 600, .inr (.inl (vp_updL cf m38.toNatClampNeg (dg (dg (dg (dg (cho cf m38 (m38 - 1)) kd.toInt64) x.toInt64) 0) z)))))] := hD
    refine lv_aload_n hx hb dX8_enter_98 rfl (lv_at hl 1 rfl) ?_
    refine lv_dup hx hb dX8_enter_99 rfl ?_
    refine va_get (D := D) (ci := 7) (v := .int m38) (C := RX8) (T := TX8) (N := 44) hx hb hts hin_X8 hown hK hP 0 rfl rfl 38 (by decide) (w_RX8_135) (fun _ h9 => h9) rfl dX8_enter_100 ?_
    refine lv_iconst (v := 1) hx hb dX8_enter_103 (by decide) ?_
    refine lv_iadd hx hb dX8_enter_104 ?_
    refine va_put (D := D) (ci := 7) (v := .int (m38 + 1)) (ty := .int) (C := RX8) (T := TX8) (N := 44) hx hb hts hin_X8 tyX8 tyX8_ok nmX8 hown hK hP hD hS 0 rfl rfl 38 (by decide) (w_RX8_135) (fun _ h9 => h9) rfl (by decide +kernel) rfl rfl (Nat.le_of_ble_eq_true rfl) dX8_enter_105 (fun H locs hP hD hS => ?_)
    have hP : va_P D vwCl [(h0, .inr (7, [.int m0, .int m1, .int m2, .int m3, .int m4, .ref m5, .int m6, .int m7, .int m8, .ref m9, .ref m10, .ref m11, .int m12, .ref m13, .ref m14, .ref m15, .ref m16, .int m17, .ref m18, .ref m19, .ref m20, .ref m21, .ref m22, .ref m23, .ref m24, .ref m25, .int m26, .int m27, .int m28, .int m29, .int m30, .int m31, .ref m32, .ref m33, .ref m34, .ref m35, .int m36, .ref m37, .int (m38 + 1), .ref m39, .ref m40, .ref m41, .ref m42, .ref m43])), (m39, .inl (cA 0, 600, .inl (upd kf m38.toNatClampNeg kd))), (m40, .inl (cA 2, 600, .inr (.inl (vp_updL (fun i => (xf i).toInt64) m38.toNatClampNeg x.toInt64)))), (m41, .inl (cA 2, 600, .inr (.inl (vp_updL (fun i => (yf i).toInt64) m38.toNatClampNeg 0)))), (m42, .inl (cA 2, 600, .inr (.inl (vp_updL zf m38.toNatClampNeg z)))), (m43, .inl (cA 2, 600, .inr (.inl (vp_updL cf m38.toNatClampNeg (dg (dg (dg (dg (cho cf m38 (m38 - 1)) kd.toInt64) x.toInt64) 0) z)))))] H := hP
    have hD : va_D A [(h0, .inr (7, [.int m0, .int m1, .int m2, .int m3, .int m4, .ref m5, .int m6, .int m7, .int m8, .ref m9, .ref m10, .ref m11, .int m12, .ref m13, .ref m14, .ref m15, .ref m16, .int m17, .ref m18, .ref m19, .ref m20, .ref m21, .ref m22, .ref m23, .ref m24, .ref m25, .int m26, .int m27, .int m28, .int m29, .int m30, .int m31, .ref m32, .ref m33, .ref m34, .ref m35, .int m36, .ref m37, .int (m38 + 1), .ref m39, .ref m40, .ref m41, .ref m42, .ref m43])), (m39, .inl (cA 0, 600, .inl (upd kf m38.toNatClampNeg kd))), (m40, .inl (cA 2, 600, .inr (.inl (vp_updL (fun i => (xf i).toInt64) m38.toNatClampNeg x.toInt64)))), (m41, .inl (cA 2, 600, .inr (.inl (vp_updL (fun i => (yf i).toInt64) m38.toNatClampNeg 0)))), (m42, .inl (cA 2, 600, .inr (.inl (vp_updL zf m38.toNatClampNeg z)))), (m43, .inl (cA 2, 600, .inr (.inl (vp_updL cf m38.toNatClampNeg (dg (dg (dg (dg (cho cf m38 (m38 - 1)) kd.toInt64) x.toInt64) 0) z)))))] := hD
    refine lv_aload_n hx hb dX8_enter_108 rfl (lv_at hl 1 rfl) ?_
    refine va_get (D := D) (ci := 7) (v := .ref m43) (C := RX8) (T := TX8) (N := 44) hx hb hts hin_X8 hown hK hP 0 rfl rfl 43 (by decide) (w_RX8_87) (fun _ h9 => h9) rfl dX8_enter_109 ?_
    refine lv_aload_n hx hb dX8_enter_112 rfl (lv_at hl 1 rfl) ?_
    refine va_get (D := D) (ci := 7) (v := .int (m38 + 1)) (C := RX8) (T := TX8) (N := 44) hx hb hts hin_X8 hown hK hP 0 rfl rfl 38 (by decide) (w_RX8_135) (fun _ h9 => h9) rfl dX8_enter_113 ?_
    refine lv_iconst (v := 1) hx hb dX8_enter_116 (by decide) ?_
    refine lv_isub hx hb dX8_enter_117 ?_
    refine va_lald hx hb hK hP 5 2 rfl rfl (en_in1 hn h6) dX8_enter_118 ?_
    have hP9 : va_P D vwCl [(h0, .inr (7, [.int m0, .int m1, .int m2, .int m3, .int m4, .ref m5, .int m6, .int m7, .int m8, .ref m9, .ref m10, .ref m11, .int m12, .ref m13, .ref m14, .ref m15, .ref m16, .int m17, .ref m18, .ref m19, .ref m20, .ref m21, .ref m22, .ref m23, .ref m24, .ref m25, .int m26, .int m27, .int m28, .int m29, .int m30, .int m31, .ref m32, .ref m33, .ref m34, .ref m35, .int m36, .ref m37, .int (m38 + 1), .ref m39, .ref m40, .ref m41, .ref m42, .ref m43])), (m39, .inl (cA 0, 600, .inl (upd kf m38.toNatClampNeg kd))), (m40, .inl (cA 2, 600, .inr (.inl (fun i => ((upd xf m38.toNatClampNeg x) i).toInt64)))), (m41, .inl (cA 2, 600, .inr (.inl (fun i => ((upd yf m38.toNatClampNeg 0) i).toInt64)))), (m42, .inl (cA 2, 600, .inr (.inl (vp_updL zf m38.toNatClampNeg z)))), (m43, .inl (cA 2, 600, .inr (.inl (vp_updL cf m38.toNatClampNeg (dg (dg (dg (dg (cho cf m38 (m38 - 1)) (kd.toInt64)) (x.toInt64)) ((0 : Int32).toInt64)) z)))))] H := (by rw [ex_upd xf m38.toNatClampNeg x, ex_upd0 yf m38.toNatClampNeg]; exact hP)
    exact W.lret (v := ((vp_updL cf m38.toNatClampNeg (dg (dg (dg (dg (cho cf m38 (m38 - 1)) kd.toInt64) x.toInt64) 0) z)) ((m38 + 1) - 1).toNatClampNeg)) hx hb hr (fun t ht hW => ⟨congrArg (fun z => Outcome.returned (some (Value.long z))) (en_ret hn h6), by rw [ht]; exact hP9, hS.F ht⟩) hS.2.2 dX8_enter_119
  · skip
    refine lv_ldc2 (v := (-3750763034362895579)) hx hb hown (hts (.constantLong RX8 138 (-3750763034362895579)) (by decide +kernel)) dX8_enter_49 ?_
    refine lv_goto (tgt := 66) hx hb dX8_enter_52 (by decide) ?_
    refine lv_topl (fun d8 e8 => ?_)
    have e9 : d8 = cho cf m38 (m38 - 1) := by rw [e8, ← ech_cho hn h6, ech, if_pos c_46]
    subst e9
    refine lv_lstore (lv' := [(8, .long (cho cf m38 (m38 - 1))), (0, .ref h0), (1, .int kd), (2, .long x.toInt64), (4, .long 0), (6, .long z)]) hx hb dX8_enter_66 hl (by decide) rfl (fun ls hl => ?_)
    refine lv_aload_n hx hb dX8_enter_68 rfl (lv_at hl 1 rfl) ?_
    refine va_get (D := D) (ci := 7) (v := .ref m43) (C := RX8) (T := TX8) (N := 44) hx hb hts hin_X8 hown hK hP 0 rfl rfl 43 (by decide) (w_RX8_87) (fun _ h9 => h9) rfl dX8_enter_69 ?_
    refine lv_aload_n hx hb dX8_enter_72 rfl (lv_at hl 1 rfl) ?_
    refine va_get (D := D) (ci := 7) (v := .int m38) (C := RX8) (T := TX8) (N := 44) hx hb hts hin_X8 hown hK hP 0 rfl rfl 38 (by decide) (w_RX8_135) (fun _ h9 => h9) rfl dX8_enter_73 ?_
    refine lv_lload hx hb dX8_enter_76 (lv_at hl 0 rfl) ?_
    refine lv_iload_n hx hb dX8_enter_78 rfl (lv_at hl 2 rfl) ?_
    refine lv_i2l hx hb dX8_enter_79 rfl ?_
    refine rq_call1 (v := .long (dg (cho cf m38 (m38 - 1)) kd.toInt64)) (rn_S (As := [.long (cho cf m38 (m38 - 1)), .long kd.toInt64]) (rest := [.int m38, .ref m43]) ⟨hx, hb, hml, hown, hts⟩ (c_X8_on l D cA (cho cf m38 (m38 - 1)) kd.toInt64) (va_cwS 2 hts gX8_enter_X8_on rfl rfl rfl (by decide +kernel) ⟨Nat.le_of_ble_eq_true rfl, Nat.le_of_ble_eq_true rfl⟩) hK hP [] rfl rfl hl.1 rfl (Nat.le_of_ble_eq_true rfl) dX8_enter_80 ⟨Nat.le_of_ble_eq_true rfl, Nat.le_of_ble_eq_true rfl⟩) ?_
    refine lv_lload_n hx hb dX8_enter_83 rfl (lv_at hl 3 rfl) ?_
    refine rq_call1 (v := .long (dg (dg (cho cf m38 (m38 - 1)) kd.toInt64) x.toInt64)) (rn_S (As := [.long (dg (cho cf m38 (m38 - 1)) kd.toInt64), .long x.toInt64]) (rest := [.int m38, .ref m43]) ⟨hx, hb, hml, hown, hts⟩ (c_X8_on l D cA (dg (cho cf m38 (m38 - 1)) kd.toInt64) x.toInt64) (va_cwS 2 hts gX8_enter_X8_on rfl rfl rfl (by decide +kernel) ⟨Nat.le_of_ble_eq_true rfl, Nat.le_of_ble_eq_true rfl⟩) hK hP [] rfl rfl hl.1 rfl (Nat.le_of_ble_eq_true rfl) dX8_enter_84 ⟨Nat.le_of_ble_eq_true rfl, Nat.le_of_ble_eq_true rfl⟩) ?_
    refine lv_lload hx hb dX8_enter_87 (lv_at hl 4 rfl) ?_
    refine rq_call1 (v := .long (dg (dg (dg (cho cf m38 (m38 - 1)) kd.toInt64) x.toInt64) 0)) (rn_S (As := [.long (dg (dg (cho cf m38 (m38 - 1)) kd.toInt64) x.toInt64), .long 0]) (rest := [.int m38, .ref m43]) ⟨hx, hb, hml, hown, hts⟩ (c_X8_on l D cA (dg (dg (cho cf m38 (m38 - 1)) kd.toInt64) x.toInt64) 0) (va_cwS 2 hts gX8_enter_X8_on rfl rfl rfl (by decide +kernel) ⟨Nat.le_of_ble_eq_true rfl, Nat.le_of_ble_eq_true rfl⟩) hK hP [] rfl rfl hl.1 rfl (Nat.le_of_ble_eq_true rfl) dX8_enter_89 ⟨Nat.le_of_ble_eq_true rfl, Nat.le_of_ble_eq_true rfl⟩) ?_
    refine lv_lload hx hb dX8_enter_92 (lv_at hl 5 rfl) ?_
    refine rq_call1 (v := .long (dg (dg (dg (dg (cho cf m38 (m38 - 1)) kd.toInt64) x.toInt64) 0) z)) (rn_S (As := [.long (dg (dg (dg (cho cf m38 (m38 - 1)) kd.toInt64) x.toInt64) 0), .long z]) (rest := [.int m38, .ref m43]) ⟨hx, hb, hml, hown, hts⟩ (c_X8_on l D cA (dg (dg (dg (cho cf m38 (m38 - 1)) kd.toInt64) x.toInt64) 0) z) (va_cwS 2 hts gX8_enter_X8_on rfl rfl rfl (by decide +kernel) ⟨Nat.le_of_ble_eq_true rfl, Nat.le_of_ble_eq_true rfl⟩) hK hP [] rfl rfl hl.1 rfl (Nat.le_of_ble_eq_true rfl) dX8_enter_94 ⟨Nat.le_of_ble_eq_true rfl, Nat.le_of_ble_eq_true rfl⟩) ?_
    refine va_last hx hb hK hP hD hS 5 2 rfl rfl (ad_in hn h6) dX8_enter_97 (fun H locs hP hD hS => ?_)
    have hP : va_P D vwCl [(h0, .inr (7, [.int m0, .int m1, .int m2, .int m3, .int m4, .ref m5, .int m6, .int m7, .int m8, .ref m9, .ref m10, .ref m11, .int m12, .ref m13, .ref m14, .ref m15, .ref m16, .int m17, .ref m18, .ref m19, .ref m20, .ref m21, .ref m22, .ref m23, .ref m24, .ref m25, .int m26, .int m27, .int m28, .int m29, .int m30, .int m31, .ref m32, .ref m33, .ref m34, .ref m35, .int m36, .ref m37, .int m38, .ref m39, .ref m40, .ref m41, .ref m42, .ref m43])), (m39, .inl (cA 0, 600, .inl (upd kf m38.toNatClampNeg kd))), (m40, .inl (cA 2, 600, .inr (.inl (vp_updL (fun i => (xf i).toInt64) m38.toNatClampNeg x.toInt64)))), (m41, .inl (cA 2, 600, .inr (.inl (vp_updL (fun i => (yf i).toInt64) m38.toNatClampNeg 0)))), (m42, .inl (cA 2, 600, .inr (.inl (vp_updL zf m38.toNatClampNeg z)))), (m43, .inl (cA 2, 600, .inr (.inl (vp_updL cf m38.toNatClampNeg (dg (dg (dg (dg (cho cf m38 (m38 - 1)) kd.toInt64) x.toInt64) 0) z)))))] H := hP
    have hD : va_D A [(h0, .inr (7, [.int m0, .int m1, .int m2, .int m3, .int m4, .ref m5, .int m6, .int m7, .int m8, .ref m9, .ref m10, .ref m11, .int m12, .ref m13, .ref m14, .ref m15, .ref m16, .int m17, .ref m18, .ref m19, .ref m20, .ref m21, .ref m22, .ref m23, .ref m24, .ref m25, .int m26, .int m27, .int m28, .int m29, .int m30, .int m31, .ref m32, .ref m33, .ref m34, .ref m35, .int m36, .ref m37, .int m38, .ref m39, .ref m40, .ref m41, .ref m42, .ref m43])), (m39, .inl (cA 0, 600, .inl (upd kf m38.toNatClampNeg kd))), (m40, .inl (cA 2, 600, .inr (.inl (vp_updL (fun i => (xf i).toInt64) m38.toNatClampNeg x.toInt64)))), (m41, .inl (cA 2, 600, .inr (.inl (vp_updL (fun i => (yf i).toInt64) m38.toNatClampNeg 0)))), (m42, .inl (cA 2, 600, .inr (.inl (vp_updL zf m38.toNatClampNeg z)))), (m43, .inl (cA 2, 600, .inr (.inl (vp_updL cf m38.toNatClampNeg (dg (dg (dg (dg (cho cf m38 (m38 - 1)) kd.toInt64) x.toInt64) 0) z)))))] := hD
    refine lv_aload_n hx hb dX8_enter_98 rfl (lv_at hl 1 rfl) ?_
    refine lv_dup hx hb dX8_enter_99 rfl ?_
    refine va_get (D := D) (ci := 7) (v := .int m38) (C := RX8) (T := TX8) (N := 44) hx hb hts hin_X8 hown hK hP 0 rfl rfl 38 (by decide) (w_RX8_135) (fun _ h9 => h9) rfl dX8_enter_100 ?_
    refine lv_iconst (v := 1) hx hb dX8_enter_103 (by decide) ?_
    refine lv_iadd hx hb dX8_enter_104 ?_
    refine va_put (D := D) (ci := 7) (v := .int (m38 + 1)) (ty := .int) (C := RX8) (T := TX8) (N := 44) hx hb hts hin_X8 tyX8 tyX8_ok nmX8 hown hK hP hD hS 0 rfl rfl 38 (by decide) (w_RX8_135) (fun _ h9 => h9) rfl (by decide +kernel) rfl rfl (Nat.le_of_ble_eq_true rfl) dX8_enter_105 (fun H locs hP hD hS => ?_)
    have hP : va_P D vwCl [(h0, .inr (7, [.int m0, .int m1, .int m2, .int m3, .int m4, .ref m5, .int m6, .int m7, .int m8, .ref m9, .ref m10, .ref m11, .int m12, .ref m13, .ref m14, .ref m15, .ref m16, .int m17, .ref m18, .ref m19, .ref m20, .ref m21, .ref m22, .ref m23, .ref m24, .ref m25, .int m26, .int m27, .int m28, .int m29, .int m30, .int m31, .ref m32, .ref m33, .ref m34, .ref m35, .int m36, .ref m37, .int (m38 + 1), .ref m39, .ref m40, .ref m41, .ref m42, .ref m43])), (m39, .inl (cA 0, 600, .inl (upd kf m38.toNatClampNeg kd))), (m40, .inl (cA 2, 600, .inr (.inl (vp_updL (fun i => (xf i).toInt64) m38.toNatClampNeg x.toInt64)))), (m41, .inl (cA 2, 600, .inr (.inl (vp_updL (fun i => (yf i).toInt64) m38.toNatClampNeg 0)))), (m42, .inl (cA 2, 600, .inr (.inl (vp_updL zf m38.toNatClampNeg z)))), (m43, .inl (cA 2, 600, .inr (.inl (vp_updL cf m38.toNatClampNeg (dg (dg (dg (dg (cho cf m38 (m38 - 1)) kd.toInt64) x.toInt64) 0) z)))))] H := hP
    have hD : va_D A [(h0, .inr (7, [.int m0, .int m1, .int m2, .int m3, .int m4, .ref m5, .int m6, .int m7, .int m8, .ref m9, .ref m10, .ref m11, .int m12, .ref m13, .ref m14, .ref m15, .ref m16, .int m17, .ref m18, .ref m19, .ref m20, .ref m21, .ref m22, .ref m23, .ref m24, .ref m25, .int m26, .int m27, .int m28, .int m29, .int m30, .int m31, .ref m32, .ref m33, .ref m34, .ref m35, .int m36, .ref m37, .int (m38 + 1), .ref m39, .ref m40, .ref m41, .ref m42, .ref m43])), (m39, .inl (cA 0, 600, .inl (upd kf m38.toNatClampNeg kd))), (m40, .inl (cA 2, 600, .inr (.inl (vp_updL (fun i => (xf i).toInt64) m38.toNatClampNeg x.toInt64)))), (m41, .inl (cA 2, 600, .inr (.inl (vp_updL (fun i => (yf i).toInt64) m38.toNatClampNeg 0)))), (m42, .inl (cA 2, 600, .inr (.inl (vp_updL zf m38.toNatClampNeg z)))), (m43, .inl (cA 2, 600, .inr (.inl (vp_updL cf m38.toNatClampNeg (dg (dg (dg (dg (cho cf m38 (m38 - 1)) kd.toInt64) x.toInt64) 0) z)))))] := hD
    refine lv_aload_n hx hb dX8_enter_108 rfl (lv_at hl 1 rfl) ?_
    refine va_get (D := D) (ci := 7) (v := .ref m43) (C := RX8) (T := TX8) (N := 44) hx hb hts hin_X8 hown hK hP 0 rfl rfl 43 (by decide) (w_RX8_87) (fun _ h9 => h9) rfl dX8_enter_109 ?_
    refine lv_aload_n hx hb dX8_enter_112 rfl (lv_at hl 1 rfl) ?_
    refine va_get (D := D) (ci := 7) (v := .int (m38 + 1)) (C := RX8) (T := TX8) (N := 44) hx hb hts hin_X8 hown hK hP 0 rfl rfl 38 (by decide) (w_RX8_135) (fun _ h9 => h9) rfl dX8_enter_113 ?_
    refine lv_iconst (v := 1) hx hb dX8_enter_116 (by decide) ?_
    refine lv_isub hx hb dX8_enter_117 ?_
    refine va_lald hx hb hK hP 5 2 rfl rfl (en_in1 hn h6) dX8_enter_118 ?_
    have hP9 : va_P D vwCl [(h0, .inr (7, [.int m0, .int m1, .int m2, .int m3, .int m4, .ref m5, .int m6, .int m7, .int m8, .ref m9, .ref m10, .ref m11, .int m12, .ref m13, .ref m14, .ref m15, .ref m16, .int m17, .ref m18, .ref m19, .ref m20, .ref m21, .ref m22, .ref m23, .ref m24, .ref m25, .int m26, .int m27, .int m28, .int m29, .int m30, .int m31, .ref m32, .ref m33, .ref m34, .ref m35, .int m36, .ref m37, .int (m38 + 1), .ref m39, .ref m40, .ref m41, .ref m42, .ref m43])), (m39, .inl (cA 0, 600, .inl (upd kf m38.toNatClampNeg kd))), (m40, .inl (cA 2, 600, .inr (.inl (fun i => ((upd xf m38.toNatClampNeg x) i).toInt64)))), (m41, .inl (cA 2, 600, .inr (.inl (fun i => ((upd yf m38.toNatClampNeg 0) i).toInt64)))), (m42, .inl (cA 2, 600, .inr (.inl (vp_updL zf m38.toNatClampNeg z)))), (m43, .inl (cA 2, 600, .inr (.inl (vp_updL cf m38.toNatClampNeg (dg (dg (dg (dg (cho cf m38 (m38 - 1)) (kd.toInt64)) (x.toInt64)) ((0 : Int32).toInt64)) z)))))] H := (by rw [ex_upd xf m38.toNatClampNeg x, ex_upd0 yf m38.toNatClampNeg]; exact hP)
    exact W.lret (v := ((vp_updL cf m38.toNatClampNeg (dg (dg (dg (dg (cho cf m38 (m38 - 1)) kd.toInt64) x.toInt64) 0) z)) ((m38 + 1) - 1).toNatClampNeg)) hx hb hr (fun t ht hW => ⟨congrArg (fun z => Outcome.returned (some (Value.long z))) (en_ret hn h6), by rw [ht]; exact hP9, hS.F ht⟩) hS.2.2 dX8_enter_119

set_option maxHeartbeats 4000000 in
set_option maxRecDepth 100000 in
theorem c_X8_secret_no (l : Launch) (D : va_G) (cA : Nat → ClassId) (h0 : Nat) (m0 : Int32) (m1 : Int32) (m2 : Int32) (m3 : Int32) (m4 : Int32) (m5 : Nat) (m6 : Int32) (m7 : Int32) (m8 : Int32) (m9 : Nat) (m10 : Nat) (m11 : Nat) (m12 : Int32) (m13 : Nat) (m14 : Nat) (m15 : Nat) (m16 : Nat) (m17 : Int32) (m18 : Nat) (m19 : Nat) (m20 : Nat) (m21 : Nat) (m22 : Nat) (m23 : Nat) (m24 : Nat) (m25 : Nat) (m26 : Int32) (m27 : Int32) (m28 : Int32) (m29 : Int32) (m30 : Int32) (m31 : Int32) (m32 : Nat) (m33 : Nat) (m34 : Nat) (m35 : Nat) (m36 : Int32) (m37 : Nat) (m38 : Int32) (m39 : Nat) (m40 : Nat) (m41 : Nat) (m42 : Nat) (m43 : Nat) (i : Int32) (v : Int32) (k0 : Nat) (q0 : Nat) (htk : m4 = nI k0) (hk1 : 1 ≤ k0 ∧ k0 ≤ 5) (hgq : m1 = nI q0) (hq1 : 1 ≤ q0 ∧ q0 < 1000000) (hno : ¬ (m6 = 0 ∧ scC i v m4 m1)) : Met l yX8_secret wsX8_secret ({ frames := 2, cells := 0, slots := 0, locals := 43 }) (rPc vwCl D cA [(h0, .inr (7, [.int m0, .int m1, .int m2, .int m3, .int m4, .ref m5, .int m6, .int m7, .int m8, .ref m9, .ref m10, .ref m11, .int m12, .ref m13, .ref m14, .ref m15, .ref m16, .int m17, .ref m18, .ref m19, .ref m20, .ref m21, .ref m22, .ref m23, .ref m24, .ref m25, .int m26, .int m27, .int m28, .int m29, .int m30, .int m31, .ref m32, .ref m33, .ref m34, .ref m35, .int m36, .ref m37, .int m38, .ref m39, .ref m40, .ref m41, .ref m42, .ref m43]))] [.ref h0, .int i, .int v]) (rq_x (some (.int 0))) 0 0 (fun _ => False) := by
  refine Met.ofW (cc := cX8_secret) (maxL := 3) (ret := (some .boolean)) (by decide) rfl ?_
  intro p e s m args below meth c s₁ B hml hv
  obtain ⟨rfl, hP, hK⟩ := hv
  have hx := B.exec
  have hb := B.bytes
  have hr := B.returns
  have hts := atoms_spec (ws := wsX8_secret) B.pre
  have hown : s.vm.findClass RX8 = some m.cls := findClass_of_methodNamed B.named
  have hlocks := B.notSynchronized
  have hin_X8 : ∀ w ∈ wsX80, w ∈ wsX8_secret := fun w h => List.mem_cons_of_mem _ (List.mem_append_right _ h)
  have w_RX8_140 := hts (.fieldLink RX8 140 "MixElectionModel" "stage" "I") (by decide +kernel)
  have w_RX8_112 := hts (.fieldLink RX8 112 "MixElectionModel" "threshold" "I") (by decide +kernel)
  have hl := lv_entry ([.ref h0, .int i, .int v]) (n := 3) (Nat.le_of_ble_eq_true rfl)
  rw [lg_entry_eq]
  generalize (lg_sl ([.ref h0, .int i, .int v]) ++ List.replicate (3 - (lg_sl ([.ref h0, .int i, .int v])).length) Slot.unset).toArray = ls at hl ⊢
  have hl : lv_has ls 3 [(0, .ref h0), (1, .int i), (2, .int v)] := hl
  refine lv_aload_n hx hb dX8_secret_0 rfl (lv_at hl 0 rfl) ?_
  refine va_get (D := D) (ci := 7) (v := .int m6) (C := RX8) (T := TX8) (N := 44) hx hb hts hin_X8 hown hK hP 0 rfl rfl 6 (by decide) (w_RX8_140) (fun _ h9 => h9) rfl dX8_secret_1 ?_
  refine lv_if_ne (tgt := 37) hx hb dX8_secret_4 (by decide) (fun c_4 => ?_) (fun c_4 => ?_)
  · skip
    refine lv_iconst (v := 0) hx hb dX8_secret_37 (by decide) ?_
    exact W.zret (v := 0) hx hb hr rfl (fun t ht hW => ⟨congrArg (fun z => Outcome.returned (some (Value.int z))) (rfl), ht⟩) (fun _ h => by cases h) dX8_secret_38
  · skip
    refine lv_iload_n hx hb dX8_secret_7 rfl (lv_at hl 1 rfl) ?_
    refine lv_iconst (v := 0) hx hb dX8_secret_8 (by decide) ?_
    refine lv_aload_n hx hb dX8_secret_9 rfl (lv_at hl 0 rfl) ?_
    refine va_get (D := D) (ci := 7) (v := .int m4) (C := RX8) (T := TX8) (N := 44) hx hb hts hin_X8 hown hK hP 0 rfl rfl 4 (by decide) (w_RX8_112) (fun _ h9 => h9) rfl dX8_secret_10 ?_
    refine lv_iconst (v := 1) hx hb dX8_secret_13 (by decide) ?_
    refine lv_isub hx hb dX8_secret_14 ?_
    refine rq_call1 (v := .int (bI (0 ≤ i ∧ i ≤ (m4 - 1)))) (rn_S (As := [.int i, .int 0, .int (m4 - 1)]) (rest := []) ⟨hx, hb, hml, hown, hts⟩ (c_X8_in l D cA i 0 (m4 - 1)) (va_cwS 3 hts gX8_secret_X8_in rfl rfl rfl (by decide +kernel) ⟨Nat.le_of_ble_eq_true rfl, Nat.le_of_ble_eq_true rfl⟩) hK hP [] rfl rfl hl.1 rfl (Nat.le_of_ble_eq_true rfl) dX8_secret_15 ⟨Nat.le_of_ble_eq_true rfl, Nat.le_of_ble_eq_true rfl⟩) ?_
    refine lv_if_eq (tgt := 37) hx hb dX8_secret_18 (by decide) (fun c_18 => ?_) (fun c_18 => ?_)
    · skip
      refine lv_iconst (v := 0) hx hb dX8_secret_37 (by decide) ?_
      exact W.zret (v := 0) hx hb hr rfl (fun t ht hW => ⟨congrArg (fun z => Outcome.returned (some (Value.int z))) (rfl), ht⟩) (fun _ h => by cases h) dX8_secret_38
    · skip
      refine lv_aload_n hx hb dX8_secret_21 rfl (lv_at hl 0 rfl) ?_
      refine lv_iload_n hx hb dX8_secret_22 rfl (lv_at hl 2 rfl) ?_
      refine rq_call1 (v := .int (bI (0 ≤ v ∧ v < m1))) (rn_V (As := [.int v]) (rest := []) (ci := 7) (fs := [.int m0, .int m1, .int m2, .int m3, .int m4, .ref m5, .int m6, .int m7, .int m8, .ref m9, .ref m10, .ref m11, .int m12, .ref m13, .ref m14, .ref m15, .ref m16, .int m17, .ref m18, .ref m19, .ref m20, .ref m21, .ref m22, .ref m23, .ref m24, .ref m25, .int m26, .int m27, .int m28, .int m29, .int m30, .int m31, .ref m32, .ref m33, .ref m34, .ref m35, .int m36, .ref m37, .int m38, .ref m39, .ref m40, .ref m41, .ref m42, .ref m43]) ⟨hx, hb, hml, hown, hts⟩ (c_X8_isExponent l D cA h0 m0 m1 m2 m3 m4 m5 m6 m7 m8 m9 m10 m11 m12 m13 m14 m15 m16 m17 m18 m19 m20 m21 m22 m23 m24 m25 m26 m27 m28 m29 m30 m31 m32 m33 m34 m35 m36 m37 m38 m39 m40 m41 m42 m43 v q0 hgq hq1) rfl (cwV 1 hts gX8_secret_X8_isExponent rfl rfl rfl (by decide +kernel) ⟨Nat.le_of_ble_eq_true rfl, Nat.le_of_ble_eq_true rfl⟩) hK hP [0] rfl rfl rfl hl.1 rfl (Nat.le_of_ble_eq_true rfl) dX8_secret_23 ⟨Nat.le_of_ble_eq_true rfl, Nat.le_of_ble_eq_true rfl⟩) ?_
      refine lv_if_eq (tgt := 37) hx hb dX8_secret_26 (by decide) (fun c_26 => ?_) (fun c_26 => ?_)
      · skip
        refine lv_iconst (v := 0) hx hb dX8_secret_37 (by decide) ?_
        exact W.zret (v := 0) hx hb hr rfl (fun t ht hW => ⟨congrArg (fun z => Outcome.returned (some (Value.int z))) (rfl), ht⟩) (fun _ h => by cases h) dX8_secret_38
      · skip
        refine lv_iload_n hx hb dX8_secret_29 rfl (lv_at hl 1 rfl) ?_
        refine lv_if_ne (tgt := 39) hx hb dX8_secret_30 (by decide) (fun c_30 => ?_) (fun c_30 => ?_)
        · skip
          exact absurd ⟨c_4, (bI_1 c_18).1, (le_1 htk (by omega) (by omega)).mp (bI_1 c_18).2, bI_1 c_26, fun h => c_30 h.1⟩ hno
        · skip
          refine lv_iload_n hx hb dX8_secret_33 rfl (lv_at hl 2 rfl) ?_
          refine lv_if_ne (tgt := 39) hx hb dX8_secret_34 (by decide) (fun c_34 => ?_) (fun c_34 => ?_)
          · skip
            exact absurd ⟨c_4, (bI_1 c_18).1, (le_1 htk (by omega) (by omega)).mp (bI_1 c_18).2, bI_1 c_26, fun h => c_34 h.2⟩ hno
          · skip
            refine lv_iconst (v := 0) hx hb dX8_secret_37 (by decide) ?_
            exact W.zret (v := 0) hx hb hr rfl (fun t ht hW => ⟨congrArg (fun z => Outcome.returned (some (Value.int z))) (rfl), ht⟩) (fun _ h => by cases h) dX8_secret_38

set_option maxHeartbeats 4000000 in
set_option maxRecDepth 100000 in
theorem c_X8_secret_ok (l : Launch) (D : va_G) (cA : Nat → ClassId) (h0 : Nat) (m0 : Int32) (m1 : Int32) (m2 : Int32) (m3 : Int32) (m4 : Int32) (m5 : Nat) (m6 : Int32) (m7 : Int32) (m8 : Int32) (m9 : Nat) (m10 : Nat) (m11 : Nat) (m12 : Int32) (m13 : Nat) (m14 : Nat) (m15 : Nat) (m16 : Nat) (m17 : Int32) (m18 : Nat) (m19 : Nat) (m20 : Nat) (m21 : Nat) (m22 : Nat) (m23 : Nat) (m24 : Nat) (m25 : Nat) (m26 : Int32) (m27 : Int32) (m28 : Int32) (m29 : Int32) (m30 : Int32) (m31 : Int32) (m32 : Nat) (m33 : Nat) (m34 : Nat) (m35 : Nat) (m36 : Int32) (m37 : Nat) (m38 : Int32) (m39 : Nat) (m40 : Nat) (m41 : Nat) (m42 : Nat) (m43 : Nat) (i : Int32) (v : Int32) (k0 : Nat) (q0 : Nat) (sf : Nat → Int32) (htk : m4 = nI k0) (hk1 : 1 ≤ k0 ∧ k0 ≤ 5) (hgq : m1 = nI q0) (hq1 : 1 ≤ q0 ∧ q0 < 1000000) (hok : m6 = 0 ∧ scC i v m4 m1) : Met l yX8_secret wsX8_secret ({ frames := 2, cells := 0, slots := 0, locals := 43 }) (wPc vwCl D cA [(h0, .inr (7, [.int m0, .int m1, .int m2, .int m3, .int m4, .ref m5, .int m6, .int m7, .int m8, .ref m9, .ref m10, .ref m11, .int m12, .ref m13, .ref m14, .ref m15, .ref m16, .int m17, .ref m18, .ref m19, .ref m20, .ref m21, .ref m22, .ref m23, .ref m24, .ref m25, .int m26, .int m27, .int m28, .int m29, .int m30, .int m31, .ref m32, .ref m33, .ref m34, .ref m35, .int m36, .ref m37, .int m38, .ref m39, .ref m40, .ref m41, .ref m42, .ref m43])), (m5, .inl (cA 0, 5, .inl sf))] [.ref h0, .int i, .int v]) (wq_x vwCl D [(h0, .inr (7, [.int m0, .int m1, .int m2, .int m3, .int m4, .ref m5, .int m6, .int m7, .int m8, .ref m9, .ref m10, .ref m11, .int m12, .ref m13, .ref m14, .ref m15, .ref m16, .int m17, .ref m18, .ref m19, .ref m20, .ref m21, .ref m22, .ref m23, .ref m24, .ref m25, .int m26, .int m27, .int m28, .int m29, .int m30, .int m31, .ref m32, .ref m33, .ref m34, .ref m35, .int m36, .ref m37, .int m38, .ref m39, .ref m40, .ref m41, .ref m42, .ref m43])), (m5, .inl (cA 0, 5, .inl (upd sf i.toNatClampNeg v)))] (some (.int 1)) (wA [(h0, .inr (7, [.int m0, .int m1, .int m2, .int m3, .int m4, .ref m5, .int m6, .int m7, .int m8, .ref m9, .ref m10, .ref m11, .int m12, .ref m13, .ref m14, .ref m15, .ref m16, .int m17, .ref m18, .ref m19, .ref m20, .ref m21, .ref m22, .ref m23, .ref m24, .ref m25, .int m26, .int m27, .int m28, .int m29, .int m30, .int m31, .ref m32, .ref m33, .ref m34, .ref m35, .int m36, .ref m37, .int m38, .ref m39, .ref m40, .ref m41, .ref m42, .ref m43])), (m5, .inl (cA 0, 5, .inl sf))])) 0 0 (wA [(h0, .inr (7, [.int m0, .int m1, .int m2, .int m3, .int m4, .ref m5, .int m6, .int m7, .int m8, .ref m9, .ref m10, .ref m11, .int m12, .ref m13, .ref m14, .ref m15, .ref m16, .int m17, .ref m18, .ref m19, .ref m20, .ref m21, .ref m22, .ref m23, .ref m24, .ref m25, .int m26, .int m27, .int m28, .int m29, .int m30, .int m31, .ref m32, .ref m33, .ref m34, .ref m35, .int m36, .ref m37, .int m38, .ref m39, .ref m40, .ref m41, .ref m42, .ref m43])), (m5, .inl (cA 0, 5, .inl sf))]) := by
  refine Met.ofW (cc := cX8_secret) (maxL := 3) (ret := (some .boolean)) (by decide) rfl ?_
  intro p e s m args below meth c s₁ B hml hv
  obtain ⟨rfl, hP, hK, hD0⟩ := hv
  have hx := B.exec
  have hb := B.bytes
  have hr := B.returns
  have hts := atoms_spec (ws := wsX8_secret) B.pre
  have hown : s.vm.findClass RX8 = some m.cls := findClass_of_methodNamed B.named
  have hlocks := B.notSynchronized
  have hin_X8 : ∀ w ∈ wsX80, w ∈ wsX8_secret := fun w h => List.mem_cons_of_mem _ (List.mem_append_right _ h)
  have w_RX8_140 := hts (.fieldLink RX8 140 "MixElectionModel" "stage" "I") (by decide +kernel)
  have w_RX8_112 := hts (.fieldLink RX8 112 "MixElectionModel" "threshold" "I") (by decide +kernel)
  have w_RX8_7 := hts (.fieldLink RX8 7 "MixElectionModel" "secret" "[I") (by decide +kernel)
  have hD : va_D (wA [(h0, .inr (7, [.int m0, .int m1, .int m2, .int m3, .int m4, .ref m5, .int m6, .int m7, .int m8, .ref m9, .ref m10, .ref m11, .int m12, .ref m13, .ref m14, .ref m15, .ref m16, .int m17, .ref m18, .ref m19, .ref m20, .ref m21, .ref m22, .ref m23, .ref m24, .ref m25, .int m26, .int m27, .int m28, .int m29, .int m30, .int m31, .ref m32, .ref m33, .ref m34, .ref m35, .int m36, .ref m37, .int m38, .ref m39, .ref m40, .ref m41, .ref m42, .ref m43])), (m5, .inl (cA 0, 5, .inl sf))]) [(h0, .inr (7, [.int m0, .int m1, .int m2, .int m3, .int m4, .ref m5, .int m6, .int m7, .int m8, .ref m9, .ref m10, .ref m11, .int m12, .ref m13, .ref m14, .ref m15, .ref m16, .int m17, .ref m18, .ref m19, .ref m20, .ref m21, .ref m22, .ref m23, .ref m24, .ref m25, .int m26, .int m27, .int m28, .int m29, .int m30, .int m31, .ref m32, .ref m33, .ref m34, .ref m35, .int m36, .ref m37, .int m38, .ref m39, .ref m40, .ref m41, .ref m42, .ref m43])), (m5, .inl (cA 0, 5, .inl sf))] := ⟨hD0.1, fun k q h => List.mem_map.mpr ⟨q, List.mem_of_getElem? h, rfl⟩⟩
  have hS : va_S (wA [(h0, .inr (7, [.int m0, .int m1, .int m2, .int m3, .int m4, .ref m5, .int m6, .int m7, .int m8, .ref m9, .ref m10, .ref m11, .int m12, .ref m13, .ref m14, .ref m15, .ref m16, .int m17, .ref m18, .ref m19, .ref m20, .ref m21, .ref m22, .ref m23, .ref m24, .ref m25, .int m26, .int m27, .int m28, .int m29, .int m30, .int m31, .ref m32, .ref m33, .ref m34, .ref m35, .int m36, .ref m37, .int m38, .ref m39, .ref m40, .ref m41, .ref m42, .ref m43])), (m5, .inl (cA 0, 5, .inl sf))]) s.heap s.heap [] := va_S.rf
  generalize hAe : wA [(h0, .inr (7, [.int m0, .int m1, .int m2, .int m3, .int m4, .ref m5, .int m6, .int m7, .int m8, .ref m9, .ref m10, .ref m11, .int m12, .ref m13, .ref m14, .ref m15, .ref m16, .int m17, .ref m18, .ref m19, .ref m20, .ref m21, .ref m22, .ref m23, .ref m24, .ref m25, .int m26, .int m27, .int m28, .int m29, .int m30, .int m31, .ref m32, .ref m33, .ref m34, .ref m35, .int m36, .ref m37, .int m38, .ref m39, .ref m40, .ref m41, .ref m42, .ref m43])), (m5, .inl (cA 0, 5, .inl sf))] = A at hD hS ⊢
  have hP : va_P D vwCl [(h0, .inr (7, [.int m0, .int m1, .int m2, .int m3, .int m4, .ref m5, .int m6, .int m7, .int m8, .ref m9, .ref m10, .ref m11, .int m12, .ref m13, .ref m14, .ref m15, .ref m16, .int m17, .ref m18, .ref m19, .ref m20, .ref m21, .ref m22, .ref m23, .ref m24, .ref m25, .int m26, .int m27, .int m28, .int m29, .int m30, .int m31, .ref m32, .ref m33, .ref m34, .ref m35, .int m36, .ref m37, .int m38, .ref m39, .ref m40, .ref m41, .ref m42, .ref m43])), (m5, .inl (cA 0, 5, .inl sf))] s.heap := hP
  have hl := lv_entry ([.ref h0, .int i, .int v]) (n := 3) (Nat.le_of_ble_eq_true rfl)
  rw [lg_entry_eq]
  generalize (lg_sl ([.ref h0, .int i, .int v]) ++ List.replicate (3 - (lg_sl ([.ref h0, .int i, .int v])).length) Slot.unset).toArray = ls at hl ⊢
  have hl : lv_has ls 3 [(0, .ref h0), (1, .int i), (2, .int v)] := hl
  refine lv_aload_n hx hb dX8_secret_0 rfl (lv_at hl 0 rfl) ?_
  refine va_get (D := D) (ci := 7) (v := .int m6) (C := RX8) (T := TX8) (N := 44) hx hb hts hin_X8 hown hK hP 0 rfl rfl 6 (by decide) (w_RX8_140) (fun _ h9 => h9) rfl dX8_secret_1 ?_
  refine lv_if_ne (tgt := 37) hx hb dX8_secret_4 (by decide) (fun c_4 => ?_) (fun c_4 => ?_)
  · skip
    exact absurd hok.1 c_4
  · skip
    refine lv_iload_n hx hb dX8_secret_7 rfl (lv_at hl 1 rfl) ?_
    refine lv_iconst (v := 0) hx hb dX8_secret_8 (by decide) ?_
    refine lv_aload_n hx hb dX8_secret_9 rfl (lv_at hl 0 rfl) ?_
    refine va_get (D := D) (ci := 7) (v := .int m4) (C := RX8) (T := TX8) (N := 44) hx hb hts hin_X8 hown hK hP 0 rfl rfl 4 (by decide) (w_RX8_112) (fun _ h9 => h9) rfl dX8_secret_10 ?_
    refine lv_iconst (v := 1) hx hb dX8_secret_13 (by decide) ?_
    refine lv_isub hx hb dX8_secret_14 ?_
    refine rq_call1 (v := .int (bI (0 ≤ i ∧ i ≤ (m4 - 1)))) (rn_S (As := [.int i, .int 0, .int (m4 - 1)]) (rest := []) ⟨hx, hb, hml, hown, hts⟩ (c_X8_in l D cA i 0 (m4 - 1)) (va_cwS 3 hts gX8_secret_X8_in rfl rfl rfl (by decide +kernel) ⟨Nat.le_of_ble_eq_true rfl, Nat.le_of_ble_eq_true rfl⟩) hK hP [] rfl rfl hl.1 rfl (Nat.le_of_ble_eq_true rfl) dX8_secret_15 ⟨Nat.le_of_ble_eq_true rfl, Nat.le_of_ble_eq_true rfl⟩) ?_
    refine lv_if_eq (tgt := 37) hx hb dX8_secret_18 (by decide) (fun c_18 => ?_) (fun c_18 => ?_)
    · skip
      exact absurd ⟨hok.2.1, (le_1 htk (by omega) (by omega)).mpr hok.2.2.1⟩ (bI_0 c_18)
    · skip
      refine lv_aload_n hx hb dX8_secret_21 rfl (lv_at hl 0 rfl) ?_
      refine lv_iload_n hx hb dX8_secret_22 rfl (lv_at hl 2 rfl) ?_
      refine rq_call1 (v := .int (bI (0 ≤ v ∧ v < m1))) (rn_V (As := [.int v]) (rest := []) (ci := 7) (fs := [.int m0, .int m1, .int m2, .int m3, .int m4, .ref m5, .int m6, .int m7, .int m8, .ref m9, .ref m10, .ref m11, .int m12, .ref m13, .ref m14, .ref m15, .ref m16, .int m17, .ref m18, .ref m19, .ref m20, .ref m21, .ref m22, .ref m23, .ref m24, .ref m25, .int m26, .int m27, .int m28, .int m29, .int m30, .int m31, .ref m32, .ref m33, .ref m34, .ref m35, .int m36, .ref m37, .int m38, .ref m39, .ref m40, .ref m41, .ref m42, .ref m43]) ⟨hx, hb, hml, hown, hts⟩ (c_X8_isExponent l D cA h0 m0 m1 m2 m3 m4 m5 m6 m7 m8 m9 m10 m11 m12 m13 m14 m15 m16 m17 m18 m19 m20 m21 m22 m23 m24 m25 m26 m27 m28 m29 m30 m31 m32 m33 m34 m35 m36 m37 m38 m39 m40 m41 m42 m43 v q0 hgq hq1) rfl (cwV 1 hts gX8_secret_X8_isExponent rfl rfl rfl (by decide +kernel) ⟨Nat.le_of_ble_eq_true rfl, Nat.le_of_ble_eq_true rfl⟩) hK hP [0] rfl rfl rfl hl.1 rfl (Nat.le_of_ble_eq_true rfl) dX8_secret_23 ⟨Nat.le_of_ble_eq_true rfl, Nat.le_of_ble_eq_true rfl⟩) ?_
      refine lv_if_eq (tgt := 37) hx hb dX8_secret_26 (by decide) (fun c_26 => ?_) (fun c_26 => ?_)
      · skip
        exact absurd hok.2.2.2.1 (bI_0 c_26)
      · skip
        refine lv_iload_n hx hb dX8_secret_29 rfl (lv_at hl 1 rfl) ?_
        refine lv_if_ne (tgt := 39) hx hb dX8_secret_30 (by decide) (fun c_30 => ?_) (fun c_30 => ?_)
        · skip
          refine lv_aload_n hx hb dX8_secret_39 rfl (lv_at hl 0 rfl) ?_
          refine va_get (D := D) (ci := 7) (v := .ref m5) (C := RX8) (T := TX8) (N := 44) hx hb hts hin_X8 hown hK hP 0 rfl rfl 5 (by decide) (w_RX8_7) (fun _ h9 => h9) rfl dX8_secret_40 ?_
          refine lv_iload_n hx hb dX8_secret_43 rfl (lv_at hl 1 rfl) ?_
          refine lv_iload_n hx hb dX8_secret_44 rfl (lv_at hl 2 rfl) ?_
          refine va_iast hx hb hK hP hD hS 1 0 rfl rfl (ix_in ⟨hok.2.1, hok.2.2.1⟩ htk hk1.2) dX8_secret_45 (fun H locs hP hD hS => ?_)
          have hP : va_P D vwCl [(h0, .inr (7, [.int m0, .int m1, .int m2, .int m3, .int m4, .ref m5, .int m6, .int m7, .int m8, .ref m9, .ref m10, .ref m11, .int m12, .ref m13, .ref m14, .ref m15, .ref m16, .int m17, .ref m18, .ref m19, .ref m20, .ref m21, .ref m22, .ref m23, .ref m24, .ref m25, .int m26, .int m27, .int m28, .int m29, .int m30, .int m31, .ref m32, .ref m33, .ref m34, .ref m35, .int m36, .ref m37, .int m38, .ref m39, .ref m40, .ref m41, .ref m42, .ref m43])), (m5, .inl (cA 0, 5, .inl (upd sf i.toNatClampNeg v)))] H := hP
          have hD : va_D A [(h0, .inr (7, [.int m0, .int m1, .int m2, .int m3, .int m4, .ref m5, .int m6, .int m7, .int m8, .ref m9, .ref m10, .ref m11, .int m12, .ref m13, .ref m14, .ref m15, .ref m16, .int m17, .ref m18, .ref m19, .ref m20, .ref m21, .ref m22, .ref m23, .ref m24, .ref m25, .int m26, .int m27, .int m28, .int m29, .int m30, .int m31, .ref m32, .ref m33, .ref m34, .ref m35, .int m36, .ref m37, .int m38, .ref m39, .ref m40, .ref m41, .ref m42, .ref m43])), (m5, .inl (cA 0, 5, .inl (upd sf i.toNatClampNeg v)))] := hD
          refine lv_iconst (v := 1) hx hb dX8_secret_46 (by decide) ?_
          have hP9 : va_P D vwCl [(h0, .inr (7, [.int m0, .int m1, .int m2, .int m3, .int m4, .ref m5, .int m6, .int m7, .int m8, .ref m9, .ref m10, .ref m11, .int m12, .ref m13, .ref m14, .ref m15, .ref m16, .int m17, .ref m18, .ref m19, .ref m20, .ref m21, .ref m22, .ref m23, .ref m24, .ref m25, .int m26, .int m27, .int m28, .int m29, .int m30, .int m31, .ref m32, .ref m33, .ref m34, .ref m35, .int m36, .ref m37, .int m38, .ref m39, .ref m40, .ref m41, .ref m42, .ref m43])), (m5, .inl (cA 0, 5, .inl (upd sf i.toNatClampNeg v)))] H := hP
          exact W.zret (v := 1) hx hb hr rfl (fun t ht hW => ⟨congrArg (fun z => Outcome.returned (some (Value.int z))) (rfl), by rw [ht]; exact hP9, hS.F ht⟩) hS.2.2 dX8_secret_47
        · skip
          refine lv_iload_n hx hb dX8_secret_33 rfl (lv_at hl 2 rfl) ?_
          refine lv_if_ne (tgt := 39) hx hb dX8_secret_34 (by decide) (fun c_34 => ?_) (fun c_34 => ?_)
          · skip
            refine lv_aload_n hx hb dX8_secret_39 rfl (lv_at hl 0 rfl) ?_
            refine va_get (D := D) (ci := 7) (v := .ref m5) (C := RX8) (T := TX8) (N := 44) hx hb hts hin_X8 hown hK hP 0 rfl rfl 5 (by decide) (w_RX8_7) (fun _ h9 => h9) rfl dX8_secret_40 ?_
            refine lv_iload_n hx hb dX8_secret_43 rfl (lv_at hl 1 rfl) ?_
            refine lv_iload_n hx hb dX8_secret_44 rfl (lv_at hl 2 rfl) ?_
            refine va_iast hx hb hK hP hD hS 1 0 rfl rfl (ix_in ⟨hok.2.1, hok.2.2.1⟩ htk hk1.2) dX8_secret_45 (fun H locs hP hD hS => ?_)
            have hP : va_P D vwCl [(h0, .inr (7, [.int m0, .int m1, .int m2, .int m3, .int m4, .ref m5, .int m6, .int m7, .int m8, .ref m9, .ref m10, .ref m11, .int m12, .ref m13, .ref m14, .ref m15, .ref m16, .int m17, .ref m18, .ref m19, .ref m20, .ref m21, .ref m22, .ref m23, .ref m24, .ref m25, .int m26, .int m27, .int m28, .int m29, .int m30, .int m31, .ref m32, .ref m33, .ref m34, .ref m35, .int m36, .ref m37, .int m38, .ref m39, .ref m40, .ref m41, .ref m42, .ref m43])), (m5, .inl (cA 0, 5, .inl (upd sf i.toNatClampNeg v)))] H := hP
            have hD : va_D A [(h0, .inr (7, [.int m0, .int m1, .int m2, .int m3, .int m4, .ref m5, .int m6, .int m7, .int m8, .ref m9, .ref m10, .ref m11, .int m12, .ref m13, .ref m14, .ref m15, .ref m16, .int m17, .ref m18, .ref m19, .ref m20, .ref m21, .ref m22, .ref m23, .ref m24, .ref m25, .int m26, .int m27, .int m28, .int m29, .int m30, .int m31, .ref m32, .ref m33, .ref m34, .ref m35, .int m36, .ref m37, .int m38, .ref m39, .ref m40, .ref m41, .ref m42, .ref m43])), (m5, .inl (cA 0, 5, .inl (upd sf i.toNatClampNeg v)))] := hD
            refine lv_iconst (v := 1) hx hb dX8_secret_46 (by decide) ?_
            have hP9 : va_P D vwCl [(h0, .inr (7, [.int m0, .int m1, .int m2, .int m3, .int m4, .ref m5, .int m6, .int m7, .int m8, .ref m9, .ref m10, .ref m11, .int m12, .ref m13, .ref m14, .ref m15, .ref m16, .int m17, .ref m18, .ref m19, .ref m20, .ref m21, .ref m22, .ref m23, .ref m24, .ref m25, .int m26, .int m27, .int m28, .int m29, .int m30, .int m31, .ref m32, .ref m33, .ref m34, .ref m35, .int m36, .ref m37, .int m38, .ref m39, .ref m40, .ref m41, .ref m42, .ref m43])), (m5, .inl (cA 0, 5, .inl (upd sf i.toNatClampNeg v)))] H := hP
            exact W.zret (v := 1) hx hb hr rfl (fun t ht hW => ⟨congrArg (fun z => Outcome.returned (some (Value.int z))) (rfl), by rw [ht]; exact hP9, hS.F ht⟩) hS.2.2 dX8_secret_47
          · skip
            exact absurd ⟨c_30, c_34⟩ hok.2.2.2.2

set_option maxHeartbeats 4000000 in
set_option maxRecDepth 100000 in
theorem c_X8_key_no (l : Launch) (D : va_G) (cA : Nat → ClassId) (h0 : Nat) (m0 : Int32) (m1 : Int32) (m2 : Int32) (m3 : Int32) (m4 : Int32) (m5 : Nat) (m6 : Int32) (m7 : Int32) (m8 : Int32) (m9 : Nat) (m10 : Nat) (m11 : Nat) (m12 : Int32) (m13 : Nat) (m14 : Nat) (m15 : Nat) (m16 : Nat) (m17 : Int32) (m18 : Nat) (m19 : Nat) (m20 : Nat) (m21 : Nat) (m22 : Nat) (m23 : Nat) (m24 : Nat) (m25 : Nat) (m26 : Int32) (m27 : Int32) (m28 : Int32) (m29 : Int32) (m30 : Int32) (m31 : Int32) (m32 : Nat) (m33 : Nat) (m34 : Nat) (m35 : Nat) (m36 : Int32) (m37 : Nat) (m38 : Int32) (m39 : Nat) (m40 : Nat) (m41 : Nat) (m42 : Nat) (m43 : Nat) (hno : ¬ m6 = 0) : Met l yX8_key wsX8_key ({ frames := 0, cells := 0, slots := 0, locals := 0 }) (rPc vwCl D cA [(h0, .inr (7, [.int m0, .int m1, .int m2, .int m3, .int m4, .ref m5, .int m6, .int m7, .int m8, .ref m9, .ref m10, .ref m11, .int m12, .ref m13, .ref m14, .ref m15, .ref m16, .int m17, .ref m18, .ref m19, .ref m20, .ref m21, .ref m22, .ref m23, .ref m24, .ref m25, .int m26, .int m27, .int m28, .int m29, .int m30, .int m31, .ref m32, .ref m33, .ref m34, .ref m35, .int m36, .ref m37, .int m38, .ref m39, .ref m40, .ref m41, .ref m42, .ref m43]))] [.ref h0]) (rq_x (some (.int (-1)))) 0 0 (fun _ => False) := by
  refine Met.ofW (cc := cX8_key) (maxL := 3) (ret := (some .int)) (by decide) rfl ?_
  intro p e s m args below meth c s₁ B hml hv
  obtain ⟨rfl, hP, hK⟩ := hv
  have hx := B.exec
  have hb := B.bytes
  have hr := B.returns
  have hts := atoms_spec (ws := wsX8_key) B.pre
  have hown : s.vm.findClass RX8 = some m.cls := findClass_of_methodNamed B.named
  have hlocks := B.notSynchronized
  have hin_X8 : ∀ w ∈ wsX80, w ∈ wsX8_key := fun w h => List.mem_cons_of_mem _ (List.mem_append_right _ h)
  have w_RX8_140 := hts (.fieldLink RX8 140 "MixElectionModel" "stage" "I") (by decide +kernel)
  have hl := lv_entry ([.ref h0]) (n := 3) (Nat.le_of_ble_eq_true rfl)
  rw [lg_entry_eq]
  generalize (lg_sl ([.ref h0]) ++ List.replicate (3 - (lg_sl ([.ref h0])).length) Slot.unset).toArray = ls at hl ⊢
  have hl : lv_has ls 3 [(0, .ref h0)] := hl
  refine lv_aload_n hx hb dX8_key_0 rfl (lv_at hl 0 rfl) ?_
  refine va_get (D := D) (ci := 7) (v := .int m6) (C := RX8) (T := TX8) (N := 44) hx hb hts hin_X8 hown hK hP 0 rfl rfl 6 (by decide) (w_RX8_140) (fun _ h9 => h9) rfl dX8_key_1 ?_
  refine lv_if_eq (tgt := 9) hx hb dX8_key_4 (by decide) (fun c_4 => ?_) (fun c_4 => ?_)
  · exact absurd c_4 hno
  · skip
    refine lv_iconst (v := (-1)) hx hb dX8_key_7 (by decide) ?_
    exact W.iret (v := (-1)) hx hb hr (fun t ht hW => ⟨congrArg (fun z => Outcome.returned (some (Value.int z))) (rfl), ht⟩) (fun _ h => by cases h) dX8_key_8

set_option maxHeartbeats 4000000 in
set_option maxRecDepth 100000 in
theorem c_X8_key_ok (l : Launch) (D : va_G) (cA : Nat → ClassId) (h0 : Nat) (m0 : Int32) (m1 : Int32) (m2 : Int32) (m3 : Int32) (m4 : Int32) (m5 : Nat) (m6 : Int32) (m7 : Int32) (m8 : Int32) (m9 : Nat) (m10 : Nat) (m11 : Nat) (m12 : Int32) (m13 : Nat) (m14 : Nat) (m15 : Nat) (m16 : Nat) (m17 : Int32) (m18 : Nat) (m19 : Nat) (m20 : Nat) (m21 : Nat) (m22 : Nat) (m23 : Nat) (m24 : Nat) (m25 : Nat) (m26 : Int32) (m27 : Int32) (m28 : Int32) (m29 : Int32) (m30 : Int32) (m31 : Int32) (m32 : Nat) (m33 : Nat) (m34 : Nat) (m35 : Nat) (m36 : Int32) (m37 : Nat) (m38 : Int32) (m39 : Nat) (m40 : Nat) (m41 : Nat) (m42 : Nat) (m43 : Nat) (kf : Nat → Int32) (xf : Nat → Int32) (yf : Nat → Int32) (zf : Nat → Int64) (cf : Nat → Int64) (sf : Nat → Int32) (s0 : Nat) (n0 : Nat) (hok : m6 = 0) (hs0 : sf (0 : Int32).toNatClampNeg = nI s0) (hs1 : s0 < 2 ^ 31) (hp0 : 0 < m0) (hbn : m38 = nI n0) (h6 : n0 < 600) : Met l yX8_key wsX8_key ({ frames := 2, cells := 0, slots := 0, locals := 52 }) (wPc vwCl D cA [(h0, .inr (7, [.int m0, .int m1, .int m2, .int m3, .int m4, .ref m5, .int m6, .int m7, .int m8, .ref m9, .ref m10, .ref m11, .int m12, .ref m13, .ref m14, .ref m15, .ref m16, .int m17, .ref m18, .ref m19, .ref m20, .ref m21, .ref m22, .ref m23, .ref m24, .ref m25, .int m26, .int m27, .int m28, .int m29, .int m30, .int m31, .ref m32, .ref m33, .ref m34, .ref m35, .int m36, .ref m37, .int m38, .ref m39, .ref m40, .ref m41, .ref m42, .ref m43])), (m5, .inl (cA 0, 5, .inl sf)), (m39, .inl (cA 0, 600, .inl kf)), (m40, .inl (cA 2, 600, .inr (.inl (fun i => (xf i).toInt64)))), (m41, .inl (cA 2, 600, .inr (.inl (fun i => (yf i).toInt64)))), (m42, .inl (cA 2, 600, .inr (.inl zf))), (m43, .inl (cA 2, 600, .inr (.inl cf)))] [.ref h0]) (wq_x vwCl D [(h0, .inr (7, [.int m0, .int m1, .int m2, .int m3, .int m4, .ref m5, .int 1, .int (pw m0 32 s0 1 4), .int m8, .ref m9, .ref m10, .ref m11, .int m12, .ref m13, .ref m14, .ref m15, .ref m16, .int m17, .ref m18, .ref m19, .ref m20, .ref m21, .ref m22, .ref m23, .ref m24, .ref m25, .int m26, .int m27, .int m28, .int m29, .int m30, .int m31, .ref m32, .ref m33, .ref m34, .ref m35, .int m36, .ref m37, .int (m38 + 1), .ref m39, .ref m40, .ref m41, .ref m42, .ref m43])), (m5, .inl (cA 0, 5, .inl sf)), (m39, .inl (cA 0, 600, .inl (upd kf m38.toNatClampNeg 1))), (m40, .inl (cA 2, 600, .inr (.inl (fun i => ((upd xf m38.toNatClampNeg (pw m0 32 s0 1 4)) i).toInt64)))), (m41, .inl (cA 2, 600, .inr (.inl (fun i => ((upd yf m38.toNatClampNeg m3) i).toInt64)))), (m42, .inl (cA 2, 600, .inr (.inl (vp_updL zf m38.toNatClampNeg m4.toInt64)))), (m43, .inl (cA 2, 600, .inr (.inl (vp_updL cf m38.toNatClampNeg (dg (dg (dg (dg (cho cf m38 (m38 - 1)) ((1 : Int32).toInt64)) ((pw m0 32 s0 1 4).toInt64)) (m3.toInt64)) m4.toInt64)))))] (some (.int (pw m0 32 s0 1 4))) (wA [(h0, .inr (7, [.int m0, .int m1, .int m2, .int m3, .int m4, .ref m5, .int m6, .int m7, .int m8, .ref m9, .ref m10, .ref m11, .int m12, .ref m13, .ref m14, .ref m15, .ref m16, .int m17, .ref m18, .ref m19, .ref m20, .ref m21, .ref m22, .ref m23, .ref m24, .ref m25, .int m26, .int m27, .int m28, .int m29, .int m30, .int m31, .ref m32, .ref m33, .ref m34, .ref m35, .int m36, .ref m37, .int m38, .ref m39, .ref m40, .ref m41, .ref m42, .ref m43])), (m5, .inl (cA 0, 5, .inl sf)), (m39, .inl (cA 0, 600, .inl kf)), (m40, .inl (cA 2, 600, .inr (.inl (fun i => (xf i).toInt64)))), (m41, .inl (cA 2, 600, .inr (.inl (fun i => (yf i).toInt64)))), (m42, .inl (cA 2, 600, .inr (.inl zf))), (m43, .inl (cA 2, 600, .inr (.inl cf)))])) 0 0 (wA [(h0, .inr (7, [.int m0, .int m1, .int m2, .int m3, .int m4, .ref m5, .int m6, .int m7, .int m8, .ref m9, .ref m10, .ref m11, .int m12, .ref m13, .ref m14, .ref m15, .ref m16, .int m17, .ref m18, .ref m19, .ref m20, .ref m21, .ref m22, .ref m23, .ref m24, .ref m25, .int m26, .int m27, .int m28, .int m29, .int m30, .int m31, .ref m32, .ref m33, .ref m34, .ref m35, .int m36, .ref m37, .int m38, .ref m39, .ref m40, .ref m41, .ref m42, .ref m43])), (m5, .inl (cA 0, 5, .inl sf)), (m39, .inl (cA 0, 600, .inl kf)), (m40, .inl (cA 2, 600, .inr (.inl (fun i => (xf i).toInt64)))), (m41, .inl (cA 2, 600, .inr (.inl (fun i => (yf i).toInt64)))), (m42, .inl (cA 2, 600, .inr (.inl zf))), (m43, .inl (cA 2, 600, .inr (.inl cf)))]) := by
  refine Met.ofW (cc := cX8_key) (maxL := 3) (ret := (some .int)) (by decide) rfl ?_
  intro p e s m args below meth c s₁ B hml hv
  obtain ⟨rfl, hP, hK, hD0⟩ := hv
  have hx := B.exec
  have hb := B.bytes
  have hr := B.returns
  have hts := atoms_spec (ws := wsX8_key) B.pre
  have hown : s.vm.findClass RX8 = some m.cls := findClass_of_methodNamed B.named
  have hlocks := B.notSynchronized
  have hin_X8 : ∀ w ∈ wsX80, w ∈ wsX8_key := fun w h => List.mem_cons_of_mem _ (List.mem_append_right _ h)
  have w_RX8_140 := hts (.fieldLink RX8 140 "MixElectionModel" "stage" "I") (by decide +kernel)
  have w_RX8_7 := hts (.fieldLink RX8 7 "MixElectionModel" "secret" "[I") (by decide +kernel)
  have w_RX8_146 := hts (.fieldLink RX8 146 "MixElectionModel" "h" "I") (by decide +kernel)
  have w_RX8_109 := hts (.fieldLink RX8 109 "MixElectionModel" "trustees" "I") (by decide +kernel)
  have w_RX8_112 := hts (.fieldLink RX8 112 "MixElectionModel" "threshold" "I") (by decide +kernel)
  have hD : va_D (wA [(h0, .inr (7, [.int m0, .int m1, .int m2, .int m3, .int m4, .ref m5, .int m6, .int m7, .int m8, .ref m9, .ref m10, .ref m11, .int m12, .ref m13, .ref m14, .ref m15, .ref m16, .int m17, .ref m18, .ref m19, .ref m20, .ref m21, .ref m22, .ref m23, .ref m24, .ref m25, .int m26, .int m27, .int m28, .int m29, .int m30, .int m31, .ref m32, .ref m33, .ref m34, .ref m35, .int m36, .ref m37, .int m38, .ref m39, .ref m40, .ref m41, .ref m42, .ref m43])), (m5, .inl (cA 0, 5, .inl sf)), (m39, .inl (cA 0, 600, .inl kf)), (m40, .inl (cA 2, 600, .inr (.inl (fun i => (xf i).toInt64)))), (m41, .inl (cA 2, 600, .inr (.inl (fun i => (yf i).toInt64)))), (m42, .inl (cA 2, 600, .inr (.inl zf))), (m43, .inl (cA 2, 600, .inr (.inl cf)))]) [(h0, .inr (7, [.int m0, .int m1, .int m2, .int m3, .int m4, .ref m5, .int m6, .int m7, .int m8, .ref m9, .ref m10, .ref m11, .int m12, .ref m13, .ref m14, .ref m15, .ref m16, .int m17, .ref m18, .ref m19, .ref m20, .ref m21, .ref m22, .ref m23, .ref m24, .ref m25, .int m26, .int m27, .int m28, .int m29, .int m30, .int m31, .ref m32, .ref m33, .ref m34, .ref m35, .int m36, .ref m37, .int m38, .ref m39, .ref m40, .ref m41, .ref m42, .ref m43])), (m5, .inl (cA 0, 5, .inl sf)), (m39, .inl (cA 0, 600, .inl kf)), (m40, .inl (cA 2, 600, .inr (.inl (fun i => (xf i).toInt64)))), (m41, .inl (cA 2, 600, .inr (.inl (fun i => (yf i).toInt64)))), (m42, .inl (cA 2, 600, .inr (.inl zf))), (m43, .inl (cA 2, 600, .inr (.inl cf)))] := ⟨hD0.1, fun k q h => List.mem_map.mpr ⟨q, List.mem_of_getElem? h, rfl⟩⟩
  have hS : va_S (wA [(h0, .inr (7, [.int m0, .int m1, .int m2, .int m3, .int m4, .ref m5, .int m6, .int m7, .int m8, .ref m9, .ref m10, .ref m11, .int m12, .ref m13, .ref m14, .ref m15, .ref m16, .int m17, .ref m18, .ref m19, .ref m20, .ref m21, .ref m22, .ref m23, .ref m24, .ref m25, .int m26, .int m27, .int m28, .int m29, .int m30, .int m31, .ref m32, .ref m33, .ref m34, .ref m35, .int m36, .ref m37, .int m38, .ref m39, .ref m40, .ref m41, .ref m42, .ref m43])), (m5, .inl (cA 0, 5, .inl sf)), (m39, .inl (cA 0, 600, .inl kf)), (m40, .inl (cA 2, 600, .inr (.inl (fun i => (xf i).toInt64)))), (m41, .inl (cA 2, 600, .inr (.inl (fun i => (yf i).toInt64)))), (m42, .inl (cA 2, 600, .inr (.inl zf))), (m43, .inl (cA 2, 600, .inr (.inl cf)))]) s.heap s.heap [] := va_S.rf
  generalize hAe : wA [(h0, .inr (7, [.int m0, .int m1, .int m2, .int m3, .int m4, .ref m5, .int m6, .int m7, .int m8, .ref m9, .ref m10, .ref m11, .int m12, .ref m13, .ref m14, .ref m15, .ref m16, .int m17, .ref m18, .ref m19, .ref m20, .ref m21, .ref m22, .ref m23, .ref m24, .ref m25, .int m26, .int m27, .int m28, .int m29, .int m30, .int m31, .ref m32, .ref m33, .ref m34, .ref m35, .int m36, .ref m37, .int m38, .ref m39, .ref m40, .ref m41, .ref m42, .ref m43])), (m5, .inl (cA 0, 5, .inl sf)), (m39, .inl (cA 0, 600, .inl kf)), (m40, .inl (cA 2, 600, .inr (.inl (fun i => (xf i).toInt64)))), (m41, .inl (cA 2, 600, .inr (.inl (fun i => (yf i).toInt64)))), (m42, .inl (cA 2, 600, .inr (.inl zf))), (m43, .inl (cA 2, 600, .inr (.inl cf)))] = A at hD hS ⊢
  have hP : va_P D vwCl [(h0, .inr (7, [.int m0, .int m1, .int m2, .int m3, .int m4, .ref m5, .int m6, .int m7, .int m8, .ref m9, .ref m10, .ref m11, .int m12, .ref m13, .ref m14, .ref m15, .ref m16, .int m17, .ref m18, .ref m19, .ref m20, .ref m21, .ref m22, .ref m23, .ref m24, .ref m25, .int m26, .int m27, .int m28, .int m29, .int m30, .int m31, .ref m32, .ref m33, .ref m34, .ref m35, .int m36, .ref m37, .int m38, .ref m39, .ref m40, .ref m41, .ref m42, .ref m43])), (m5, .inl (cA 0, 5, .inl sf)), (m39, .inl (cA 0, 600, .inl kf)), (m40, .inl (cA 2, 600, .inr (.inl (fun i => (xf i).toInt64)))), (m41, .inl (cA 2, 600, .inr (.inl (fun i => (yf i).toInt64)))), (m42, .inl (cA 2, 600, .inr (.inl zf))), (m43, .inl (cA 2, 600, .inr (.inl cf)))] s.heap := hP
  have hl := lv_entry ([.ref h0]) (n := 3) (Nat.le_of_ble_eq_true rfl)
  rw [lg_entry_eq]
  generalize (lg_sl ([.ref h0]) ++ List.replicate (3 - (lg_sl ([.ref h0])).length) Slot.unset).toArray = ls at hl ⊢
  have hl : lv_has ls 3 [(0, .ref h0)] := hl
  refine lv_aload_n hx hb dX8_key_0 rfl (lv_at hl 0 rfl) ?_
  refine va_get (D := D) (ci := 7) (v := .int m6) (C := RX8) (T := TX8) (N := 44) hx hb hts hin_X8 hown hK hP 0 rfl rfl 6 (by decide) (w_RX8_140) (fun _ h9 => h9) rfl dX8_key_1 ?_
  refine lv_if_eq (tgt := 9) hx hb dX8_key_4 (by decide) (fun c_4 => ?_) (fun c_4 => ?_)
  · skip
    refine lv_aload_n hx hb dX8_key_9 rfl (lv_at hl 0 rfl) ?_
    refine lv_aload_n hx hb dX8_key_10 rfl (lv_at hl 0 rfl) ?_
    refine lv_iconst (v := 4) hx hb dX8_key_11 (by decide) ?_
    refine lv_aload_n hx hb dX8_key_12 rfl (lv_at hl 0 rfl) ?_
    refine va_get (D := D) (ci := 7) (v := .ref m5) (C := RX8) (T := TX8) (N := 44) hx hb hts hin_X8 hown hK hP 0 rfl rfl 5 (by decide) (w_RX8_7) (fun _ h9 => h9) rfl dX8_key_13 ?_
    refine lv_iconst (v := 0) hx hb dX8_key_16 (by decide) ?_
    refine va_iald hx hb hK hP 1 0 rfl rfl (vp_in_nI (n := 0) (by decide) (by decide)) dX8_key_17 ?_
    refine rq_call1 (v := .int (pw m0 32 s0 1 4)) (rn_V (As := [.int 4, .int (sf (0 : Int32).toNatClampNeg)]) (rest := [.ref h0]) (ci := 7) (fs := [.int m0, .int m1, .int m2, .int m3, .int m4, .ref m5, .int m6, .int m7, .int m8, .ref m9, .ref m10, .ref m11, .int m12, .ref m13, .ref m14, .ref m15, .ref m16, .int m17, .ref m18, .ref m19, .ref m20, .ref m21, .ref m22, .ref m23, .ref m24, .ref m25, .int m26, .int m27, .int m28, .int m29, .int m30, .int m31, .ref m32, .ref m33, .ref m34, .ref m35, .int m36, .ref m37, .int m38, .ref m39, .ref m40, .ref m41, .ref m42, .ref m43]) ⟨hx, hb, hml, hown, hts⟩ (c_X8_power l D cA h0 m0 m1 m2 m3 m4 m5 m6 m7 m8 m9 m10 m11 m12 m13 m14 m15 m16 m17 m18 m19 m20 m21 m22 m23 m24 m25 m26 m27 m28 m29 m30 m31 m32 m33 m34 m35 m36 m37 m38 m39 m40 m41 m42 m43 4 (sf (0 : Int32).toNatClampNeg) s0 hs0 hs1 hp0) rfl (cwV 2 hts gX8_key_X8_power rfl rfl rfl (by decide +kernel) ⟨Nat.le_of_ble_eq_true rfl, Nat.le_of_ble_eq_true rfl⟩) hK hP [0] rfl rfl rfl hl.1 rfl (Nat.le_of_ble_eq_true rfl) dX8_key_18 ⟨Nat.le_of_ble_eq_true rfl, Nat.le_of_ble_eq_true rfl⟩) ?_
    refine va_put (D := D) (ci := 7) (v := .int (pw m0 32 s0 1 4)) (ty := .int) (C := RX8) (T := TX8) (N := 44) hx hb hts hin_X8 tyX8 tyX8_ok nmX8 hown hK hP hD hS 0 rfl rfl 7 (by decide) (w_RX8_146) (fun _ h9 => h9) rfl (by decide +kernel) rfl rfl (Nat.le_of_ble_eq_true rfl) dX8_key_21 (fun H locs hP hD hS => ?_)
    have hP : va_P D vwCl [(h0, .inr (7, [.int m0, .int m1, .int m2, .int m3, .int m4, .ref m5, .int m6, .int (pw m0 32 s0 1 4), .int m8, .ref m9, .ref m10, .ref m11, .int m12, .ref m13, .ref m14, .ref m15, .ref m16, .int m17, .ref m18, .ref m19, .ref m20, .ref m21, .ref m22, .ref m23, .ref m24, .ref m25, .int m26, .int m27, .int m28, .int m29, .int m30, .int m31, .ref m32, .ref m33, .ref m34, .ref m35, .int m36, .ref m37, .int m38, .ref m39, .ref m40, .ref m41, .ref m42, .ref m43])), (m5, .inl (cA 0, 5, .inl sf)), (m39, .inl (cA 0, 600, .inl kf)), (m40, .inl (cA 2, 600, .inr (.inl (fun i => (xf i).toInt64)))), (m41, .inl (cA 2, 600, .inr (.inl (fun i => (yf i).toInt64)))), (m42, .inl (cA 2, 600, .inr (.inl zf))), (m43, .inl (cA 2, 600, .inr (.inl cf)))] H := hP
    have hD : va_D A [(h0, .inr (7, [.int m0, .int m1, .int m2, .int m3, .int m4, .ref m5, .int m6, .int (pw m0 32 s0 1 4), .int m8, .ref m9, .ref m10, .ref m11, .int m12, .ref m13, .ref m14, .ref m15, .ref m16, .int m17, .ref m18, .ref m19, .ref m20, .ref m21, .ref m22, .ref m23, .ref m24, .ref m25, .int m26, .int m27, .int m28, .int m29, .int m30, .int m31, .ref m32, .ref m33, .ref m34, .ref m35, .int m36, .ref m37, .int m38, .ref m39, .ref m40, .ref m41, .ref m42, .ref m43])), (m5, .inl (cA 0, 5, .inl sf)), (m39, .inl (cA 0, 600, .inl kf)), (m40, .inl (cA 2, 600, .inr (.inl (fun i => (xf i).toInt64)))), (m41, .inl (cA 2, 600, .inr (.inl (fun i => (yf i).toInt64)))), (m42, .inl (cA 2, 600, .inr (.inl zf))), (m43, .inl (cA 2, 600, .inr (.inl cf)))] := hD
    refine lv_aload_n hx hb dX8_key_24 rfl (lv_at hl 0 rfl) ?_
    refine lv_iconst (v := 1) hx hb dX8_key_25 (by decide) ?_
    refine va_put (D := D) (ci := 7) (v := .int 1) (ty := .int) (C := RX8) (T := TX8) (N := 44) hx hb hts hin_X8 tyX8 tyX8_ok nmX8 hown hK hP hD hS 0 rfl rfl 6 (by decide) (w_RX8_140) (fun _ h9 => h9) rfl (by decide +kernel) rfl rfl (Nat.le_of_ble_eq_true rfl) dX8_key_26 (fun H locs hP hD hS => ?_)
    have hP : va_P D vwCl [(h0, .inr (7, [.int m0, .int m1, .int m2, .int m3, .int m4, .ref m5, .int 1, .int (pw m0 32 s0 1 4), .int m8, .ref m9, .ref m10, .ref m11, .int m12, .ref m13, .ref m14, .ref m15, .ref m16, .int m17, .ref m18, .ref m19, .ref m20, .ref m21, .ref m22, .ref m23, .ref m24, .ref m25, .int m26, .int m27, .int m28, .int m29, .int m30, .int m31, .ref m32, .ref m33, .ref m34, .ref m35, .int m36, .ref m37, .int m38, .ref m39, .ref m40, .ref m41, .ref m42, .ref m43])), (m5, .inl (cA 0, 5, .inl sf)), (m39, .inl (cA 0, 600, .inl kf)), (m40, .inl (cA 2, 600, .inr (.inl (fun i => (xf i).toInt64)))), (m41, .inl (cA 2, 600, .inr (.inl (fun i => (yf i).toInt64)))), (m42, .inl (cA 2, 600, .inr (.inl zf))), (m43, .inl (cA 2, 600, .inr (.inl cf)))] H := hP
    have hD : va_D A [(h0, .inr (7, [.int m0, .int m1, .int m2, .int m3, .int m4, .ref m5, .int 1, .int (pw m0 32 s0 1 4), .int m8, .ref m9, .ref m10, .ref m11, .int m12, .ref m13, .ref m14, .ref m15, .ref m16, .int m17, .ref m18, .ref m19, .ref m20, .ref m21, .ref m22, .ref m23, .ref m24, .ref m25, .int m26, .int m27, .int m28, .int m29, .int m30, .int m31, .ref m32, .ref m33, .ref m34, .ref m35, .int m36, .ref m37, .int m38, .ref m39, .ref m40, .ref m41, .ref m42, .ref m43])), (m5, .inl (cA 0, 5, .inl sf)), (m39, .inl (cA 0, 600, .inl kf)), (m40, .inl (cA 2, 600, .inr (.inl (fun i => (xf i).toInt64)))), (m41, .inl (cA 2, 600, .inr (.inl (fun i => (yf i).toInt64)))), (m42, .inl (cA 2, 600, .inr (.inl zf))), (m43, .inl (cA 2, 600, .inr (.inl cf)))] := hD
    refine lv_aload_n hx hb dX8_key_29 rfl (lv_at hl 0 rfl) ?_
    refine lv_iconst (v := 1) hx hb dX8_key_30 (by decide) ?_
    refine lv_aload_n hx hb dX8_key_31 rfl (lv_at hl 0 rfl) ?_
    refine va_get (D := D) (ci := 7) (v := .int (pw m0 32 s0 1 4)) (C := RX8) (T := TX8) (N := 44) hx hb hts hin_X8 hown hK hP 0 rfl rfl 7 (by decide) (w_RX8_146) (fun _ h9 => h9) rfl dX8_key_32 ?_
    refine lv_i2l hx hb dX8_key_35 rfl ?_
    refine lv_aload_n hx hb dX8_key_36 rfl (lv_at hl 0 rfl) ?_
    refine va_get (D := D) (ci := 7) (v := .int m3) (C := RX8) (T := TX8) (N := 44) hx hb hts hin_X8 hown hK hP 0 rfl rfl 3 (by decide) (w_RX8_109) (fun _ h9 => h9) rfl dX8_key_37 ?_
    refine lv_i2l hx hb dX8_key_40 rfl ?_
    refine lv_aload_n hx hb dX8_key_41 rfl (lv_at hl 0 rfl) ?_
    refine va_get (D := D) (ci := 7) (v := .int m4) (C := RX8) (T := TX8) (N := 44) hx hb hts hin_X8 hown hK hP 0 rfl rfl 4 (by decide) (w_RX8_112) (fun _ h9 => h9) rfl dX8_key_42 ?_
    refine lv_i2l hx hb dX8_key_45 rfl ?_
    refine wl_call1 (v := .long (dg (dg (dg (dg (cho cf m38 (m38 - 1)) ((1 : Int32).toInt64)) ((pw m0 32 s0 1 4).toInt64)) (m3.toInt64)) m4.toInt64)) (wc := [(h0, .inr (7, [.int m0, .int m1, .int m2, .int m3, .int m4, .ref m5, .int 1, .int (pw m0 32 s0 1 4), .int m8, .ref m9, .ref m10, .ref m11, .int m12, .ref m13, .ref m14, .ref m15, .ref m16, .int m17, .ref m18, .ref m19, .ref m20, .ref m21, .ref m22, .ref m23, .ref m24, .ref m25, .int m26, .int m27, .int m28, .int m29, .int m30, .int m31, .ref m32, .ref m33, .ref m34, .ref m35, .int m36, .ref m37, .int m38, .ref m39, .ref m40, .ref m41, .ref m42, .ref m43])), (m39, .inl (cA 0, 600, .inl kf)), (m40, .inl (cA 2, 600, .inr (.inl (fun i => (xf i).toInt64)))), (m41, .inl (cA 2, 600, .inr (.inl (fun i => (yf i).toInt64)))), (m42, .inl (cA 2, 600, .inr (.inl zf))), (m43, .inl (cA 2, 600, .inr (.inl cf)))]) (w1 := [(h0, .inr (7, [.int m0, .int m1, .int m2, .int m3, .int m4, .ref m5, .int 1, .int (pw m0 32 s0 1 4), .int m8, .ref m9, .ref m10, .ref m11, .int m12, .ref m13, .ref m14, .ref m15, .ref m16, .int m17, .ref m18, .ref m19, .ref m20, .ref m21, .ref m22, .ref m23, .ref m24, .ref m25, .int m26, .int m27, .int m28, .int m29, .int m30, .int m31, .ref m32, .ref m33, .ref m34, .ref m35, .int m36, .ref m37, .int (m38 + 1), .ref m39, .ref m40, .ref m41, .ref m42, .ref m43])), (m39, .inl (cA 0, 600, .inl (upd kf m38.toNatClampNeg 1))), (m40, .inl (cA 2, 600, .inr (.inl (fun i => ((upd xf m38.toNatClampNeg (pw m0 32 s0 1 4)) i).toInt64)))), (m41, .inl (cA 2, 600, .inr (.inl (fun i => ((upd yf m38.toNatClampNeg m3) i).toInt64)))), (m42, .inl (cA 2, 600, .inr (.inl (vp_updL zf m38.toNatClampNeg m4.toInt64)))), (m43, .inl (cA 2, 600, .inr (.inl (vp_updL cf m38.toNatClampNeg (dg (dg (dg (dg (cho cf m38 (m38 - 1)) ((1 : Int32).toInt64)) ((pw m0 32 s0 1 4).toInt64)) (m3.toInt64)) m4.toInt64)))))]) (ws' := [(h0, .inr (7, [.int m0, .int m1, .int m2, .int m3, .int m4, .ref m5, .int 1, .int (pw m0 32 s0 1 4), .int m8, .ref m9, .ref m10, .ref m11, .int m12, .ref m13, .ref m14, .ref m15, .ref m16, .int m17, .ref m18, .ref m19, .ref m20, .ref m21, .ref m22, .ref m23, .ref m24, .ref m25, .int m26, .int m27, .int m28, .int m29, .int m30, .int m31, .ref m32, .ref m33, .ref m34, .ref m35, .int m36, .ref m37, .int (m38 + 1), .ref m39, .ref m40, .ref m41, .ref m42, .ref m43])), (m5, .inl (cA 0, 5, .inl sf)), (m39, .inl (cA 0, 600, .inl (upd kf m38.toNatClampNeg 1))), (m40, .inl (cA 2, 600, .inr (.inl (fun i => ((upd xf m38.toNatClampNeg (pw m0 32 s0 1 4)) i).toInt64)))), (m41, .inl (cA 2, 600, .inr (.inl (fun i => ((upd yf m38.toNatClampNeg m3) i).toInt64)))), (m42, .inl (cA 2, 600, .inr (.inl (vp_updL zf m38.toNatClampNeg m4.toInt64)))), (m43, .inl (cA 2, 600, .inr (.inl (vp_updL cf m38.toNatClampNeg (dg (dg (dg (dg (cho cf m38 (m38 - 1)) ((1 : Int32).toInt64)) ((pw m0 32 s0 1 4).toInt64)) (m3.toInt64)) m4.toInt64)))))]) (wn_V (As := [.int 1, .long (pw m0 32 s0 1 4).toInt64, .long m3.toInt64, .long m4.toInt64]) (rest := []) (ci := 7) (fs := [.int m0, .int m1, .int m2, .int m3, .int m4, .ref m5, .int 1, .int (pw m0 32 s0 1 4), .int m8, .ref m9, .ref m10, .ref m11, .int m12, .ref m13, .ref m14, .ref m15, .ref m16, .int m17, .ref m18, .ref m19, .ref m20, .ref m21, .ref m22, .ref m23, .ref m24, .ref m25, .int m26, .int m27, .int m28, .int m29, .int m30, .int m31, .ref m32, .ref m33, .ref m34, .ref m35, .int m36, .ref m37, .int m38, .ref m39, .ref m40, .ref m41, .ref m42, .ref m43]) ⟨hx, hb, hml, hown, hts⟩ (c_X8_enter l D cA h0 m0 m1 m2 m3 m4 m5 1 (pw m0 32 s0 1 4) m8 m9 m10 m11 m12 m13 m14 m15 m16 m17 m18 m19 m20 m21 m22 m23 m24 m25 m26 m27 m28 m29 m30 m31 m32 m33 m34 m35 m36 m37 m38 m39 m40 m41 m42 m43 kf xf yf zf cf 1 (pw m0 32 s0 1 4) m3 m4.toInt64 n0 hbn h6) rfl (cwV 4 hts gX8_key_X8_enter rfl rfl rfl (by decide +kernel) ⟨Nat.le_of_ble_eq_true rfl, Nat.le_of_ble_eq_true rfl⟩) hK hP hD [0, 2, 3, 4, 5, 6] rfl (by decide) rfl rfl rfl hl.1 rfl (Nat.le_of_ble_eq_true rfl) dX8_key_46 ⟨Nat.le_of_ble_eq_true rfl, Nat.le_of_ble_eq_true rfl⟩) hP hD hS [0, 2, 3, 4, 5, 6] [1] rfl rfl (wr := [(m5, .inl (cA 0, 5, .inl sf))]) rfl rfl (ads := [h0, m5, m39, m40, m41, m42, m43]) rfl rfl (adc := [h0, m39, m40, m41, m42, m43]) rfl rfl rfl (fun H locs hP hD hS => ?_)
    refine lv_lstore_n (lv' := [(1, .long (dg (dg (dg (dg (cho cf m38 (m38 - 1)) ((1 : Int32).toInt64)) ((pw m0 32 s0 1 4).toInt64)) (m3.toInt64)) m4.toInt64)), (0, .ref h0)]) hx hb dX8_key_49 rfl hl (by decide) rfl (fun ls hl => ?_)
    refine lv_aload_n hx hb dX8_key_50 rfl (lv_at hl 1 rfl) ?_
    refine va_get (D := D) (ci := 7) (v := .int (pw m0 32 s0 1 4)) (C := RX8) (T := TX8) (N := 44) hx hb hts hin_X8 hown hK hP 0 rfl rfl 7 (by decide) (w_RX8_146) (fun _ h9 => h9) rfl dX8_key_51 ?_
    have hP9 : va_P D vwCl [(h0, .inr (7, [.int m0, .int m1, .int m2, .int m3, .int m4, .ref m5, .int 1, .int (pw m0 32 s0 1 4), .int m8, .ref m9, .ref m10, .ref m11, .int m12, .ref m13, .ref m14, .ref m15, .ref m16, .int m17, .ref m18, .ref m19, .ref m20, .ref m21, .ref m22, .ref m23, .ref m24, .ref m25, .int m26, .int m27, .int m28, .int m29, .int m30, .int m31, .ref m32, .ref m33, .ref m34, .ref m35, .int m36, .ref m37, .int (m38 + 1), .ref m39, .ref m40, .ref m41, .ref m42, .ref m43])), (m5, .inl (cA 0, 5, .inl sf)), (m39, .inl (cA 0, 600, .inl (upd kf m38.toNatClampNeg 1))), (m40, .inl (cA 2, 600, .inr (.inl (fun i => ((upd xf m38.toNatClampNeg (pw m0 32 s0 1 4)) i).toInt64)))), (m41, .inl (cA 2, 600, .inr (.inl (fun i => ((upd yf m38.toNatClampNeg m3) i).toInt64)))), (m42, .inl (cA 2, 600, .inr (.inl (vp_updL zf m38.toNatClampNeg m4.toInt64)))), (m43, .inl (cA 2, 600, .inr (.inl (vp_updL cf m38.toNatClampNeg (dg (dg (dg (dg (cho cf m38 (m38 - 1)) ((1 : Int32).toInt64)) ((pw m0 32 s0 1 4).toInt64)) (m3.toInt64)) m4.toInt64)))))] H := hP
    exact W.iret (v := (pw m0 32 s0 1 4)) hx hb hr (fun t ht hW => ⟨congrArg (fun z => Outcome.returned (some (Value.int z))) (rfl), by rw [ht]; exact hP9, hS.F ht⟩) hS.2.2 dX8_key_54
  · exact absurd hok c_4

set_option maxHeartbeats 4000000 in
set_option maxRecDepth 100000 in
theorem c_X8_voter_no (l : Launch) (D : va_G) (cA : Nat → ClassId) (h0 : Nat) (m0 : Int32) (m1 : Int32) (m2 : Int32) (m3 : Int32) (m4 : Int32) (m5 : Nat) (m6 : Int32) (m7 : Int32) (m8 : Int32) (m9 : Nat) (m10 : Nat) (m11 : Nat) (m12 : Int32) (m13 : Nat) (m14 : Nat) (m15 : Nat) (m16 : Nat) (m17 : Int32) (m18 : Nat) (m19 : Nat) (m20 : Nat) (m21 : Nat) (m22 : Nat) (m23 : Nat) (m24 : Nat) (m25 : Nat) (m26 : Int32) (m27 : Int32) (m28 : Int32) (m29 : Int32) (m30 : Int32) (m31 : Int32) (m32 : Nat) (m33 : Nat) (m34 : Nat) (m35 : Nat) (m36 : Int32) (m37 : Nat) (m38 : Int32) (m39 : Nat) (m40 : Nat) (m41 : Nat) (m42 : Nat) (m43 : Nat) (v0 : Nat) (hno : ¬ (¬ 1 < m6 ∧ m8 < 40)) (hv0 : m8 = nI v0) (hv4 : v0 ≤ 40) : Met l yX8_voter wsX8_voter ({ frames := 0, cells := 0, slots := 0, locals := 0 }) (rPc vwCl D cA [(h0, .inr (7, [.int m0, .int m1, .int m2, .int m3, .int m4, .ref m5, .int m6, .int m7, .int m8, .ref m9, .ref m10, .ref m11, .int m12, .ref m13, .ref m14, .ref m15, .ref m16, .int m17, .ref m18, .ref m19, .ref m20, .ref m21, .ref m22, .ref m23, .ref m24, .ref m25, .int m26, .int m27, .int m28, .int m29, .int m30, .int m31, .ref m32, .ref m33, .ref m34, .ref m35, .int m36, .ref m37, .int m38, .ref m39, .ref m40, .ref m41, .ref m42, .ref m43]))] [.ref h0]) (rq_x (some (.int (-1)))) 0 0 (fun _ => False) := by
  refine Met.ofW (cc := cX8_voter) (maxL := 1) (ret := (some .int)) (by decide) rfl ?_
  intro p e s m args below meth c s₁ B hml hv
  obtain ⟨rfl, hP, hK⟩ := hv
  have hx := B.exec
  have hb := B.bytes
  have hr := B.returns
  have hts := atoms_spec (ws := wsX8_voter) B.pre
  have hown : s.vm.findClass RX8 = some m.cls := findClass_of_methodNamed B.named
  have hlocks := B.notSynchronized
  have hin_X8 : ∀ w ∈ wsX80, w ∈ wsX8_voter := fun w h => List.mem_cons_of_mem _ (List.mem_append_right _ h)
  have w_RX8_153 := hts (.fieldLink RX8 153 "MixElectionModel" "voters" "I") (by decide +kernel)
  have w_RX8_140 := hts (.fieldLink RX8 140 "MixElectionModel" "stage" "I") (by decide +kernel)
  have hl := lv_entry ([.ref h0]) (n := 1) (Nat.le_of_ble_eq_true rfl)
  rw [lg_entry_eq]
  generalize (lg_sl ([.ref h0]) ++ List.replicate (1 - (lg_sl ([.ref h0])).length) Slot.unset).toArray = ls at hl ⊢
  have hl : lv_has ls 1 [(0, .ref h0)] := hl
  refine lv_aload_n hx hb dX8_voter_0 rfl (lv_at hl 0 rfl) ?_
  refine va_get (D := D) (ci := 7) (v := .int m8) (C := RX8) (T := TX8) (N := 44) hx hb hts hin_X8 hown hK hP 0 rfl rfl 8 (by decide) (w_RX8_153) (fun _ h9 => h9) rfl dX8_voter_1 ?_
  refine lv_bipush (v := 40) hx hb dX8_voter_4 (by decide) ?_
  refine lv_icmp_eq (tgt := 17) hx hb dX8_voter_6 (by decide) (fun c_6 => ?_) (fun c_6 => ?_)
  · skip
    refine lv_iconst (v := (-1)) hx hb dX8_voter_17 (by decide) ?_
    exact W.iret (v := (-1)) hx hb hr (fun t ht hW => ⟨congrArg (fun z => Outcome.returned (some (Value.int z))) (rfl), ht⟩) (fun _ h => by cases h) dX8_voter_18
  · skip
    refine lv_aload_n hx hb dX8_voter_9 rfl (lv_at hl 0 rfl) ?_
    refine va_get (D := D) (ci := 7) (v := .int m6) (C := RX8) (T := TX8) (N := 44) hx hb hts hin_X8 hown hK hP 0 rfl rfl 6 (by decide) (w_RX8_140) (fun _ h9 => h9) rfl dX8_voter_10 ?_
    refine lv_iconst (v := 1) hx hb dX8_voter_13 (by decide) ?_
    refine lv_icmp_le (tgt := 19) hx hb dX8_voter_14 (by decide) (fun c_14 => ?_) (fun c_14 => ?_)
    · skip
      exact absurd ⟨Int32.not_lt.mpr c_14, (vo_40 hv0 hv4).mpr c_6⟩ hno
    · skip
      refine lv_iconst (v := (-1)) hx hb dX8_voter_17 (by decide) ?_
      exact W.iret (v := (-1)) hx hb hr (fun t ht hW => ⟨congrArg (fun z => Outcome.returned (some (Value.int z))) (rfl), ht⟩) (fun _ h => by cases h) dX8_voter_18

set_option maxHeartbeats 4000000 in
set_option maxRecDepth 100000 in
theorem c_X8_voter_ok (l : Launch) (D : va_G) (cA : Nat → ClassId) (h0 : Nat) (m0 : Int32) (m1 : Int32) (m2 : Int32) (m3 : Int32) (m4 : Int32) (m5 : Nat) (m6 : Int32) (m7 : Int32) (m8 : Int32) (m9 : Nat) (m10 : Nat) (m11 : Nat) (m12 : Int32) (m13 : Nat) (m14 : Nat) (m15 : Nat) (m16 : Nat) (m17 : Int32) (m18 : Nat) (m19 : Nat) (m20 : Nat) (m21 : Nat) (m22 : Nat) (m23 : Nat) (m24 : Nat) (m25 : Nat) (m26 : Int32) (m27 : Int32) (m28 : Int32) (m29 : Int32) (m30 : Int32) (m31 : Int32) (m32 : Nat) (m33 : Nat) (m34 : Nat) (m35 : Nat) (m36 : Int32) (m37 : Nat) (m38 : Int32) (m39 : Nat) (m40 : Nat) (m41 : Nat) (m42 : Nat) (m43 : Nat) (v0 : Nat) (hok : ¬ 1 < m6 ∧ m8 < 40) (hv0 : m8 = nI v0) (hv4 : v0 ≤ 40) : Met l yX8_voter wsX8_voter ({ frames := 0, cells := 0, slots := 0, locals := 0 }) (wPc vwCl D cA [(h0, .inr (7, [.int m0, .int m1, .int m2, .int m3, .int m4, .ref m5, .int m6, .int m7, .int m8, .ref m9, .ref m10, .ref m11, .int m12, .ref m13, .ref m14, .ref m15, .ref m16, .int m17, .ref m18, .ref m19, .ref m20, .ref m21, .ref m22, .ref m23, .ref m24, .ref m25, .int m26, .int m27, .int m28, .int m29, .int m30, .int m31, .ref m32, .ref m33, .ref m34, .ref m35, .int m36, .ref m37, .int m38, .ref m39, .ref m40, .ref m41, .ref m42, .ref m43]))] [.ref h0]) (wq_x vwCl D [(h0, .inr (7, [.int m0, .int m1, .int m2, .int m3, .int m4, .ref m5, .int m6, .int m7, .int (m8 + 1), .ref m9, .ref m10, .ref m11, .int m12, .ref m13, .ref m14, .ref m15, .ref m16, .int m17, .ref m18, .ref m19, .ref m20, .ref m21, .ref m22, .ref m23, .ref m24, .ref m25, .int m26, .int m27, .int m28, .int m29, .int m30, .int m31, .ref m32, .ref m33, .ref m34, .ref m35, .int m36, .ref m37, .int m38, .ref m39, .ref m40, .ref m41, .ref m42, .ref m43]))] (some (.int ((m8 + 1) - 1))) (wA [(h0, .inr (7, [.int m0, .int m1, .int m2, .int m3, .int m4, .ref m5, .int m6, .int m7, .int m8, .ref m9, .ref m10, .ref m11, .int m12, .ref m13, .ref m14, .ref m15, .ref m16, .int m17, .ref m18, .ref m19, .ref m20, .ref m21, .ref m22, .ref m23, .ref m24, .ref m25, .int m26, .int m27, .int m28, .int m29, .int m30, .int m31, .ref m32, .ref m33, .ref m34, .ref m35, .int m36, .ref m37, .int m38, .ref m39, .ref m40, .ref m41, .ref m42, .ref m43]))])) 0 0 (wA [(h0, .inr (7, [.int m0, .int m1, .int m2, .int m3, .int m4, .ref m5, .int m6, .int m7, .int m8, .ref m9, .ref m10, .ref m11, .int m12, .ref m13, .ref m14, .ref m15, .ref m16, .int m17, .ref m18, .ref m19, .ref m20, .ref m21, .ref m22, .ref m23, .ref m24, .ref m25, .int m26, .int m27, .int m28, .int m29, .int m30, .int m31, .ref m32, .ref m33, .ref m34, .ref m35, .int m36, .ref m37, .int m38, .ref m39, .ref m40, .ref m41, .ref m42, .ref m43]))]) := by
  refine Met.ofW (cc := cX8_voter) (maxL := 1) (ret := (some .int)) (by decide) rfl ?_
  intro p e s m args below meth c s₁ B hml hv
  obtain ⟨rfl, hP, hK, hD0⟩ := hv
  have hx := B.exec
  have hb := B.bytes
  have hr := B.returns
  have hts := atoms_spec (ws := wsX8_voter) B.pre
  have hown : s.vm.findClass RX8 = some m.cls := findClass_of_methodNamed B.named
  have hlocks := B.notSynchronized
  have hin_X8 : ∀ w ∈ wsX80, w ∈ wsX8_voter := fun w h => List.mem_cons_of_mem _ (List.mem_append_right _ h)
  have w_RX8_153 := hts (.fieldLink RX8 153 "MixElectionModel" "voters" "I") (by decide +kernel)
  have w_RX8_140 := hts (.fieldLink RX8 140 "MixElectionModel" "stage" "I") (by decide +kernel)
  have hD : va_D (wA [(h0, .inr (7, [.int m0, .int m1, .int m2, .int m3, .int m4, .ref m5, .int m6, .int m7, .int m8, .ref m9, .ref m10, .ref m11, .int m12, .ref m13, .ref m14, .ref m15, .ref m16, .int m17, .ref m18, .ref m19, .ref m20, .ref m21, .ref m22, .ref m23, .ref m24, .ref m25, .int m26, .int m27, .int m28, .int m29, .int m30, .int m31, .ref m32, .ref m33, .ref m34, .ref m35, .int m36, .ref m37, .int m38, .ref m39, .ref m40, .ref m41, .ref m42, .ref m43]))]) [(h0, .inr (7, [.int m0, .int m1, .int m2, .int m3, .int m4, .ref m5, .int m6, .int m7, .int m8, .ref m9, .ref m10, .ref m11, .int m12, .ref m13, .ref m14, .ref m15, .ref m16, .int m17, .ref m18, .ref m19, .ref m20, .ref m21, .ref m22, .ref m23, .ref m24, .ref m25, .int m26, .int m27, .int m28, .int m29, .int m30, .int m31, .ref m32, .ref m33, .ref m34, .ref m35, .int m36, .ref m37, .int m38, .ref m39, .ref m40, .ref m41, .ref m42, .ref m43]))] := ⟨hD0.1, fun k q h => List.mem_map.mpr ⟨q, List.mem_of_getElem? h, rfl⟩⟩
  have hS : va_S (wA [(h0, .inr (7, [.int m0, .int m1, .int m2, .int m3, .int m4, .ref m5, .int m6, .int m7, .int m8, .ref m9, .ref m10, .ref m11, .int m12, .ref m13, .ref m14, .ref m15, .ref m16, .int m17, .ref m18, .ref m19, .ref m20, .ref m21, .ref m22, .ref m23, .ref m24, .ref m25, .int m26, .int m27, .int m28, .int m29, .int m30, .int m31, .ref m32, .ref m33, .ref m34, .ref m35, .int m36, .ref m37, .int m38, .ref m39, .ref m40, .ref m41, .ref m42, .ref m43]))]) s.heap s.heap [] := va_S.rf
  generalize hAe : wA [(h0, .inr (7, [.int m0, .int m1, .int m2, .int m3, .int m4, .ref m5, .int m6, .int m7, .int m8, .ref m9, .ref m10, .ref m11, .int m12, .ref m13, .ref m14, .ref m15, .ref m16, .int m17, .ref m18, .ref m19, .ref m20, .ref m21, .ref m22, .ref m23, .ref m24, .ref m25, .int m26, .int m27, .int m28, .int m29, .int m30, .int m31, .ref m32, .ref m33, .ref m34, .ref m35, .int m36, .ref m37, .int m38, .ref m39, .ref m40, .ref m41, .ref m42, .ref m43]))] = A at hD hS ⊢
  have hP : va_P D vwCl [(h0, .inr (7, [.int m0, .int m1, .int m2, .int m3, .int m4, .ref m5, .int m6, .int m7, .int m8, .ref m9, .ref m10, .ref m11, .int m12, .ref m13, .ref m14, .ref m15, .ref m16, .int m17, .ref m18, .ref m19, .ref m20, .ref m21, .ref m22, .ref m23, .ref m24, .ref m25, .int m26, .int m27, .int m28, .int m29, .int m30, .int m31, .ref m32, .ref m33, .ref m34, .ref m35, .int m36, .ref m37, .int m38, .ref m39, .ref m40, .ref m41, .ref m42, .ref m43]))] s.heap := hP
  have hl := lv_entry ([.ref h0]) (n := 1) (Nat.le_of_ble_eq_true rfl)
  rw [lg_entry_eq]
  generalize (lg_sl ([.ref h0]) ++ List.replicate (1 - (lg_sl ([.ref h0])).length) Slot.unset).toArray = ls at hl ⊢
  have hl : lv_has ls 1 [(0, .ref h0)] := hl
  refine lv_aload_n hx hb dX8_voter_0 rfl (lv_at hl 0 rfl) ?_
  refine va_get (D := D) (ci := 7) (v := .int m8) (C := RX8) (T := TX8) (N := 44) hx hb hts hin_X8 hown hK hP 0 rfl rfl 8 (by decide) (w_RX8_153) (fun _ h9 => h9) rfl dX8_voter_1 ?_
  refine lv_bipush (v := 40) hx hb dX8_voter_4 (by decide) ?_
  refine lv_icmp_eq (tgt := 17) hx hb dX8_voter_6 (by decide) (fun c_6 => ?_) (fun c_6 => ?_)
  · exact absurd c_6 ((vo_40 hv0 hv4).mp hok.2)
  · skip
    refine lv_aload_n hx hb dX8_voter_9 rfl (lv_at hl 0 rfl) ?_
    refine va_get (D := D) (ci := 7) (v := .int m6) (C := RX8) (T := TX8) (N := 44) hx hb hts hin_X8 hown hK hP 0 rfl rfl 6 (by decide) (w_RX8_140) (fun _ h9 => h9) rfl dX8_voter_10 ?_
    refine lv_iconst (v := 1) hx hb dX8_voter_13 (by decide) ?_
    refine lv_icmp_le (tgt := 19) hx hb dX8_voter_14 (by decide) (fun c_14 => ?_) (fun c_14 => ?_)
    · skip
      refine lv_aload_n hx hb dX8_voter_19 rfl (lv_at hl 0 rfl) ?_
      refine lv_dup hx hb dX8_voter_20 rfl ?_
      refine va_get (D := D) (ci := 7) (v := .int m8) (C := RX8) (T := TX8) (N := 44) hx hb hts hin_X8 hown hK hP 0 rfl rfl 8 (by decide) (w_RX8_153) (fun _ h9 => h9) rfl dX8_voter_21 ?_
      refine lv_iconst (v := 1) hx hb dX8_voter_24 (by decide) ?_
      refine lv_iadd hx hb dX8_voter_25 ?_
      refine va_put (D := D) (ci := 7) (v := .int (m8 + 1)) (ty := .int) (C := RX8) (T := TX8) (N := 44) hx hb hts hin_X8 tyX8 tyX8_ok nmX8 hown hK hP hD hS 0 rfl rfl 8 (by decide) (w_RX8_153) (fun _ h9 => h9) rfl (by decide +kernel) rfl rfl (Nat.le_of_ble_eq_true rfl) dX8_voter_26 (fun H locs hP hD hS => ?_)
      have hP : va_P D vwCl [(h0, .inr (7, [.int m0, .int m1, .int m2, .int m3, .int m4, .ref m5, .int m6, .int m7, .int (m8 + 1), .ref m9, .ref m10, .ref m11, .int m12, .ref m13, .ref m14, .ref m15, .ref m16, .int m17, .ref m18, .ref m19, .ref m20, .ref m21, .ref m22, .ref m23, .ref m24, .ref m25, .int m26, .int m27, .int m28, .int m29, .int m30, .int m31, .ref m32, .ref m33, .ref m34, .ref m35, .int m36, .ref m37, .int m38, .ref m39, .ref m40, .ref m41, .ref m42, .ref m43]))] H := hP
      have hD : va_D A [(h0, .inr (7, [.int m0, .int m1, .int m2, .int m3, .int m4, .ref m5, .int m6, .int m7, .int (m8 + 1), .ref m9, .ref m10, .ref m11, .int m12, .ref m13, .ref m14, .ref m15, .ref m16, .int m17, .ref m18, .ref m19, .ref m20, .ref m21, .ref m22, .ref m23, .ref m24, .ref m25, .int m26, .int m27, .int m28, .int m29, .int m30, .int m31, .ref m32, .ref m33, .ref m34, .ref m35, .int m36, .ref m37, .int m38, .ref m39, .ref m40, .ref m41, .ref m42, .ref m43]))] := hD
      refine lv_aload_n hx hb dX8_voter_29 rfl (lv_at hl 0 rfl) ?_
      refine va_get (D := D) (ci := 7) (v := .int (m8 + 1)) (C := RX8) (T := TX8) (N := 44) hx hb hts hin_X8 hown hK hP 0 rfl rfl 8 (by decide) (w_RX8_153) (fun _ h9 => h9) rfl dX8_voter_30 ?_
      refine lv_iconst (v := 1) hx hb dX8_voter_33 (by decide) ?_
      refine lv_isub hx hb dX8_voter_34 ?_
      have hP9 : va_P D vwCl [(h0, .inr (7, [.int m0, .int m1, .int m2, .int m3, .int m4, .ref m5, .int m6, .int m7, .int (m8 + 1), .ref m9, .ref m10, .ref m11, .int m12, .ref m13, .ref m14, .ref m15, .ref m16, .int m17, .ref m18, .ref m19, .ref m20, .ref m21, .ref m22, .ref m23, .ref m24, .ref m25, .int m26, .int m27, .int m28, .int m29, .int m30, .int m31, .ref m32, .ref m33, .ref m34, .ref m35, .int m36, .ref m37, .int m38, .ref m39, .ref m40, .ref m41, .ref m42, .ref m43]))] H := hP
      exact W.iret (v := ((m8 + 1) - 1)) hx hb hr (fun t ht hW => ⟨congrArg (fun z => Outcome.returned (some (Value.int z))) (rfl), by rw [ht]; exact hP9, hS.F ht⟩) hS.2.2 dX8_voter_35
    · exact absurd (Int32.not_lt.mp hok.1) c_14

set_option maxHeartbeats 4000000 in
set_option maxRecDepth 100000 in
theorem c_X8_mayCast (l : Launch) (D : va_G) (cA : Nat → ClassId) (h0 : Nat) (m0 : Int32) (m1 : Int32) (m2 : Int32) (m3 : Int32) (m4 : Int32) (m5 : Nat) (m6 : Int32) (m7 : Int32) (m8 : Int32) (m9 : Nat) (m10 : Nat) (m11 : Nat) (m12 : Int32) (m13 : Nat) (m14 : Nat) (m15 : Nat) (m16 : Nat) (m17 : Int32) (m18 : Nat) (m19 : Nat) (m20 : Nat) (m21 : Nat) (m22 : Nat) (m23 : Nat) (m24 : Nat) (m25 : Nat) (m26 : Int32) (m27 : Int32) (m28 : Int32) (m29 : Int32) (m30 : Int32) (m31 : Int32) (m32 : Nat) (m33 : Nat) (m34 : Nat) (m35 : Nat) (m36 : Int32) (m37 : Nat) (m38 : Int32) (m39 : Nat) (m40 : Nat) (m41 : Nat) (m42 : Nat) (m43 : Nat) (v : Int32) (v0 : Nat) (hv0 : m8 = nI v0) (hv4 : v0 ≤ 40) : Met l yX8_mayCast wsX8_mayCast ({ frames := 1, cells := 0, slots := 0, locals := 22 }) (rPc vwCl D cA [(h0, .inr (7, [.int m0, .int m1, .int m2, .int m3, .int m4, .ref m5, .int m6, .int m7, .int m8, .ref m9, .ref m10, .ref m11, .int m12, .ref m13, .ref m14, .ref m15, .ref m16, .int m17, .ref m18, .ref m19, .ref m20, .ref m21, .ref m22, .ref m23, .ref m24, .ref m25, .int m26, .int m27, .int m28, .int m29, .int m30, .int m31, .ref m32, .ref m33, .ref m34, .ref m35, .int m36, .ref m37, .int m38, .ref m39, .ref m40, .ref m41, .ref m42, .ref m43]))] [.ref h0, .int v]) (rq_x (some (.int (bI (m6 = 1 ∧ 0 ≤ v ∧ v < m8 ∧ m38 < 500))))) 0 0 (fun _ => False) := by
  refine Met.ofW (cc := cX8_mayCast) (maxL := 2) (ret := (some .boolean)) (by decide) rfl ?_
  intro p e s m args below meth c s₁ B hml hv
  obtain ⟨rfl, hP, hK⟩ := hv
  have hx := B.exec
  have hb := B.bytes
  have hr := B.returns
  have hts := atoms_spec (ws := wsX8_mayCast) B.pre
  have hown : s.vm.findClass RX8 = some m.cls := findClass_of_methodNamed B.named
  have hlocks := B.notSynchronized
  have hin_X8 : ∀ w ∈ wsX80, w ∈ wsX8_mayCast := fun w h => List.mem_cons_of_mem _ (List.mem_append_right _ h)
  have w_RX8_140 := hts (.fieldLink RX8 140 "MixElectionModel" "stage" "I") (by decide +kernel)
  have w_RX8_153 := hts (.fieldLink RX8 153 "MixElectionModel" "voters" "I") (by decide +kernel)
  have w_RX8_135 := hts (.fieldLink RX8 135 "MixElectionModel" "entries" "I") (by decide +kernel)
  have hl := lv_entry ([.ref h0, .int v]) (n := 2) (Nat.le_of_ble_eq_true rfl)
  rw [lg_entry_eq]
  generalize (lg_sl ([.ref h0, .int v]) ++ List.replicate (2 - (lg_sl ([.ref h0, .int v])).length) Slot.unset).toArray = ls at hl ⊢
  have hl : lv_has ls 2 [(0, .ref h0), (1, .int v)] := hl
  refine lv_aload_n hx hb dX8_mayCast_0 rfl (lv_at hl 0 rfl) ?_
  refine va_get (D := D) (ci := 7) (v := .int m6) (C := RX8) (T := TX8) (N := 44) hx hb hts hin_X8 hown hK hP 0 rfl rfl 6 (by decide) (w_RX8_140) (fun _ h9 => h9) rfl dX8_mayCast_1 ?_
  refine lv_iconst (v := 1) hx hb dX8_mayCast_4 (by decide) ?_
  refine lv_icmp_ne (tgt := 36) hx hb dX8_mayCast_5 (by decide) (fun c_5 => ?_) (fun c_5 => ?_)
  · skip
    refine lv_iconst (v := 0) hx hb dX8_mayCast_36 (by decide) ?_
    exact W.zret (v := 0) hx hb hr rfl (fun t ht hW => ⟨congrArg (fun z => Outcome.returned (some (Value.int z))) (bI_f (fun h => c_5 h.1)), ht⟩) (fun _ h => by cases h) dX8_mayCast_37
  · skip
    refine lv_iload_n hx hb dX8_mayCast_8 rfl (lv_at hl 1 rfl) ?_
    refine lv_iconst (v := 0) hx hb dX8_mayCast_9 (by decide) ?_
    refine lv_aload_n hx hb dX8_mayCast_10 rfl (lv_at hl 0 rfl) ?_
    refine va_get (D := D) (ci := 7) (v := .int m8) (C := RX8) (T := TX8) (N := 44) hx hb hts hin_X8 hown hK hP 0 rfl rfl 8 (by decide) (w_RX8_153) (fun _ h9 => h9) rfl dX8_mayCast_11 ?_
    refine lv_iconst (v := 1) hx hb dX8_mayCast_14 (by decide) ?_
    refine lv_isub hx hb dX8_mayCast_15 ?_
    refine rq_call1 (v := .int (bI (0 ≤ v ∧ v ≤ (m8 - 1)))) (rn_S (As := [.int v, .int 0, .int (m8 - 1)]) (rest := []) ⟨hx, hb, hml, hown, hts⟩ (c_X8_in l D cA v 0 (m8 - 1)) (va_cwS 3 hts gX8_mayCast_X8_in rfl rfl rfl (by decide +kernel) ⟨Nat.le_of_ble_eq_true rfl, Nat.le_of_ble_eq_true rfl⟩) hK hP [] rfl rfl hl.1 rfl (Nat.le_of_ble_eq_true rfl) dX8_mayCast_16 ⟨Nat.le_of_ble_eq_true rfl, Nat.le_of_ble_eq_true rfl⟩) ?_
    refine lv_if_eq (tgt := 36) hx hb dX8_mayCast_19 (by decide) (fun c_19 => ?_) (fun c_19 => ?_)
    · skip
      refine lv_iconst (v := 0) hx hb dX8_mayCast_36 (by decide) ?_
      exact W.zret (v := 0) hx hb hr rfl (fun t ht hW => ⟨congrArg (fun z => Outcome.returned (some (Value.int z))) (bI_f (fun h => bI_0 c_19 ((in_1 hv0 (by omega)).mpr ⟨h.2.1, h.2.2.1⟩))), ht⟩) (fun _ h => by cases h) dX8_mayCast_37
    · skip
      refine lv_aload_n hx hb dX8_mayCast_22 rfl (lv_at hl 0 rfl) ?_
      refine va_get (D := D) (ci := 7) (v := .int m38) (C := RX8) (T := TX8) (N := 44) hx hb hts hin_X8 hown hK hP 0 rfl rfl 38 (by decide) (w_RX8_135) (fun _ h9 => h9) rfl dX8_mayCast_23 ?_
      refine lv_sipush (v := 500) hx hb dX8_mayCast_26 (by decide) ?_
      refine lv_icmp_ge (tgt := 36) hx hb dX8_mayCast_29 (by decide) (fun c_29 => ?_) (fun c_29 => ?_)
      · skip
        refine lv_iconst (v := 0) hx hb dX8_mayCast_36 (by decide) ?_
        exact W.zret (v := 0) hx hb hr rfl (fun t ht hW => ⟨congrArg (fun z => Outcome.returned (some (Value.int z))) (bI_f (fun h => absurd h.2.2.2 (Int32.not_lt.mpr c_29))), ht⟩) (fun _ h => by cases h) dX8_mayCast_37
      · skip
        refine lv_iconst (v := 1) hx hb dX8_mayCast_32 (by decide) ?_
        refine lv_goto (tgt := 37) hx hb dX8_mayCast_33 (by decide) ?_
        exact W.zret (v := 1) hx hb hr rfl (fun t ht hW => ⟨congrArg (fun z => Outcome.returned (some (Value.int z))) (bI_t ⟨c_5, (bI_1 c_19).1, ((in_1 hv0 (by omega)).mp (bI_1 c_19)).2, Int32.not_le.mp c_29⟩), ht⟩) (fun _ h => by cases h) dX8_mayCast_37

set_option maxHeartbeats 4000000 in
set_option maxRecDepth 100000 in
theorem c_X8_casts (l : Launch) (D : va_G) (cA : Nat → ClassId) (h0 : Nat) (m0 : Int32) (m1 : Int32) (m2 : Int32) (m3 : Int32) (m4 : Int32) (m5 : Nat) (m6 : Int32) (m7 : Int32) (m8 : Int32) (m9 : Nat) (m10 : Nat) (m11 : Nat) (m12 : Int32) (m13 : Nat) (m14 : Nat) (m15 : Nat) (m16 : Nat) (m17 : Int32) (m18 : Nat) (m19 : Nat) (m20 : Nat) (m21 : Nat) (m22 : Nat) (m23 : Nat) (m24 : Nat) (m25 : Nat) (m26 : Int32) (m27 : Int32) (m28 : Int32) (m29 : Int32) (m30 : Int32) (m31 : Int32) (m32 : Nat) (m33 : Nat) (m34 : Nat) (m35 : Nat) (m36 : Int32) (m37 : Nat) (m38 : Int32) (m39 : Nat) (m40 : Nat) (m41 : Nat) (m42 : Nat) (m43 : Nat) (v : Int32) (va : Int32) (vb : Int32) (w0 : Nat) (n0 : Nat) (hcf : Nat → Int32) (caf : Nat → Int32) (cbf : Nat → Int32) (kf : Nat → Int32) (xf : Nat → Int32) (yf : Nat → Int32) (zf : Nat → Int64) (cf : Nat → Int64) (hw0 : v = nI w0) (hw4 : w0 < 40) (hbn : m38 = nI n0) (h6 : n0 < 600) : Met l yX8_casts wsX8_casts ({ frames := 2, cells := 0, slots := 0, locals := 52 }) (wPc vwCl D cA [(h0, .inr (7, [.int m0, .int m1, .int m2, .int m3, .int m4, .ref m5, .int m6, .int m7, .int m8, .ref m9, .ref m10, .ref m11, .int m12, .ref m13, .ref m14, .ref m15, .ref m16, .int m17, .ref m18, .ref m19, .ref m20, .ref m21, .ref m22, .ref m23, .ref m24, .ref m25, .int m26, .int m27, .int m28, .int m29, .int m30, .int m31, .ref m32, .ref m33, .ref m34, .ref m35, .int m36, .ref m37, .int m38, .ref m39, .ref m40, .ref m41, .ref m42, .ref m43])), (m9, .inl (cA 1, 40, .inl hcf)), (m10, .inl (cA 0, 40, .inl caf)), (m11, .inl (cA 0, 40, .inl cbf)), (m39, .inl (cA 0, 600, .inl kf)), (m40, .inl (cA 2, 600, .inr (.inl (fun i => (xf i).toInt64)))), (m41, .inl (cA 2, 600, .inr (.inl (fun i => (yf i).toInt64)))), (m42, .inl (cA 2, 600, .inr (.inl zf))), (m43, .inl (cA 2, 600, .inr (.inl cf)))] [.ref h0, .int v, .int va, .int vb]) (wq_x vwCl D [(h0, .inr (7, [.int m0, .int m1, .int m2, .int m3, .int m4, .ref m5, .int m6, .int m7, .int m8, .ref m9, .ref m10, .ref m11, .int m12, .ref m13, .ref m14, .ref m15, .ref m16, .int m17, .ref m18, .ref m19, .ref m20, .ref m21, .ref m22, .ref m23, .ref m24, .ref m25, .int m26, .int m27, .int m28, .int m29, .int m30, .int m31, .ref m32, .ref m33, .ref m34, .ref m35, .int m36, .ref m37, .int (m38 + 1), .ref m39, .ref m40, .ref m41, .ref m42, .ref m43])), (m9, .inl (cA 1, 40, .inl (upd hcf v.toNatClampNeg (vp_nar .boolean 1)))), (m10, .inl (cA 0, 40, .inl (upd caf v.toNatClampNeg va))), (m11, .inl (cA 0, 40, .inl (upd cbf v.toNatClampNeg vb))), (m39, .inl (cA 0, 600, .inl (upd kf m38.toNatClampNeg 2))), (m40, .inl (cA 2, 600, .inr (.inl (fun i => ((upd xf m38.toNatClampNeg v) i).toInt64)))), (m41, .inl (cA 2, 600, .inr (.inl (fun i => ((upd yf m38.toNatClampNeg va) i).toInt64)))), (m42, .inl (cA 2, 600, .inr (.inl (vp_updL zf m38.toNatClampNeg vb.toInt64)))), (m43, .inl (cA 2, 600, .inr (.inl (vp_updL cf m38.toNatClampNeg (dg (dg (dg (dg (cho cf m38 (m38 - 1)) ((2 : Int32).toInt64)) (v.toInt64)) (va.toInt64)) vb.toInt64)))))] (some (.long (dg (dg (dg (dg (cho cf m38 (m38 - 1)) ((2 : Int32).toInt64)) (v.toInt64)) (va.toInt64)) vb.toInt64))) (wA [(h0, .inr (7, [.int m0, .int m1, .int m2, .int m3, .int m4, .ref m5, .int m6, .int m7, .int m8, .ref m9, .ref m10, .ref m11, .int m12, .ref m13, .ref m14, .ref m15, .ref m16, .int m17, .ref m18, .ref m19, .ref m20, .ref m21, .ref m22, .ref m23, .ref m24, .ref m25, .int m26, .int m27, .int m28, .int m29, .int m30, .int m31, .ref m32, .ref m33, .ref m34, .ref m35, .int m36, .ref m37, .int m38, .ref m39, .ref m40, .ref m41, .ref m42, .ref m43])), (m9, .inl (cA 1, 40, .inl hcf)), (m10, .inl (cA 0, 40, .inl caf)), (m11, .inl (cA 0, 40, .inl cbf)), (m39, .inl (cA 0, 600, .inl kf)), (m40, .inl (cA 2, 600, .inr (.inl (fun i => (xf i).toInt64)))), (m41, .inl (cA 2, 600, .inr (.inl (fun i => (yf i).toInt64)))), (m42, .inl (cA 2, 600, .inr (.inl zf))), (m43, .inl (cA 2, 600, .inr (.inl cf)))])) 0 0 (wA [(h0, .inr (7, [.int m0, .int m1, .int m2, .int m3, .int m4, .ref m5, .int m6, .int m7, .int m8, .ref m9, .ref m10, .ref m11, .int m12, .ref m13, .ref m14, .ref m15, .ref m16, .int m17, .ref m18, .ref m19, .ref m20, .ref m21, .ref m22, .ref m23, .ref m24, .ref m25, .int m26, .int m27, .int m28, .int m29, .int m30, .int m31, .ref m32, .ref m33, .ref m34, .ref m35, .int m36, .ref m37, .int m38, .ref m39, .ref m40, .ref m41, .ref m42, .ref m43])), (m9, .inl (cA 1, 40, .inl hcf)), (m10, .inl (cA 0, 40, .inl caf)), (m11, .inl (cA 0, 40, .inl cbf)), (m39, .inl (cA 0, 600, .inl kf)), (m40, .inl (cA 2, 600, .inr (.inl (fun i => (xf i).toInt64)))), (m41, .inl (cA 2, 600, .inr (.inl (fun i => (yf i).toInt64)))), (m42, .inl (cA 2, 600, .inr (.inl zf))), (m43, .inl (cA 2, 600, .inr (.inl cf)))]) := by
  refine Met.ofW (cc := cX8_casts) (maxL := 4) (ret := (some .long)) (by decide) rfl ?_
  intro p e s m args below meth c s₁ B hml hv
  obtain ⟨rfl, hP, hK, hD0⟩ := hv
  have hx := B.exec
  have hb := B.bytes
  have hr := B.returns
  have hts := atoms_spec (ws := wsX8_casts) B.pre
  have hown : s.vm.findClass RX8 = some m.cls := findClass_of_methodNamed B.named
  have hlocks := B.notSynchronized
  have hin_X8 : ∀ w ∈ wsX80, w ∈ wsX8_casts := fun w h => List.mem_cons_of_mem _ (List.mem_append_right _ h)
  have w_RX8_13 := hts (.fieldLink RX8 13 "MixElectionModel" "hasCast" "[Z") (by decide +kernel)
  have w_RX8_17 := hts (.fieldLink RX8 17 "MixElectionModel" "castA" "[I") (by decide +kernel)
  have w_RX8_20 := hts (.fieldLink RX8 20 "MixElectionModel" "castB" "[I") (by decide +kernel)
  have hD : va_D (wA [(h0, .inr (7, [.int m0, .int m1, .int m2, .int m3, .int m4, .ref m5, .int m6, .int m7, .int m8, .ref m9, .ref m10, .ref m11, .int m12, .ref m13, .ref m14, .ref m15, .ref m16, .int m17, .ref m18, .ref m19, .ref m20, .ref m21, .ref m22, .ref m23, .ref m24, .ref m25, .int m26, .int m27, .int m28, .int m29, .int m30, .int m31, .ref m32, .ref m33, .ref m34, .ref m35, .int m36, .ref m37, .int m38, .ref m39, .ref m40, .ref m41, .ref m42, .ref m43])), (m9, .inl (cA 1, 40, .inl hcf)), (m10, .inl (cA 0, 40, .inl caf)), (m11, .inl (cA 0, 40, .inl cbf)), (m39, .inl (cA 0, 600, .inl kf)), (m40, .inl (cA 2, 600, .inr (.inl (fun i => (xf i).toInt64)))), (m41, .inl (cA 2, 600, .inr (.inl (fun i => (yf i).toInt64)))), (m42, .inl (cA 2, 600, .inr (.inl zf))), (m43, .inl (cA 2, 600, .inr (.inl cf)))]) [(h0, .inr (7, [.int m0, .int m1, .int m2, .int m3, .int m4, .ref m5, .int m6, .int m7, .int m8, .ref m9, .ref m10, .ref m11, .int m12, .ref m13, .ref m14, .ref m15, .ref m16, .int m17, .ref m18, .ref m19, .ref m20, .ref m21, .ref m22, .ref m23, .ref m24, .ref m25, .int m26, .int m27, .int m28, .int m29, .int m30, .int m31, .ref m32, .ref m33, .ref m34, .ref m35, .int m36, .ref m37, .int m38, .ref m39, .ref m40, .ref m41, .ref m42, .ref m43])), (m9, .inl (cA 1, 40, .inl hcf)), (m10, .inl (cA 0, 40, .inl caf)), (m11, .inl (cA 0, 40, .inl cbf)), (m39, .inl (cA 0, 600, .inl kf)), (m40, .inl (cA 2, 600, .inr (.inl (fun i => (xf i).toInt64)))), (m41, .inl (cA 2, 600, .inr (.inl (fun i => (yf i).toInt64)))), (m42, .inl (cA 2, 600, .inr (.inl zf))), (m43, .inl (cA 2, 600, .inr (.inl cf)))] := ⟨hD0.1, fun k q h => List.mem_map.mpr ⟨q, List.mem_of_getElem? h, rfl⟩⟩
  have hS : va_S (wA [(h0, .inr (7, [.int m0, .int m1, .int m2, .int m3, .int m4, .ref m5, .int m6, .int m7, .int m8, .ref m9, .ref m10, .ref m11, .int m12, .ref m13, .ref m14, .ref m15, .ref m16, .int m17, .ref m18, .ref m19, .ref m20, .ref m21, .ref m22, .ref m23, .ref m24, .ref m25, .int m26, .int m27, .int m28, .int m29, .int m30, .int m31, .ref m32, .ref m33, .ref m34, .ref m35, .int m36, .ref m37, .int m38, .ref m39, .ref m40, .ref m41, .ref m42, .ref m43])), (m9, .inl (cA 1, 40, .inl hcf)), (m10, .inl (cA 0, 40, .inl caf)), (m11, .inl (cA 0, 40, .inl cbf)), (m39, .inl (cA 0, 600, .inl kf)), (m40, .inl (cA 2, 600, .inr (.inl (fun i => (xf i).toInt64)))), (m41, .inl (cA 2, 600, .inr (.inl (fun i => (yf i).toInt64)))), (m42, .inl (cA 2, 600, .inr (.inl zf))), (m43, .inl (cA 2, 600, .inr (.inl cf)))]) s.heap s.heap [] := va_S.rf
  generalize hAe : wA [(h0, .inr (7, [.int m0, .int m1, .int m2, .int m3, .int m4, .ref m5, .int m6, .int m7, .int m8, .ref m9, .ref m10, .ref m11, .int m12, .ref m13, .ref m14, .ref m15, .ref m16, .int m17, .ref m18, .ref m19, .ref m20, .ref m21, .ref m22, .ref m23, .ref m24, .ref m25, .int m26, .int m27, .int m28, .int m29, .int m30, .int m31, .ref m32, .ref m33, .ref m34, .ref m35, .int m36, .ref m37, .int m38, .ref m39, .ref m40, .ref m41, .ref m42, .ref m43])), (m9, .inl (cA 1, 40, .inl hcf)), (m10, .inl (cA 0, 40, .inl caf)), (m11, .inl (cA 0, 40, .inl cbf)), (m39, .inl (cA 0, 600, .inl kf)), (m40, .inl (cA 2, 600, .inr (.inl (fun i => (xf i).toInt64)))), (m41, .inl (cA 2, 600, .inr (.inl (fun i => (yf i).toInt64)))), (m42, .inl (cA 2, 600, .inr (.inl zf))), (m43, .inl (cA 2, 600, .inr (.inl cf)))] = A at hD hS ⊢
  have hP : va_P D vwCl [(h0, .inr (7, [.int m0, .int m1, .int m2, .int m3, .int m4, .ref m5, .int m6, .int m7, .int m8, .ref m9, .ref m10, .ref m11, .int m12, .ref m13, .ref m14, .ref m15, .ref m16, .int m17, .ref m18, .ref m19, .ref m20, .ref m21, .ref m22, .ref m23, .ref m24, .ref m25, .int m26, .int m27, .int m28, .int m29, .int m30, .int m31, .ref m32, .ref m33, .ref m34, .ref m35, .int m36, .ref m37, .int m38, .ref m39, .ref m40, .ref m41, .ref m42, .ref m43])), (m9, .inl (cA 1, 40, .inl hcf)), (m10, .inl (cA 0, 40, .inl caf)), (m11, .inl (cA 0, 40, .inl cbf)), (m39, .inl (cA 0, 600, .inl kf)), (m40, .inl (cA 2, 600, .inr (.inl (fun i => (xf i).toInt64)))), (m41, .inl (cA 2, 600, .inr (.inl (fun i => (yf i).toInt64)))), (m42, .inl (cA 2, 600, .inr (.inl zf))), (m43, .inl (cA 2, 600, .inr (.inl cf)))] s.heap := hP
  have hl := lv_entry ([.ref h0, .int v, .int va, .int vb]) (n := 4) (Nat.le_of_ble_eq_true rfl)
  rw [lg_entry_eq]
  generalize (lg_sl ([.ref h0, .int v, .int va, .int vb]) ++ List.replicate (4 - (lg_sl ([.ref h0, .int v, .int va, .int vb])).length) Slot.unset).toArray = ls at hl ⊢
  have hl : lv_has ls 4 [(0, .ref h0), (1, .int v), (2, .int va), (3, .int vb)] := hl
  refine lv_aload_n hx hb dX8_casts_0 rfl (lv_at hl 0 rfl) ?_
  refine va_get (D := D) (ci := 7) (v := .ref m9) (C := RX8) (T := TX8) (N := 44) hx hb hts hin_X8 hown hK hP 0 rfl rfl 9 (by decide) (w_RX8_13) (fun _ h9 => h9) rfl dX8_casts_1 ?_
  refine lv_iload_n hx hb dX8_casts_4 rfl (lv_at hl 1 rfl) ?_
  refine lv_iconst (v := 1) hx hb dX8_casts_5 (by decide) ?_
  refine va_zast hx hb hK hP hD hS 1 1 rfl rfl (p4_in hw0 hw4) dX8_casts_6 (fun H locs hP hD hS => ?_)
  have hP : va_P D vwCl [(h0, .inr (7, [.int m0, .int m1, .int m2, .int m3, .int m4, .ref m5, .int m6, .int m7, .int m8, .ref m9, .ref m10, .ref m11, .int m12, .ref m13, .ref m14, .ref m15, .ref m16, .int m17, .ref m18, .ref m19, .ref m20, .ref m21, .ref m22, .ref m23, .ref m24, .ref m25, .int m26, .int m27, .int m28, .int m29, .int m30, .int m31, .ref m32, .ref m33, .ref m34, .ref m35, .int m36, .ref m37, .int m38, .ref m39, .ref m40, .ref m41, .ref m42, .ref m43])), (m9, .inl (cA 1, 40, .inl (upd hcf v.toNatClampNeg (vp_nar .boolean 1)))), (m10, .inl (cA 0, 40, .inl caf)), (m11, .inl (cA 0, 40, .inl cbf)), (m39, .inl (cA 0, 600, .inl kf)), (m40, .inl (cA 2, 600, .inr (.inl (fun i => (xf i).toInt64)))), (m41, .inl (cA 2, 600, .inr (.inl (fun i => (yf i).toInt64)))), (m42, .inl (cA 2, 600, .inr (.inl zf))), (m43, .inl (cA 2, 600, .inr (.inl cf)))] H := hP
  have hD : va_D A [(h0, .inr (7, [.int m0, .int m1, .int m2, .int m3, .int m4, .ref m5, .int m6, .int m7, .int m8, .ref m9, .ref m10, .ref m11, .int m12, .ref m13, .ref m14, .ref m15, .ref m16, .int m17, .ref m18, .ref m19, .ref m20, .ref m21, .ref m22, .ref m23, .ref m24, .ref m25, .int m26, .int m27, .int m28, .int m29, .int m30, .int m31, .ref m32, .ref m33, .ref m34, .ref m35, .int m36, .ref m37, .int m38, .ref m39, .ref m40, .ref m41, .ref m42, .ref m43])), (m9, .inl (cA 1, 40, .inl (upd hcf v.toNatClampNeg (vp_nar .boolean 1)))), (m10, .inl (cA 0, 40, .inl caf)), (m11, .inl (cA 0, 40, .inl cbf)), (m39, .inl (cA 0, 600, .inl kf)), (m40, .inl (cA 2, 600, .inr (.inl (fun i => (xf i).toInt64)))), (m41, .inl (cA 2, 600, .inr (.inl (fun i => (yf i).toInt64)))), (m42, .inl (cA 2, 600, .inr (.inl zf))), (m43, .inl (cA 2, 600, .inr (.inl cf)))] := hD
  refine lv_aload_n hx hb dX8_casts_7 rfl (lv_at hl 0 rfl) ?_
  refine va_get (D := D) (ci := 7) (v := .ref m10) (C := RX8) (T := TX8) (N := 44) hx hb hts hin_X8 hown hK hP 0 rfl rfl 10 (by decide) (w_RX8_17) (fun _ h9 => h9) rfl dX8_casts_8 ?_
  refine lv_iload_n hx hb dX8_casts_11 rfl (lv_at hl 1 rfl) ?_
  refine lv_iload_n hx hb dX8_casts_12 rfl (lv_at hl 2 rfl) ?_
  refine va_iast hx hb hK hP hD hS 2 0 rfl rfl (p4_in hw0 hw4) dX8_casts_13 (fun H locs hP hD hS => ?_)
  have hP : va_P D vwCl [(h0, .inr (7, [.int m0, .int m1, .int m2, .int m3, .int m4, .ref m5, .int m6, .int m7, .int m8, .ref m9, .ref m10, .ref m11, .int m12, .ref m13, .ref m14, .ref m15, .ref m16, .int m17, .ref m18, .ref m19, .ref m20, .ref m21, .ref m22, .ref m23, .ref m24, .ref m25, .int m26, .int m27, .int m28, .int m29, .int m30, .int m31, .ref m32, .ref m33, .ref m34, .ref m35, .int m36, .ref m37, .int m38, .ref m39, .ref m40, .ref m41, .ref m42, .ref m43])), (m9, .inl (cA 1, 40, .inl (upd hcf v.toNatClampNeg (vp_nar .boolean 1)))), (m10, .inl (cA 0, 40, .inl (upd caf v.toNatClampNeg va))), (m11, .inl (cA 0, 40, .inl cbf)), (m39, .inl (cA 0, 600, .inl kf)), (m40, .inl (cA 2, 600, .inr (.inl (fun i => (xf i).toInt64)))), (m41, .inl (cA 2, 600, .inr (.inl (fun i => (yf i).toInt64)))), (m42, .inl (cA 2, 600, .inr (.inl zf))), (m43, .inl (cA 2, 600, .inr (.inl cf)))] H := hP
  have hD : va_D A [(h0, .inr (7, [.int m0, .int m1, .int m2, .int m3, .int m4, .ref m5, .int m6, .int m7, .int m8, .ref m9, .ref m10, .ref m11, .int m12, .ref m13, .ref m14, .ref m15, .ref m16, .int m17, .ref m18, .ref m19, .ref m20, .ref m21, .ref m22, .ref m23, .ref m24, .ref m25, .int m26, .int m27, .int m28, .int m29, .int m30, .int m31, .ref m32, .ref m33, .ref m34, .ref m35, .int m36, .ref m37, .int m38, .ref m39, .ref m40, .ref m41, .ref m42, .ref m43])), (m9, .inl (cA 1, 40, .inl (upd hcf v.toNatClampNeg (vp_nar .boolean 1)))), (m10, .inl (cA 0, 40, .inl (upd caf v.toNatClampNeg va))), (m11, .inl (cA 0, 40, .inl cbf)), (m39, .inl (cA 0, 600, .inl kf)), (m40, .inl (cA 2, 600, .inr (.inl (fun i => (xf i).toInt64)))), (m41, .inl (cA 2, 600, .inr (.inl (fun i => (yf i).toInt64)))), (m42, .inl (cA 2, 600, .inr (.inl zf))), (m43, .inl (cA 2, 600, .inr (.inl cf)))] := hD
  refine lv_aload_n hx hb dX8_casts_14 rfl (lv_at hl 0 rfl) ?_
  refine va_get (D := D) (ci := 7) (v := .ref m11) (C := RX8) (T := TX8) (N := 44) hx hb hts hin_X8 hown hK hP 0 rfl rfl 11 (by decide) (w_RX8_20) (fun _ h9 => h9) rfl dX8_casts_15 ?_
  refine lv_iload_n hx hb dX8_casts_18 rfl (lv_at hl 1 rfl) ?_
  refine lv_iload_n hx hb dX8_casts_19 rfl (lv_at hl 3 rfl) ?_
  refine va_iast hx hb hK hP hD hS 3 0 rfl rfl (p4_in hw0 hw4) dX8_casts_20 (fun H locs hP hD hS => ?_)
  have hP : va_P D vwCl [(h0, .inr (7, [.int m0, .int m1, .int m2, .int m3, .int m4, .ref m5, .int m6, .int m7, .int m8, .ref m9, .ref m10, .ref m11, .int m12, .ref m13, .ref m14, .ref m15, .ref m16, .int m17, .ref m18, .ref m19, .ref m20, .ref m21, .ref m22, .ref m23, .ref m24, .ref m25, .int m26, .int m27, .int m28, .int m29, .int m30, .int m31, .ref m32, .ref m33, .ref m34, .ref m35, .int m36, .ref m37, .int m38, .ref m39, .ref m40, .ref m41, .ref m42, .ref m43])), (m9, .inl (cA 1, 40, .inl (upd hcf v.toNatClampNeg (vp_nar .boolean 1)))), (m10, .inl (cA 0, 40, .inl (upd caf v.toNatClampNeg va))), (m11, .inl (cA 0, 40, .inl (upd cbf v.toNatClampNeg vb))), (m39, .inl (cA 0, 600, .inl kf)), (m40, .inl (cA 2, 600, .inr (.inl (fun i => (xf i).toInt64)))), (m41, .inl (cA 2, 600, .inr (.inl (fun i => (yf i).toInt64)))), (m42, .inl (cA 2, 600, .inr (.inl zf))), (m43, .inl (cA 2, 600, .inr (.inl cf)))] H := hP
  have hD : va_D A [(h0, .inr (7, [.int m0, .int m1, .int m2, .int m3, .int m4, .ref m5, .int m6, .int m7, .int m8, .ref m9, .ref m10, .ref m11, .int m12, .ref m13, .ref m14, .ref m15, .ref m16, .int m17, .ref m18, .ref m19, .ref m20, .ref m21, .ref m22, .ref m23, .ref m24, .ref m25, .int m26, .int m27, .int m28, .int m29, .int m30, .int m31, .ref m32, .ref m33, .ref m34, .ref m35, .int m36, .ref m37, .int m38, .ref m39, .ref m40, .ref m41, .ref m42, .ref m43])), (m9, .inl (cA 1, 40, .inl (upd hcf v.toNatClampNeg (vp_nar .boolean 1)))), (m10, .inl (cA 0, 40, .inl (upd caf v.toNatClampNeg va))), (m11, .inl (cA 0, 40, .inl (upd cbf v.toNatClampNeg vb))), (m39, .inl (cA 0, 600, .inl kf)), (m40, .inl (cA 2, 600, .inr (.inl (fun i => (xf i).toInt64)))), (m41, .inl (cA 2, 600, .inr (.inl (fun i => (yf i).toInt64)))), (m42, .inl (cA 2, 600, .inr (.inl zf))), (m43, .inl (cA 2, 600, .inr (.inl cf)))] := hD
  refine lv_aload_n hx hb dX8_casts_21 rfl (lv_at hl 0 rfl) ?_
  refine lv_iconst (v := 2) hx hb dX8_casts_22 (by decide) ?_
  refine lv_iload_n hx hb dX8_casts_23 rfl (lv_at hl 1 rfl) ?_
  refine lv_i2l hx hb dX8_casts_24 rfl ?_
  refine lv_iload_n hx hb dX8_casts_25 rfl (lv_at hl 2 rfl) ?_
  refine lv_i2l hx hb dX8_casts_26 rfl ?_
  refine lv_iload_n hx hb dX8_casts_27 rfl (lv_at hl 3 rfl) ?_
  refine lv_i2l hx hb dX8_casts_28 rfl ?_
  refine wl_call1 (v := .long (dg (dg (dg (dg (cho cf m38 (m38 - 1)) ((2 : Int32).toInt64)) (v.toInt64)) (va.toInt64)) vb.toInt64)) (wc := [(h0, .inr (7, [.int m0, .int m1, .int m2, .int m3, .int m4, .ref m5, .int m6, .int m7, .int m8, .ref m9, .ref m10, .ref m11, .int m12, .ref m13, .ref m14, .ref m15, .ref m16, .int m17, .ref m18, .ref m19, .ref m20, .ref m21, .ref m22, .ref m23, .ref m24, .ref m25, .int m26, .int m27, .int m28, .int m29, .int m30, .int m31, .ref m32, .ref m33, .ref m34, .ref m35, .int m36, .ref m37, .int m38, .ref m39, .ref m40, .ref m41, .ref m42, .ref m43])), (m39, .inl (cA 0, 600, .inl kf)), (m40, .inl (cA 2, 600, .inr (.inl (fun i => (xf i).toInt64)))), (m41, .inl (cA 2, 600, .inr (.inl (fun i => (yf i).toInt64)))), (m42, .inl (cA 2, 600, .inr (.inl zf))), (m43, .inl (cA 2, 600, .inr (.inl cf)))]) (w1 := [(h0, .inr (7, [.int m0, .int m1, .int m2, .int m3, .int m4, .ref m5, .int m6, .int m7, .int m8, .ref m9, .ref m10, .ref m11, .int m12, .ref m13, .ref m14, .ref m15, .ref m16, .int m17, .ref m18, .ref m19, .ref m20, .ref m21, .ref m22, .ref m23, .ref m24, .ref m25, .int m26, .int m27, .int m28, .int m29, .int m30, .int m31, .ref m32, .ref m33, .ref m34, .ref m35, .int m36, .ref m37, .int (m38 + 1), .ref m39, .ref m40, .ref m41, .ref m42, .ref m43])), (m39, .inl (cA 0, 600, .inl (upd kf m38.toNatClampNeg 2))), (m40, .inl (cA 2, 600, .inr (.inl (fun i => ((upd xf m38.toNatClampNeg v) i).toInt64)))), (m41, .inl (cA 2, 600, .inr (.inl (fun i => ((upd yf m38.toNatClampNeg va) i).toInt64)))), (m42, .inl (cA 2, 600, .inr (.inl (vp_updL zf m38.toNatClampNeg vb.toInt64)))), (m43, .inl (cA 2, 600, .inr (.inl (vp_updL cf m38.toNatClampNeg (dg (dg (dg (dg (cho cf m38 (m38 - 1)) ((2 : Int32).toInt64)) (v.toInt64)) (va.toInt64)) vb.toInt64)))))]) (ws' := [(h0, .inr (7, [.int m0, .int m1, .int m2, .int m3, .int m4, .ref m5, .int m6, .int m7, .int m8, .ref m9, .ref m10, .ref m11, .int m12, .ref m13, .ref m14, .ref m15, .ref m16, .int m17, .ref m18, .ref m19, .ref m20, .ref m21, .ref m22, .ref m23, .ref m24, .ref m25, .int m26, .int m27, .int m28, .int m29, .int m30, .int m31, .ref m32, .ref m33, .ref m34, .ref m35, .int m36, .ref m37, .int (m38 + 1), .ref m39, .ref m40, .ref m41, .ref m42, .ref m43])), (m9, .inl (cA 1, 40, .inl (upd hcf v.toNatClampNeg (vp_nar .boolean 1)))), (m10, .inl (cA 0, 40, .inl (upd caf v.toNatClampNeg va))), (m11, .inl (cA 0, 40, .inl (upd cbf v.toNatClampNeg vb))), (m39, .inl (cA 0, 600, .inl (upd kf m38.toNatClampNeg 2))), (m40, .inl (cA 2, 600, .inr (.inl (fun i => ((upd xf m38.toNatClampNeg v) i).toInt64)))), (m41, .inl (cA 2, 600, .inr (.inl (fun i => ((upd yf m38.toNatClampNeg va) i).toInt64)))), (m42, .inl (cA 2, 600, .inr (.inl (vp_updL zf m38.toNatClampNeg vb.toInt64)))), (m43, .inl (cA 2, 600, .inr (.inl (vp_updL cf m38.toNatClampNeg (dg (dg (dg (dg (cho cf m38 (m38 - 1)) ((2 : Int32).toInt64)) (v.toInt64)) (va.toInt64)) vb.toInt64)))))]) (wn_V (As := [.int 2, .long v.toInt64, .long va.toInt64, .long vb.toInt64]) (rest := []) (ci := 7) (fs := [.int m0, .int m1, .int m2, .int m3, .int m4, .ref m5, .int m6, .int m7, .int m8, .ref m9, .ref m10, .ref m11, .int m12, .ref m13, .ref m14, .ref m15, .ref m16, .int m17, .ref m18, .ref m19, .ref m20, .ref m21, .ref m22, .ref m23, .ref m24, .ref m25, .int m26, .int m27, .int m28, .int m29, .int m30, .int m31, .ref m32, .ref m33, .ref m34, .ref m35, .int m36, .ref m37, .int m38, .ref m39, .ref m40, .ref m41, .ref m42, .ref m43]) ⟨hx, hb, hml, hown, hts⟩ (c_X8_enter l D cA h0 m0 m1 m2 m3 m4 m5 m6 m7 m8 m9 m10 m11 m12 m13 m14 m15 m16 m17 m18 m19 m20 m21 m22 m23 m24 m25 m26 m27 m28 m29 m30 m31 m32 m33 m34 m35 m36 m37 m38 m39 m40 m41 m42 m43 kf xf yf zf cf 2 v va vb.toInt64 n0 hbn h6) rfl (cwV 4 hts gX8_casts_X8_enter rfl rfl rfl (by decide +kernel) ⟨Nat.le_of_ble_eq_true rfl, Nat.le_of_ble_eq_true rfl⟩) hK hP hD [0, 4, 5, 6, 7, 8] rfl (by decide) rfl rfl rfl hl.1 rfl (Nat.le_of_ble_eq_true rfl) dX8_casts_29 ⟨Nat.le_of_ble_eq_true rfl, Nat.le_of_ble_eq_true rfl⟩) hP hD hS [0, 4, 5, 6, 7, 8] [1, 2, 3] rfl rfl (wr := [(m9, .inl (cA 1, 40, .inl (upd hcf v.toNatClampNeg (vp_nar .boolean 1)))), (m10, .inl (cA 0, 40, .inl (upd caf v.toNatClampNeg va))), (m11, .inl (cA 0, 40, .inl (upd cbf v.toNatClampNeg vb)))]) rfl rfl (ads := [h0, m9, m10, m11, m39, m40, m41, m42, m43]) rfl rfl (adc := [h0, m39, m40, m41, m42, m43]) rfl rfl rfl (fun H locs hP hD hS => ?_)
  have hP9 : va_P D vwCl [(h0, .inr (7, [.int m0, .int m1, .int m2, .int m3, .int m4, .ref m5, .int m6, .int m7, .int m8, .ref m9, .ref m10, .ref m11, .int m12, .ref m13, .ref m14, .ref m15, .ref m16, .int m17, .ref m18, .ref m19, .ref m20, .ref m21, .ref m22, .ref m23, .ref m24, .ref m25, .int m26, .int m27, .int m28, .int m29, .int m30, .int m31, .ref m32, .ref m33, .ref m34, .ref m35, .int m36, .ref m37, .int (m38 + 1), .ref m39, .ref m40, .ref m41, .ref m42, .ref m43])), (m9, .inl (cA 1, 40, .inl (upd hcf v.toNatClampNeg (vp_nar .boolean 1)))), (m10, .inl (cA 0, 40, .inl (upd caf v.toNatClampNeg va))), (m11, .inl (cA 0, 40, .inl (upd cbf v.toNatClampNeg vb))), (m39, .inl (cA 0, 600, .inl (upd kf m38.toNatClampNeg 2))), (m40, .inl (cA 2, 600, .inr (.inl (fun i => ((upd xf m38.toNatClampNeg v) i).toInt64)))), (m41, .inl (cA 2, 600, .inr (.inl (fun i => ((upd yf m38.toNatClampNeg va) i).toInt64)))), (m42, .inl (cA 2, 600, .inr (.inl (vp_updL zf m38.toNatClampNeg vb.toInt64)))), (m43, .inl (cA 2, 600, .inr (.inl (vp_updL cf m38.toNatClampNeg (dg (dg (dg (dg (cho cf m38 (m38 - 1)) ((2 : Int32).toInt64)) (v.toInt64)) (va.toInt64)) vb.toInt64)))))] H := hP
  exact W.lret (v := (dg (dg (dg (dg (cho cf m38 (m38 - 1)) ((2 : Int32).toInt64)) (v.toInt64)) (va.toInt64)) vb.toInt64)) hx hb hr (fun t ht hW => ⟨congrArg (fun z => Outcome.returned (some (Value.long z))) (rfl), by rw [ht]; exact hP9, hS.F ht⟩) hS.2.2 dX8_casts_32

set_option maxHeartbeats 4000000 in
set_option maxRecDepth 100000 in
theorem c_X8_cast_no (l : Launch) (D : va_G) (cA : Nat → ClassId) (h0 : Nat) (m0 : Int32) (m1 : Int32) (m2 : Int32) (m3 : Int32) (m4 : Int32) (m5 : Nat) (m6 : Int32) (m7 : Int32) (m8 : Int32) (m9 : Nat) (m10 : Nat) (m11 : Nat) (m12 : Int32) (m13 : Nat) (m14 : Nat) (m15 : Nat) (m16 : Nat) (m17 : Int32) (m18 : Nat) (m19 : Nat) (m20 : Nat) (m21 : Nat) (m22 : Nat) (m23 : Nat) (m24 : Nat) (m25 : Nat) (m26 : Int32) (m27 : Int32) (m28 : Int32) (m29 : Int32) (m30 : Int32) (m31 : Int32) (m32 : Nat) (m33 : Nat) (m34 : Nat) (m35 : Nat) (m36 : Int32) (m37 : Nat) (m38 : Int32) (m39 : Nat) (m40 : Nat) (m41 : Nat) (m42 : Nat) (m43 : Nat) (v : Int32) (w : Int32) (r : Int32) (v0 : Nat) (q0 : Nat) (c0 : Nat) (hno : ¬ ((m6 = 1 ∧ 0 ≤ v ∧ v < m8 ∧ m38 < 500) ∧ (0 ≤ w ∧ w < m2) ∧ (0 ≤ r ∧ r < m1))) (hv0 : m8 = nI v0) (hv4 : v0 ≤ 40) (hgq : m1 = nI q0) (hq1 : 1 ≤ q0 ∧ q0 < 1000000) (hca : m2 = nI c0) (hc1 : 1 ≤ c0 ∧ c0 ≤ 10) : Met l yX8_cast wsX8_cast ({ frames := 2, cells := 0, slots := 0, locals := 43 }) (rPc vwCl D cA [(h0, .inr (7, [.int m0, .int m1, .int m2, .int m3, .int m4, .ref m5, .int m6, .int m7, .int m8, .ref m9, .ref m10, .ref m11, .int m12, .ref m13, .ref m14, .ref m15, .ref m16, .int m17, .ref m18, .ref m19, .ref m20, .ref m21, .ref m22, .ref m23, .ref m24, .ref m25, .int m26, .int m27, .int m28, .int m29, .int m30, .int m31, .ref m32, .ref m33, .ref m34, .ref m35, .int m36, .ref m37, .int m38, .ref m39, .ref m40, .ref m41, .ref m42, .ref m43]))] [.ref h0, .int v, .int w, .int r]) (rq_x (some (.long 0))) 0 0 (fun _ => False) := by
  refine Met.ofW (cc := cX8_cast) (maxL := 4) (ret := (some .long)) (by decide) rfl ?_
  intro p e s m args below meth c s₁ B hml hv
  obtain ⟨rfl, hP, hK⟩ := hv
  have hx := B.exec
  have hb := B.bytes
  have hr := B.returns
  have hts := atoms_spec (ws := wsX8_cast) B.pre
  have hown : s.vm.findClass RX8 = some m.cls := findClass_of_methodNamed B.named
  have hlocks := B.notSynchronized
  have hin_X8 : ∀ w ∈ wsX80, w ∈ wsX8_cast := fun w h => List.mem_cons_of_mem _ (List.mem_append_right _ h)
  have w_RX8_106 := hts (.fieldLink RX8 106 "MixElectionModel" "candidates" "I") (by decide +kernel)
  have hl := lv_entry ([.ref h0, .int v, .int w, .int r]) (n := 4) (Nat.le_of_ble_eq_true rfl)
  rw [lg_entry_eq]
  generalize (lg_sl ([.ref h0, .int v, .int w, .int r]) ++ List.replicate (4 - (lg_sl ([.ref h0, .int v, .int w, .int r])).length) Slot.unset).toArray = ls at hl ⊢
  have hl : lv_has ls 4 [(0, .ref h0), (1, .int v), (2, .int w), (3, .int r)] := hl
  refine lv_aload_n hx hb dX8_cast_0 rfl (lv_at hl 0 rfl) ?_
  refine lv_iload_n hx hb dX8_cast_1 rfl (lv_at hl 1 rfl) ?_
  refine rq_call1 (v := .int (bI (m6 = 1 ∧ 0 ≤ v ∧ v < m8 ∧ m38 < 500))) (rn_V (As := [.int v]) (rest := []) (ci := 7) (fs := [.int m0, .int m1, .int m2, .int m3, .int m4, .ref m5, .int m6, .int m7, .int m8, .ref m9, .ref m10, .ref m11, .int m12, .ref m13, .ref m14, .ref m15, .ref m16, .int m17, .ref m18, .ref m19, .ref m20, .ref m21, .ref m22, .ref m23, .ref m24, .ref m25, .int m26, .int m27, .int m28, .int m29, .int m30, .int m31, .ref m32, .ref m33, .ref m34, .ref m35, .int m36, .ref m37, .int m38, .ref m39, .ref m40, .ref m41, .ref m42, .ref m43]) ⟨hx, hb, hml, hown, hts⟩ (c_X8_mayCast l D cA h0 m0 m1 m2 m3 m4 m5 m6 m7 m8 m9 m10 m11 m12 m13 m14 m15 m16 m17 m18 m19 m20 m21 m22 m23 m24 m25 m26 m27 m28 m29 m30 m31 m32 m33 m34 m35 m36 m37 m38 m39 m40 m41 m42 m43 v v0 hv0 hv4) rfl (cwV 1 hts gX8_cast_X8_mayCast rfl rfl rfl (by decide +kernel) ⟨Nat.le_of_ble_eq_true rfl, Nat.le_of_ble_eq_true rfl⟩) hK hP [0] rfl rfl rfl hl.1 rfl (Nat.le_of_ble_eq_true rfl) dX8_cast_2 ⟨Nat.le_of_ble_eq_true rfl, Nat.le_of_ble_eq_true rfl⟩) ?_
  refine lv_if_eq (tgt := 30) hx hb dX8_cast_5 (by decide) (fun c_5 => ?_) (fun c_5 => ?_)
  · skip
    refine lv_lconst (v := 0) hx hb dX8_cast_30 (by decide) ?_
    exact W.lret (v := 0) hx hb hr (fun t ht hW => ⟨congrArg (fun z => Outcome.returned (some (Value.long z))) (rfl), ht⟩) (fun _ h => by cases h) dX8_cast_31
  · skip
    refine lv_iload_n hx hb dX8_cast_8 rfl (lv_at hl 2 rfl) ?_
    refine lv_iconst (v := 0) hx hb dX8_cast_9 (by decide) ?_
    refine lv_aload_n hx hb dX8_cast_10 rfl (lv_at hl 0 rfl) ?_
    refine va_get (D := D) (ci := 7) (v := .int m2) (C := RX8) (T := TX8) (N := 44) hx hb hts hin_X8 hown hK hP 0 rfl rfl 2 (by decide) (w_RX8_106) (fun _ h9 => h9) rfl dX8_cast_11 ?_
    refine lv_iconst (v := 1) hx hb dX8_cast_14 (by decide) ?_
    refine lv_isub hx hb dX8_cast_15 ?_
    refine rq_call1 (v := .int (bI (0 ≤ w ∧ w ≤ (m2 - 1)))) (rn_S (As := [.int w, .int 0, .int (m2 - 1)]) (rest := []) ⟨hx, hb, hml, hown, hts⟩ (c_X8_in l D cA w 0 (m2 - 1)) (va_cwS 3 hts gX8_cast_X8_in rfl rfl rfl (by decide +kernel) ⟨Nat.le_of_ble_eq_true rfl, Nat.le_of_ble_eq_true rfl⟩) hK hP [] rfl rfl hl.1 rfl (Nat.le_of_ble_eq_true rfl) dX8_cast_16 ⟨Nat.le_of_ble_eq_true rfl, Nat.le_of_ble_eq_true rfl⟩) ?_
    refine lv_if_eq (tgt := 30) hx hb dX8_cast_19 (by decide) (fun c_19 => ?_) (fun c_19 => ?_)
    · skip
      refine lv_lconst (v := 0) hx hb dX8_cast_30 (by decide) ?_
      exact W.lret (v := 0) hx hb hr (fun t ht hW => ⟨congrArg (fun z => Outcome.returned (some (Value.long z))) (rfl), ht⟩) (fun _ h => by cases h) dX8_cast_31
    · skip
      refine lv_aload_n hx hb dX8_cast_22 rfl (lv_at hl 0 rfl) ?_
      refine lv_iload_n hx hb dX8_cast_23 rfl (lv_at hl 3 rfl) ?_
      refine rq_call1 (v := .int (bI (0 ≤ r ∧ r < m1))) (rn_V (As := [.int r]) (rest := []) (ci := 7) (fs := [.int m0, .int m1, .int m2, .int m3, .int m4, .ref m5, .int m6, .int m7, .int m8, .ref m9, .ref m10, .ref m11, .int m12, .ref m13, .ref m14, .ref m15, .ref m16, .int m17, .ref m18, .ref m19, .ref m20, .ref m21, .ref m22, .ref m23, .ref m24, .ref m25, .int m26, .int m27, .int m28, .int m29, .int m30, .int m31, .ref m32, .ref m33, .ref m34, .ref m35, .int m36, .ref m37, .int m38, .ref m39, .ref m40, .ref m41, .ref m42, .ref m43]) ⟨hx, hb, hml, hown, hts⟩ (c_X8_isExponent l D cA h0 m0 m1 m2 m3 m4 m5 m6 m7 m8 m9 m10 m11 m12 m13 m14 m15 m16 m17 m18 m19 m20 m21 m22 m23 m24 m25 m26 m27 m28 m29 m30 m31 m32 m33 m34 m35 m36 m37 m38 m39 m40 m41 m42 m43 r q0 hgq hq1) rfl (cwV 1 hts gX8_cast_X8_isExponent rfl rfl rfl (by decide +kernel) ⟨Nat.le_of_ble_eq_true rfl, Nat.le_of_ble_eq_true rfl⟩) hK hP [0] rfl rfl rfl hl.1 rfl (Nat.le_of_ble_eq_true rfl) dX8_cast_24 ⟨Nat.le_of_ble_eq_true rfl, Nat.le_of_ble_eq_true rfl⟩) ?_
      refine lv_if_ne (tgt := 32) hx hb dX8_cast_27 (by decide) (fun c_27 => ?_) (fun c_27 => ?_)
      · skip
        exact absurd ⟨bI_1 c_5, (in_1 hca (by omega)).mp (bI_1 c_19), bI_1 c_27⟩ hno
      · skip
        refine lv_lconst (v := 0) hx hb dX8_cast_30 (by decide) ?_
        exact W.lret (v := 0) hx hb hr (fun t ht hW => ⟨congrArg (fun z => Outcome.returned (some (Value.long z))) (rfl), ht⟩) (fun _ h => by cases h) dX8_cast_31

set_option maxHeartbeats 4000000 in
set_option maxRecDepth 100000 in
theorem c_X8_cast_ok (l : Launch) (D : va_G) (cA : Nat → ClassId) (h0 : Nat) (m0 : Int32) (m1 : Int32) (m2 : Int32) (m3 : Int32) (m4 : Int32) (m5 : Nat) (m6 : Int32) (m7 : Int32) (m8 : Int32) (m9 : Nat) (m10 : Nat) (m11 : Nat) (m12 : Int32) (m13 : Nat) (m14 : Nat) (m15 : Nat) (m16 : Nat) (m17 : Int32) (m18 : Nat) (m19 : Nat) (m20 : Nat) (m21 : Nat) (m22 : Nat) (m23 : Nat) (m24 : Nat) (m25 : Nat) (m26 : Int32) (m27 : Int32) (m28 : Int32) (m29 : Int32) (m30 : Int32) (m31 : Int32) (m32 : Nat) (m33 : Nat) (m34 : Nat) (m35 : Nat) (m36 : Int32) (m37 : Nat) (m38 : Int32) (m39 : Nat) (m40 : Nat) (m41 : Nat) (m42 : Nat) (m43 : Nat) (v : Int32) (w : Int32) (r : Int32) (v0 : Nat) (q0 : Nat) (c0 : Nat) (p0 : Nat) (w0 : Nat) (c1 : Nat) (r0 : Nat) (n0 : Nat) (hcf : Nat → Int32) (caf : Nat → Int32) (cbf : Nat → Int32) (kf : Nat → Int32) (xf : Nat → Int32) (yf : Nat → Int32) (zf : Nat → Int64) (cf : Nat → Int64) (hok : (m6 = 1 ∧ 0 ≤ v ∧ v < m8 ∧ m38 < 500) ∧ (0 ≤ w ∧ w < m2) ∧ (0 ≤ r ∧ r < m1)) (hv0 : m8 = nI v0) (hv4 : v0 ≤ 40) (hgq : m1 = nI q0) (hq1 : 1 ≤ q0 ∧ q0 < 1000000) (hca : m2 = nI c0) (hc1 : 1 ≤ c0 ∧ c0 ≤ 10) (hgp : m0 = nI p0) (hp1 : 2 ≤ p0 ∧ p0 < 1000000) (hw0 : v = nI w0) (hw4 : w0 < 40) (hcc : w = nI c1) (hc9 : c1 < 1000) (hr0 : r = nI r0) (hr9 : r0 < 2 ^ 31) (hbn : m38 = nI n0) (h6 : n0 < 600) : Met l yX8_cast wsX8_cast ({ frames := 3, cells := 0, slots := 0, locals := 75 }) (wPc vwCl D cA [(h0, .inr (7, [.int m0, .int m1, .int m2, .int m3, .int m4, .ref m5, .int m6, .int m7, .int m8, .ref m9, .ref m10, .ref m11, .int m12, .ref m13, .ref m14, .ref m15, .ref m16, .int m17, .ref m18, .ref m19, .ref m20, .ref m21, .ref m22, .ref m23, .ref m24, .ref m25, .int m26, .int m27, .int m28, .int m29, .int m30, .int m31, .ref m32, .ref m33, .ref m34, .ref m35, .int m36, .ref m37, .int m38, .ref m39, .ref m40, .ref m41, .ref m42, .ref m43])), (m9, .inl (cA 1, 40, .inl hcf)), (m10, .inl (cA 0, 40, .inl caf)), (m11, .inl (cA 0, 40, .inl cbf)), (m39, .inl (cA 0, 600, .inl kf)), (m40, .inl (cA 2, 600, .inr (.inl (fun i => (xf i).toInt64)))), (m41, .inl (cA 2, 600, .inr (.inl (fun i => (yf i).toInt64)))), (m42, .inl (cA 2, 600, .inr (.inl zf))), (m43, .inl (cA 2, 600, .inr (.inl cf)))] [.ref h0, .int v, .int w, .int r]) (wq_x vwCl D [(h0, .inr (7, [.int m0, .int m1, .int m2, .int m3, .int m4, .ref m5, .int m6, .int m7, .int m8, .ref m9, .ref m10, .ref m11, .int m12, .ref m13, .ref m14, .ref m15, .ref m16, .int m17, .ref m18, .ref m19, .ref m20, .ref m21, .ref m22, .ref m23, .ref m24, .ref m25, .int m26, .int m27, .int m28, .int m29, .int m30, .int m31, .ref m32, .ref m33, .ref m34, .ref m35, .int m36, .ref m37, .int (m38 + 1), .ref m39, .ref m40, .ref m41, .ref m42, .ref m43])), (m9, .inl (cA 1, 40, .inl (upd hcf v.toNatClampNeg (vp_nar .boolean 1)))), (m10, .inl (cA 0, 40, .inl (upd caf v.toNatClampNeg (tm m0 1 (pw m0 32 r0 1 4))))), (m11, .inl (cA 0, 40, .inl (upd cbf v.toNatClampNeg (tm m0 (pw m0 32 (c1 + 1) 1 4) (pw m0 32 r0 1 m7))))), (m39, .inl (cA 0, 600, .inl (upd kf m38.toNatClampNeg 2))), (m40, .inl (cA 2, 600, .inr (.inl (fun i => ((upd xf m38.toNatClampNeg v) i).toInt64)))), (m41, .inl (cA 2, 600, .inr (.inl (fun i => ((upd yf m38.toNatClampNeg (tm m0 1 (pw m0 32 r0 1 4))) i).toInt64)))), (m42, .inl (cA 2, 600, .inr (.inl (vp_updL zf m38.toNatClampNeg (tm m0 (pw m0 32 (c1 + 1) 1 4) (pw m0 32 r0 1 m7)).toInt64)))), (m43, .inl (cA 2, 600, .inr (.inl (vp_updL cf m38.toNatClampNeg (dg (dg (dg (dg (cho cf m38 (m38 - 1)) ((2 : Int32).toInt64)) (v.toInt64)) ((tm m0 1 (pw m0 32 r0 1 4)).toInt64)) (tm m0 (pw m0 32 (c1 + 1) 1 4) (pw m0 32 r0 1 m7)).toInt64)))))] (some (.long (dg (dg (dg (dg (cho cf m38 (m38 - 1)) ((2 : Int32).toInt64)) (v.toInt64)) ((tm m0 1 (pw m0 32 r0 1 4)).toInt64)) (tm m0 (pw m0 32 (c1 + 1) 1 4) (pw m0 32 r0 1 m7)).toInt64))) (wA [(h0, .inr (7, [.int m0, .int m1, .int m2, .int m3, .int m4, .ref m5, .int m6, .int m7, .int m8, .ref m9, .ref m10, .ref m11, .int m12, .ref m13, .ref m14, .ref m15, .ref m16, .int m17, .ref m18, .ref m19, .ref m20, .ref m21, .ref m22, .ref m23, .ref m24, .ref m25, .int m26, .int m27, .int m28, .int m29, .int m30, .int m31, .ref m32, .ref m33, .ref m34, .ref m35, .int m36, .ref m37, .int m38, .ref m39, .ref m40, .ref m41, .ref m42, .ref m43])), (m9, .inl (cA 1, 40, .inl hcf)), (m10, .inl (cA 0, 40, .inl caf)), (m11, .inl (cA 0, 40, .inl cbf)), (m39, .inl (cA 0, 600, .inl kf)), (m40, .inl (cA 2, 600, .inr (.inl (fun i => (xf i).toInt64)))), (m41, .inl (cA 2, 600, .inr (.inl (fun i => (yf i).toInt64)))), (m42, .inl (cA 2, 600, .inr (.inl zf))), (m43, .inl (cA 2, 600, .inr (.inl cf)))])) 0 0 (wA [(h0, .inr (7, [.int m0, .int m1, .int m2, .int m3, .int m4, .ref m5, .int m6, .int m7, .int m8, .ref m9, .ref m10, .ref m11, .int m12, .ref m13, .ref m14, .ref m15, .ref m16, .int m17, .ref m18, .ref m19, .ref m20, .ref m21, .ref m22, .ref m23, .ref m24, .ref m25, .int m26, .int m27, .int m28, .int m29, .int m30, .int m31, .ref m32, .ref m33, .ref m34, .ref m35, .int m36, .ref m37, .int m38, .ref m39, .ref m40, .ref m41, .ref m42, .ref m43])), (m9, .inl (cA 1, 40, .inl hcf)), (m10, .inl (cA 0, 40, .inl caf)), (m11, .inl (cA 0, 40, .inl cbf)), (m39, .inl (cA 0, 600, .inl kf)), (m40, .inl (cA 2, 600, .inr (.inl (fun i => (xf i).toInt64)))), (m41, .inl (cA 2, 600, .inr (.inl (fun i => (yf i).toInt64)))), (m42, .inl (cA 2, 600, .inr (.inl zf))), (m43, .inl (cA 2, 600, .inr (.inl cf)))]) := by
  refine Met.ofW (cc := cX8_cast) (maxL := 4) (ret := (some .long)) (by decide) rfl ?_
  intro p e s m args below meth c s₁ B hml hv
  obtain ⟨rfl, hP, hK, hD0⟩ := hv
  have hx := B.exec
  have hb := B.bytes
  have hr := B.returns
  have hts := atoms_spec (ws := wsX8_cast) B.pre
  have hown : s.vm.findClass RX8 = some m.cls := findClass_of_methodNamed B.named
  have hlocks := B.notSynchronized
  have hin_X8 : ∀ w ∈ wsX80, w ∈ wsX8_cast := fun w h => List.mem_cons_of_mem _ (List.mem_append_right _ h)
  have w_RX8_106 := hts (.fieldLink RX8 106 "MixElectionModel" "candidates" "I") (by decide +kernel)
  have w_RX8_146 := hts (.fieldLink RX8 146 "MixElectionModel" "h" "I") (by decide +kernel)
  have hD : va_D (wA [(h0, .inr (7, [.int m0, .int m1, .int m2, .int m3, .int m4, .ref m5, .int m6, .int m7, .int m8, .ref m9, .ref m10, .ref m11, .int m12, .ref m13, .ref m14, .ref m15, .ref m16, .int m17, .ref m18, .ref m19, .ref m20, .ref m21, .ref m22, .ref m23, .ref m24, .ref m25, .int m26, .int m27, .int m28, .int m29, .int m30, .int m31, .ref m32, .ref m33, .ref m34, .ref m35, .int m36, .ref m37, .int m38, .ref m39, .ref m40, .ref m41, .ref m42, .ref m43])), (m9, .inl (cA 1, 40, .inl hcf)), (m10, .inl (cA 0, 40, .inl caf)), (m11, .inl (cA 0, 40, .inl cbf)), (m39, .inl (cA 0, 600, .inl kf)), (m40, .inl (cA 2, 600, .inr (.inl (fun i => (xf i).toInt64)))), (m41, .inl (cA 2, 600, .inr (.inl (fun i => (yf i).toInt64)))), (m42, .inl (cA 2, 600, .inr (.inl zf))), (m43, .inl (cA 2, 600, .inr (.inl cf)))]) [(h0, .inr (7, [.int m0, .int m1, .int m2, .int m3, .int m4, .ref m5, .int m6, .int m7, .int m8, .ref m9, .ref m10, .ref m11, .int m12, .ref m13, .ref m14, .ref m15, .ref m16, .int m17, .ref m18, .ref m19, .ref m20, .ref m21, .ref m22, .ref m23, .ref m24, .ref m25, .int m26, .int m27, .int m28, .int m29, .int m30, .int m31, .ref m32, .ref m33, .ref m34, .ref m35, .int m36, .ref m37, .int m38, .ref m39, .ref m40, .ref m41, .ref m42, .ref m43])), (m9, .inl (cA 1, 40, .inl hcf)), (m10, .inl (cA 0, 40, .inl caf)), (m11, .inl (cA 0, 40, .inl cbf)), (m39, .inl (cA 0, 600, .inl kf)), (m40, .inl (cA 2, 600, .inr (.inl (fun i => (xf i).toInt64)))), (m41, .inl (cA 2, 600, .inr (.inl (fun i => (yf i).toInt64)))), (m42, .inl (cA 2, 600, .inr (.inl zf))), (m43, .inl (cA 2, 600, .inr (.inl cf)))] := ⟨hD0.1, fun k q h => List.mem_map.mpr ⟨q, List.mem_of_getElem? h, rfl⟩⟩
  have hS : va_S (wA [(h0, .inr (7, [.int m0, .int m1, .int m2, .int m3, .int m4, .ref m5, .int m6, .int m7, .int m8, .ref m9, .ref m10, .ref m11, .int m12, .ref m13, .ref m14, .ref m15, .ref m16, .int m17, .ref m18, .ref m19, .ref m20, .ref m21, .ref m22, .ref m23, .ref m24, .ref m25, .int m26, .int m27, .int m28, .int m29, .int m30, .int m31, .ref m32, .ref m33, .ref m34, .ref m35, .int m36, .ref m37, .int m38, .ref m39, .ref m40, .ref m41, .ref m42, .ref m43])), (m9, .inl (cA 1, 40, .inl hcf)), (m10, .inl (cA 0, 40, .inl caf)), (m11, .inl (cA 0, 40, .inl cbf)), (m39, .inl (cA 0, 600, .inl kf)), (m40, .inl (cA 2, 600, .inr (.inl (fun i => (xf i).toInt64)))), (m41, .inl (cA 2, 600, .inr (.inl (fun i => (yf i).toInt64)))), (m42, .inl (cA 2, 600, .inr (.inl zf))), (m43, .inl (cA 2, 600, .inr (.inl cf)))]) s.heap s.heap [] := va_S.rf
  generalize hAe : wA [(h0, .inr (7, [.int m0, .int m1, .int m2, .int m3, .int m4, .ref m5, .int m6, .int m7, .int m8, .ref m9, .ref m10, .ref m11, .int m12, .ref m13, .ref m14, .ref m15, .ref m16, .int m17, .ref m18, .ref m19, .ref m20, .ref m21, .ref m22, .ref m23, .ref m24, .ref m25, .int m26, .int m27, .int m28, .int m29, .int m30, .int m31, .ref m32, .ref m33, .ref m34, .ref m35, .int m36, .ref m37, .int m38, .ref m39, .ref m40, .ref m41, .ref m42, .ref m43])), (m9, .inl (cA 1, 40, .inl hcf)), (m10, .inl (cA 0, 40, .inl caf)), (m11, .inl (cA 0, 40, .inl cbf)), (m39, .inl (cA 0, 600, .inl kf)), (m40, .inl (cA 2, 600, .inr (.inl (fun i => (xf i).toInt64)))), (m41, .inl (cA 2, 600, .inr (.inl (fun i => (yf i).toInt64)))), (m42, .inl (cA 2, 600, .inr (.inl zf))), (m43, .inl (cA 2, 600, .inr (.inl cf)))] = A at hD hS ⊢
  have hP : va_P D vwCl [(h0, .inr (7, [.int m0, .int m1, .int m2, .int m3, .int m4, .ref m5, .int m6, .int m7, .int m8, .ref m9, .ref m10, .ref m11, .int m12, .ref m13, .ref m14, .ref m15, .ref m16, .int m17, .ref m18, .ref m19, .ref m20, .ref m21, .ref m22, .ref m23, .ref m24, .ref m25, .int m26, .int m27, .int m28, .int m29, .int m30, .int m31, .ref m32, .ref m33, .ref m34, .ref m35, .int m36, .ref m37, .int m38, .ref m39, .ref m40, .ref m41, .ref m42, .ref m43])), (m9, .inl (cA 1, 40, .inl hcf)), (m10, .inl (cA 0, 40, .inl caf)), (m11, .inl (cA 0, 40, .inl cbf)), (m39, .inl (cA 0, 600, .inl kf)), (m40, .inl (cA 2, 600, .inr (.inl (fun i => (xf i).toInt64)))), (m41, .inl (cA 2, 600, .inr (.inl (fun i => (yf i).toInt64)))), (m42, .inl (cA 2, 600, .inr (.inl zf))), (m43, .inl (cA 2, 600, .inr (.inl cf)))] s.heap := hP
  have hl := lv_entry ([.ref h0, .int v, .int w, .int r]) (n := 4) (Nat.le_of_ble_eq_true rfl)
  rw [lg_entry_eq]
  generalize (lg_sl ([.ref h0, .int v, .int w, .int r]) ++ List.replicate (4 - (lg_sl ([.ref h0, .int v, .int w, .int r])).length) Slot.unset).toArray = ls at hl ⊢
  have hl : lv_has ls 4 [(0, .ref h0), (1, .int v), (2, .int w), (3, .int r)] := hl
  refine lv_aload_n hx hb dX8_cast_0 rfl (lv_at hl 0 rfl) ?_
  refine lv_iload_n hx hb dX8_cast_1 rfl (lv_at hl 1 rfl) ?_
  refine rq_call1 (v := .int (bI (m6 = 1 ∧ 0 ≤ v ∧ v < m8 ∧ m38 < 500))) (rn_V (As := [.int v]) (rest := []) (ci := 7) (fs := [.int m0, .int m1, .int m2, .int m3, .int m4, .ref m5, .int m6, .int m7, .int m8, .ref m9, .ref m10, .ref m11, .int m12, .ref m13, .ref m14, .ref m15, .ref m16, .int m17, .ref m18, .ref m19, .ref m20, .ref m21, .ref m22, .ref m23, .ref m24, .ref m25, .int m26, .int m27, .int m28, .int m29, .int m30, .int m31, .ref m32, .ref m33, .ref m34, .ref m35, .int m36, .ref m37, .int m38, .ref m39, .ref m40, .ref m41, .ref m42, .ref m43]) ⟨hx, hb, hml, hown, hts⟩ (c_X8_mayCast l D cA h0 m0 m1 m2 m3 m4 m5 m6 m7 m8 m9 m10 m11 m12 m13 m14 m15 m16 m17 m18 m19 m20 m21 m22 m23 m24 m25 m26 m27 m28 m29 m30 m31 m32 m33 m34 m35 m36 m37 m38 m39 m40 m41 m42 m43 v v0 hv0 hv4) rfl (cwV 1 hts gX8_cast_X8_mayCast rfl rfl rfl (by decide +kernel) ⟨Nat.le_of_ble_eq_true rfl, Nat.le_of_ble_eq_true rfl⟩) hK hP [0] rfl rfl rfl hl.1 rfl (Nat.le_of_ble_eq_true rfl) dX8_cast_2 ⟨Nat.le_of_ble_eq_true rfl, Nat.le_of_ble_eq_true rfl⟩) ?_
  refine lv_if_eq (tgt := 30) hx hb dX8_cast_5 (by decide) (fun c_5 => ?_) (fun c_5 => ?_)
  · skip
    exact absurd hok.1 (bI_0 c_5)
  · skip
    refine lv_iload_n hx hb dX8_cast_8 rfl (lv_at hl 2 rfl) ?_
    refine lv_iconst (v := 0) hx hb dX8_cast_9 (by decide) ?_
    refine lv_aload_n hx hb dX8_cast_10 rfl (lv_at hl 0 rfl) ?_
    refine va_get (D := D) (ci := 7) (v := .int m2) (C := RX8) (T := TX8) (N := 44) hx hb hts hin_X8 hown hK hP 0 rfl rfl 2 (by decide) (w_RX8_106) (fun _ h9 => h9) rfl dX8_cast_11 ?_
    refine lv_iconst (v := 1) hx hb dX8_cast_14 (by decide) ?_
    refine lv_isub hx hb dX8_cast_15 ?_
    refine rq_call1 (v := .int (bI (0 ≤ w ∧ w ≤ (m2 - 1)))) (rn_S (As := [.int w, .int 0, .int (m2 - 1)]) (rest := []) ⟨hx, hb, hml, hown, hts⟩ (c_X8_in l D cA w 0 (m2 - 1)) (va_cwS 3 hts gX8_cast_X8_in rfl rfl rfl (by decide +kernel) ⟨Nat.le_of_ble_eq_true rfl, Nat.le_of_ble_eq_true rfl⟩) hK hP [] rfl rfl hl.1 rfl (Nat.le_of_ble_eq_true rfl) dX8_cast_16 ⟨Nat.le_of_ble_eq_true rfl, Nat.le_of_ble_eq_true rfl⟩) ?_
    refine lv_if_eq (tgt := 30) hx hb dX8_cast_19 (by decide) (fun c_19 => ?_) (fun c_19 => ?_)
    · skip
      exact absurd ((in_1 hca (by omega)).mpr hok.2.1) (bI_0 c_19)
    · skip
      refine lv_aload_n hx hb dX8_cast_22 rfl (lv_at hl 0 rfl) ?_
      refine lv_iload_n hx hb dX8_cast_23 rfl (lv_at hl 3 rfl) ?_
      refine rq_call1 (v := .int (bI (0 ≤ r ∧ r < m1))) (rn_V (As := [.int r]) (rest := []) (ci := 7) (fs := [.int m0, .int m1, .int m2, .int m3, .int m4, .ref m5, .int m6, .int m7, .int m8, .ref m9, .ref m10, .ref m11, .int m12, .ref m13, .ref m14, .ref m15, .ref m16, .int m17, .ref m18, .ref m19, .ref m20, .ref m21, .ref m22, .ref m23, .ref m24, .ref m25, .int m26, .int m27, .int m28, .int m29, .int m30, .int m31, .ref m32, .ref m33, .ref m34, .ref m35, .int m36, .ref m37, .int m38, .ref m39, .ref m40, .ref m41, .ref m42, .ref m43]) ⟨hx, hb, hml, hown, hts⟩ (c_X8_isExponent l D cA h0 m0 m1 m2 m3 m4 m5 m6 m7 m8 m9 m10 m11 m12 m13 m14 m15 m16 m17 m18 m19 m20 m21 m22 m23 m24 m25 m26 m27 m28 m29 m30 m31 m32 m33 m34 m35 m36 m37 m38 m39 m40 m41 m42 m43 r q0 hgq hq1) rfl (cwV 1 hts gX8_cast_X8_isExponent rfl rfl rfl (by decide +kernel) ⟨Nat.le_of_ble_eq_true rfl, Nat.le_of_ble_eq_true rfl⟩) hK hP [0] rfl rfl rfl hl.1 rfl (Nat.le_of_ble_eq_true rfl) dX8_cast_24 ⟨Nat.le_of_ble_eq_true rfl, Nat.le_of_ble_eq_true rfl⟩) ?_
      refine lv_if_ne (tgt := 32) hx hb dX8_cast_27 (by decide) (fun c_27 => ?_) (fun c_27 => ?_)
      · skip
        refine lv_aload_n hx hb dX8_cast_32 rfl (lv_at hl 0 rfl) ?_
        refine lv_iload_n hx hb dX8_cast_33 rfl (lv_at hl 1 rfl) ?_
        refine lv_aload_n hx hb dX8_cast_34 rfl (lv_at hl 0 rfl) ?_
        refine lv_iconst (v := 4) hx hb dX8_cast_35 (by decide) ?_
        refine lv_iload_n hx hb dX8_cast_36 rfl (lv_at hl 3 rfl) ?_
        refine rq_call1 (v := .int (pw m0 32 r0 1 4)) (rn_V (As := [.int 4, .int r]) (rest := [.int v, .ref h0]) (ci := 7) (fs := [.int m0, .int m1, .int m2, .int m3, .int m4, .ref m5, .int m6, .int m7, .int m8, .ref m9, .ref m10, .ref m11, .int m12, .ref m13, .ref m14, .ref m15, .ref m16, .int m17, .ref m18, .ref m19, .ref m20, .ref m21, .ref m22, .ref m23, .ref m24, .ref m25, .int m26, .int m27, .int m28, .int m29, .int m30, .int m31, .ref m32, .ref m33, .ref m34, .ref m35, .int m36, .ref m37, .int m38, .ref m39, .ref m40, .ref m41, .ref m42, .ref m43]) ⟨hx, hb, hml, hown, hts⟩ (c_X8_power l D cA h0 m0 m1 m2 m3 m4 m5 m6 m7 m8 m9 m10 m11 m12 m13 m14 m15 m16 m17 m18 m19 m20 m21 m22 m23 m24 m25 m26 m27 m28 m29 m30 m31 m32 m33 m34 m35 m36 m37 m38 m39 m40 m41 m42 m43 4 r r0 hr0 hr9 (iv_p hgp hp1.1 hp1.2)) rfl (cwV 2 hts gX8_cast_X8_power rfl rfl rfl (by decide +kernel) ⟨Nat.le_of_ble_eq_true rfl, Nat.le_of_ble_eq_true rfl⟩) hK hP [0] rfl rfl rfl hl.1 rfl (Nat.le_of_ble_eq_true rfl) dX8_cast_37 ⟨Nat.le_of_ble_eq_true rfl, Nat.le_of_ble_eq_true rfl⟩) ?_
        refine lv_topi (fun w8 e8 => ?_)
        have e9 : w8 = (tm m0 1 (pw m0 32 r0 1 4)) := (by rw [e8]; exact (tm_1 (pw_rng hgp hp1 r0 4)).symm)
        clear e8
        subst e9
        refine lv_aload_n hx hb dX8_cast_40 rfl (lv_at hl 0 rfl) ?_
        refine lv_aload_n hx hb dX8_cast_41 rfl (lv_at hl 0 rfl) ?_
        refine lv_iload_n hx hb dX8_cast_42 rfl (lv_at hl 2 rfl) ?_
        refine rq_call1 (v := .int (pw m0 32 (c1 + 1) 1 4)) (rn_V (As := [.int w]) (rest := [.ref h0, .int (tm m0 1 (pw m0 32 r0 1 4)), .int v, .ref h0]) (ci := 7) (fs := [.int m0, .int m1, .int m2, .int m3, .int m4, .ref m5, .int m6, .int m7, .int m8, .ref m9, .ref m10, .ref m11, .int m12, .ref m13, .ref m14, .ref m15, .ref m16, .int m17, .ref m18, .ref m19, .ref m20, .ref m21, .ref m22, .ref m23, .ref m24, .ref m25, .int m26, .int m27, .int m28, .int m29, .int m30, .int m31, .ref m32, .ref m33, .ref m34, .ref m35, .int m36, .ref m37, .int m38, .ref m39, .ref m40, .ref m41, .ref m42, .ref m43]) ⟨hx, hb, hml, hown, hts⟩ (c_X8_mark l D cA h0 m0 m1 m2 m3 m4 m5 m6 m7 m8 m9 m10 m11 m12 m13 m14 m15 m16 m17 m18 m19 m20 m21 m22 m23 m24 m25 m26 m27 m28 m29 m30 m31 m32 m33 m34 m35 m36 m37 m38 m39 m40 m41 m42 m43 w c1 hcc hc9 (iv_p hgp hp1.1 hp1.2)) rfl (cwV 1 hts gX8_cast_X8_mark rfl rfl rfl (by decide +kernel) ⟨Nat.le_of_ble_eq_true rfl, Nat.le_of_ble_eq_true rfl⟩) hK hP [0] rfl rfl rfl hl.1 rfl (Nat.le_of_ble_eq_true rfl) dX8_cast_43 ⟨Nat.le_of_ble_eq_true rfl, Nat.le_of_ble_eq_true rfl⟩) ?_
        refine lv_aload_n hx hb dX8_cast_46 rfl (lv_at hl 0 rfl) ?_
        refine lv_aload_n hx hb dX8_cast_47 rfl (lv_at hl 0 rfl) ?_
        refine va_get (D := D) (ci := 7) (v := .int m7) (C := RX8) (T := TX8) (N := 44) hx hb hts hin_X8 hown hK hP 0 rfl rfl 7 (by decide) (w_RX8_146) (fun _ h9 => h9) rfl dX8_cast_48 ?_
        refine lv_iload_n hx hb dX8_cast_51 rfl (lv_at hl 3 rfl) ?_
        refine rq_call1 (v := .int (pw m0 32 r0 1 m7)) (rn_V (As := [.int m7, .int r]) (rest := [.int (pw m0 32 (c1 + 1) 1 4), .ref h0, .int (tm m0 1 (pw m0 32 r0 1 4)), .int v, .ref h0]) (ci := 7) (fs := [.int m0, .int m1, .int m2, .int m3, .int m4, .ref m5, .int m6, .int m7, .int m8, .ref m9, .ref m10, .ref m11, .int m12, .ref m13, .ref m14, .ref m15, .ref m16, .int m17, .ref m18, .ref m19, .ref m20, .ref m21, .ref m22, .ref m23, .ref m24, .ref m25, .int m26, .int m27, .int m28, .int m29, .int m30, .int m31, .ref m32, .ref m33, .ref m34, .ref m35, .int m36, .ref m37, .int m38, .ref m39, .ref m40, .ref m41, .ref m42, .ref m43]) ⟨hx, hb, hml, hown, hts⟩ (c_X8_power l D cA h0 m0 m1 m2 m3 m4 m5 m6 m7 m8 m9 m10 m11 m12 m13 m14 m15 m16 m17 m18 m19 m20 m21 m22 m23 m24 m25 m26 m27 m28 m29 m30 m31 m32 m33 m34 m35 m36 m37 m38 m39 m40 m41 m42 m43 m7 r r0 hr0 hr9 (iv_p hgp hp1.1 hp1.2)) rfl (cwV 2 hts gX8_cast_X8_power rfl rfl rfl (by decide +kernel) ⟨Nat.le_of_ble_eq_true rfl, Nat.le_of_ble_eq_true rfl⟩) hK hP [0] rfl rfl rfl hl.1 rfl (Nat.le_of_ble_eq_true rfl) dX8_cast_52 ⟨Nat.le_of_ble_eq_true rfl, Nat.le_of_ble_eq_true rfl⟩) ?_
        refine rq_call1 (v := .int (tm m0 (pw m0 32 (c1 + 1) 1 4) (pw m0 32 r0 1 m7))) (rn_V (As := [.int (pw m0 32 (c1 + 1) 1 4), .int (pw m0 32 r0 1 m7)]) (rest := [.int (tm m0 1 (pw m0 32 r0 1 4)), .int v, .ref h0]) (ci := 7) (fs := [.int m0, .int m1, .int m2, .int m3, .int m4, .ref m5, .int m6, .int m7, .int m8, .ref m9, .ref m10, .ref m11, .int m12, .ref m13, .ref m14, .ref m15, .ref m16, .int m17, .ref m18, .ref m19, .ref m20, .ref m21, .ref m22, .ref m23, .ref m24, .ref m25, .int m26, .int m27, .int m28, .int m29, .int m30, .int m31, .ref m32, .ref m33, .ref m34, .ref m35, .int m36, .ref m37, .int m38, .ref m39, .ref m40, .ref m41, .ref m42, .ref m43]) ⟨hx, hb, hml, hown, hts⟩ (c_X8_times l D cA h0 m0 m1 m2 m3 m4 m5 m6 m7 m8 m9 m10 m11 m12 m13 m14 m15 m16 m17 m18 m19 m20 m21 m22 m23 m24 m25 m26 m27 m28 m29 m30 m31 m32 m33 m34 m35 m36 m37 m38 m39 m40 m41 m42 m43 (pw m0 32 (c1 + 1) 1 4) (pw m0 32 r0 1 m7) (iv_p hgp hp1.1 hp1.2)) rfl (cwV 2 hts gX8_cast_X8_times rfl rfl rfl (by decide +kernel) ⟨Nat.le_of_ble_eq_true rfl, Nat.le_of_ble_eq_true rfl⟩) hK hP [0] rfl rfl rfl hl.1 rfl (Nat.le_of_ble_eq_true rfl) dX8_cast_55 ⟨Nat.le_of_ble_eq_true rfl, Nat.le_of_ble_eq_true rfl⟩) ?_
        refine wl_call1 (v := .long (dg (dg (dg (dg (cho cf m38 (m38 - 1)) ((2 : Int32).toInt64)) (v.toInt64)) ((tm m0 1 (pw m0 32 r0 1 4)).toInt64)) (tm m0 (pw m0 32 (c1 + 1) 1 4) (pw m0 32 r0 1 m7)).toInt64)) (wc := [(h0, .inr (7, [.int m0, .int m1, .int m2, .int m3, .int m4, .ref m5, .int m6, .int m7, .int m8, .ref m9, .ref m10, .ref m11, .int m12, .ref m13, .ref m14, .ref m15, .ref m16, .int m17, .ref m18, .ref m19, .ref m20, .ref m21, .ref m22, .ref m23, .ref m24, .ref m25, .int m26, .int m27, .int m28, .int m29, .int m30, .int m31, .ref m32, .ref m33, .ref m34, .ref m35, .int m36, .ref m37, .int m38, .ref m39, .ref m40, .ref m41, .ref m42, .ref m43])), (m9, .inl (cA 1, 40, .inl hcf)), (m10, .inl (cA 0, 40, .inl caf)), (m11, .inl (cA 0, 40, .inl cbf)), (m39, .inl (cA 0, 600, .inl kf)), (m40, .inl (cA 2, 600, .inr (.inl (fun i => (xf i).toInt64)))), (m41, .inl (cA 2, 600, .inr (.inl (fun i => (yf i).toInt64)))), (m42, .inl (cA 2, 600, .inr (.inl zf))), (m43, .inl (cA 2, 600, .inr (.inl cf)))]) (w1 := [(h0, .inr (7, [.int m0, .int m1, .int m2, .int m3, .int m4, .ref m5, .int m6, .int m7, .int m8, .ref m9, .ref m10, .ref m11, .int m12, .ref m13, .ref m14, .ref m15, .ref m16, .int m17, .ref m18, .ref m19, .ref m20, .ref m21, .ref m22, .ref m23, .ref m24, .ref m25, .int m26, .int m27, .int m28, .int m29, .int m30, .int m31, .ref m32, .ref m33, .ref m34, .ref m35, .int m36, .ref m37, .int (m38 + 1), .ref m39, .ref m40, .ref m41, .ref m42, .ref m43])), (m9, .inl (cA 1, 40, .inl (upd hcf v.toNatClampNeg (vp_nar .boolean 1)))), (m10, .inl (cA 0, 40, .inl (upd caf v.toNatClampNeg (tm m0 1 (pw m0 32 r0 1 4))))), (m11, .inl (cA 0, 40, .inl (upd cbf v.toNatClampNeg (tm m0 (pw m0 32 (c1 + 1) 1 4) (pw m0 32 r0 1 m7))))), (m39, .inl (cA 0, 600, .inl (upd kf m38.toNatClampNeg 2))), (m40, .inl (cA 2, 600, .inr (.inl (fun i => ((upd xf m38.toNatClampNeg v) i).toInt64)))), (m41, .inl (cA 2, 600, .inr (.inl (fun i => ((upd yf m38.toNatClampNeg (tm m0 1 (pw m0 32 r0 1 4))) i).toInt64)))), (m42, .inl (cA 2, 600, .inr (.inl (vp_updL zf m38.toNatClampNeg (tm m0 (pw m0 32 (c1 + 1) 1 4) (pw m0 32 r0 1 m7)).toInt64)))), (m43, .inl (cA 2, 600, .inr (.inl (vp_updL cf m38.toNatClampNeg (dg (dg (dg (dg (cho cf m38 (m38 - 1)) ((2 : Int32).toInt64)) (v.toInt64)) ((tm m0 1 (pw m0 32 r0 1 4)).toInt64)) (tm m0 (pw m0 32 (c1 + 1) 1 4) (pw m0 32 r0 1 m7)).toInt64)))))]) (ws' := [(h0, .inr (7, [.int m0, .int m1, .int m2, .int m3, .int m4, .ref m5, .int m6, .int m7, .int m8, .ref m9, .ref m10, .ref m11, .int m12, .ref m13, .ref m14, .ref m15, .ref m16, .int m17, .ref m18, .ref m19, .ref m20, .ref m21, .ref m22, .ref m23, .ref m24, .ref m25, .int m26, .int m27, .int m28, .int m29, .int m30, .int m31, .ref m32, .ref m33, .ref m34, .ref m35, .int m36, .ref m37, .int (m38 + 1), .ref m39, .ref m40, .ref m41, .ref m42, .ref m43])), (m9, .inl (cA 1, 40, .inl (upd hcf v.toNatClampNeg (vp_nar .boolean 1)))), (m10, .inl (cA 0, 40, .inl (upd caf v.toNatClampNeg (tm m0 1 (pw m0 32 r0 1 4))))), (m11, .inl (cA 0, 40, .inl (upd cbf v.toNatClampNeg (tm m0 (pw m0 32 (c1 + 1) 1 4) (pw m0 32 r0 1 m7))))), (m39, .inl (cA 0, 600, .inl (upd kf m38.toNatClampNeg 2))), (m40, .inl (cA 2, 600, .inr (.inl (fun i => ((upd xf m38.toNatClampNeg v) i).toInt64)))), (m41, .inl (cA 2, 600, .inr (.inl (fun i => ((upd yf m38.toNatClampNeg (tm m0 1 (pw m0 32 r0 1 4))) i).toInt64)))), (m42, .inl (cA 2, 600, .inr (.inl (vp_updL zf m38.toNatClampNeg (tm m0 (pw m0 32 (c1 + 1) 1 4) (pw m0 32 r0 1 m7)).toInt64)))), (m43, .inl (cA 2, 600, .inr (.inl (vp_updL cf m38.toNatClampNeg (dg (dg (dg (dg (cho cf m38 (m38 - 1)) ((2 : Int32).toInt64)) (v.toInt64)) ((tm m0 1 (pw m0 32 r0 1 4)).toInt64)) (tm m0 (pw m0 32 (c1 + 1) 1 4) (pw m0 32 r0 1 m7)).toInt64)))))]) (wn_V (As := [.int v, .int (tm m0 1 (pw m0 32 r0 1 4)), .int (tm m0 (pw m0 32 (c1 + 1) 1 4) (pw m0 32 r0 1 m7))]) (rest := []) (ci := 7) (fs := [.int m0, .int m1, .int m2, .int m3, .int m4, .ref m5, .int m6, .int m7, .int m8, .ref m9, .ref m10, .ref m11, .int m12, .ref m13, .ref m14, .ref m15, .ref m16, .int m17, .ref m18, .ref m19, .ref m20, .ref m21, .ref m22, .ref m23, .ref m24, .ref m25, .int m26, .int m27, .int m28, .int m29, .int m30, .int m31, .ref m32, .ref m33, .ref m34, .ref m35, .int m36, .ref m37, .int m38, .ref m39, .ref m40, .ref m41, .ref m42, .ref m43]) ⟨hx, hb, hml, hown, hts⟩ (c_X8_casts l D cA h0 m0 m1 m2 m3 m4 m5 m6 m7 m8 m9 m10 m11 m12 m13 m14 m15 m16 m17 m18 m19 m20 m21 m22 m23 m24 m25 m26 m27 m28 m29 m30 m31 m32 m33 m34 m35 m36 m37 m38 m39 m40 m41 m42 m43 v (tm m0 1 (pw m0 32 r0 1 4)) (tm m0 (pw m0 32 (c1 + 1) 1 4) (pw m0 32 r0 1 m7)) w0 n0 hcf caf cbf kf xf yf zf cf hw0 hw4 hbn h6) rfl (cwV 3 hts gX8_cast_X8_casts rfl rfl rfl (by decide +kernel) ⟨Nat.le_of_ble_eq_true rfl, Nat.le_of_ble_eq_true rfl⟩) hK hP hD [0, 1, 2, 3, 4, 5, 6, 7, 8] rfl (by decide) rfl rfl rfl hl.1 rfl (Nat.le_of_ble_eq_true rfl) dX8_cast_58 ⟨Nat.le_of_ble_eq_true rfl, Nat.le_of_ble_eq_true rfl⟩) hP hD hS [0, 1, 2, 3, 4, 5, 6, 7, 8] [] rfl rfl (wr := []) rfl rfl (ads := [h0, m9, m10, m11, m39, m40, m41, m42, m43]) rfl rfl (adc := [h0, m9, m10, m11, m39, m40, m41, m42, m43]) rfl rfl rfl (fun H locs hP hD hS => ?_)
        have hP9 : va_P D vwCl [(h0, .inr (7, [.int m0, .int m1, .int m2, .int m3, .int m4, .ref m5, .int m6, .int m7, .int m8, .ref m9, .ref m10, .ref m11, .int m12, .ref m13, .ref m14, .ref m15, .ref m16, .int m17, .ref m18, .ref m19, .ref m20, .ref m21, .ref m22, .ref m23, .ref m24, .ref m25, .int m26, .int m27, .int m28, .int m29, .int m30, .int m31, .ref m32, .ref m33, .ref m34, .ref m35, .int m36, .ref m37, .int (m38 + 1), .ref m39, .ref m40, .ref m41, .ref m42, .ref m43])), (m9, .inl (cA 1, 40, .inl (upd hcf v.toNatClampNeg (vp_nar .boolean 1)))), (m10, .inl (cA 0, 40, .inl (upd caf v.toNatClampNeg (tm m0 1 (pw m0 32 r0 1 4))))), (m11, .inl (cA 0, 40, .inl (upd cbf v.toNatClampNeg (tm m0 (pw m0 32 (c1 + 1) 1 4) (pw m0 32 r0 1 m7))))), (m39, .inl (cA 0, 600, .inl (upd kf m38.toNatClampNeg 2))), (m40, .inl (cA 2, 600, .inr (.inl (fun i => ((upd xf m38.toNatClampNeg v) i).toInt64)))), (m41, .inl (cA 2, 600, .inr (.inl (fun i => ((upd yf m38.toNatClampNeg (tm m0 1 (pw m0 32 r0 1 4))) i).toInt64)))), (m42, .inl (cA 2, 600, .inr (.inl (vp_updL zf m38.toNatClampNeg (tm m0 (pw m0 32 (c1 + 1) 1 4) (pw m0 32 r0 1 m7)).toInt64)))), (m43, .inl (cA 2, 600, .inr (.inl (vp_updL cf m38.toNatClampNeg (dg (dg (dg (dg (cho cf m38 (m38 - 1)) ((2 : Int32).toInt64)) (v.toInt64)) ((tm m0 1 (pw m0 32 r0 1 4)).toInt64)) (tm m0 (pw m0 32 (c1 + 1) 1 4) (pw m0 32 r0 1 m7)).toInt64)))))] H := hP
        exact W.lret (v := (dg (dg (dg (dg (cho cf m38 (m38 - 1)) ((2 : Int32).toInt64)) (v.toInt64)) ((tm m0 1 (pw m0 32 r0 1 4)).toInt64)) (tm m0 (pw m0 32 (c1 + 1) 1 4) (pw m0 32 r0 1 m7)).toInt64)) hx hb hr (fun t ht hW => ⟨congrArg (fun z => Outcome.returned (some (Value.long z))) (rfl), by rw [ht]; exact hP9, hS.F ht⟩) hS.2.2 dX8_cast_61
      · skip
        exact absurd hok.2.2 (bI_0 c_27)

set_option maxHeartbeats 4000000 in
set_option maxRecDepth 100000 in
theorem c_X8_castPair_no (l : Launch) (D : va_G) (cA : Nat → ClassId) (h0 : Nat) (m0 : Int32) (m1 : Int32) (m2 : Int32) (m3 : Int32) (m4 : Int32) (m5 : Nat) (m6 : Int32) (m7 : Int32) (m8 : Int32) (m9 : Nat) (m10 : Nat) (m11 : Nat) (m12 : Int32) (m13 : Nat) (m14 : Nat) (m15 : Nat) (m16 : Nat) (m17 : Int32) (m18 : Nat) (m19 : Nat) (m20 : Nat) (m21 : Nat) (m22 : Nat) (m23 : Nat) (m24 : Nat) (m25 : Nat) (m26 : Int32) (m27 : Int32) (m28 : Int32) (m29 : Int32) (m30 : Int32) (m31 : Int32) (m32 : Nat) (m33 : Nat) (m34 : Nat) (m35 : Nat) (m36 : Int32) (m37 : Nat) (m38 : Int32) (m39 : Nat) (m40 : Nat) (m41 : Nat) (m42 : Nat) (m43 : Nat) (v : Int32) (w : Int32) (r : Int32) (v0 : Nat) (q0 : Nat) (p0 : Nat) (hno : ¬ ((m6 = 1 ∧ 0 ≤ v ∧ v < m8 ∧ m38 < 500) ∧ (1 ≤ w ∧ w < m0 ∧ pw m0 32 q0 1 w = 1) ∧ (1 ≤ r ∧ r < m0 ∧ pw m0 32 q0 1 r = 1))) (hv0 : m8 = nI v0) (hv4 : v0 ≤ 40) (hgq : m1 = nI q0) (hq1 : 1 ≤ q0 ∧ q0 < 1000000) (hgp : m0 = nI p0) (hp1 : 2 ≤ p0 ∧ p0 < 1000000) : Met l yX8_castPair wsX8_castPair ({ frames := 3, cells := 0, slots := 0, locals := 68 }) (rPc vwCl D cA [(h0, .inr (7, [.int m0, .int m1, .int m2, .int m3, .int m4, .ref m5, .int m6, .int m7, .int m8, .ref m9, .ref m10, .ref m11, .int m12, .ref m13, .ref m14, .ref m15, .ref m16, .int m17, .ref m18, .ref m19, .ref m20, .ref m21, .ref m22, .ref m23, .ref m24, .ref m25, .int m26, .int m27, .int m28, .int m29, .int m30, .int m31, .ref m32, .ref m33, .ref m34, .ref m35, .int m36, .ref m37, .int m38, .ref m39, .ref m40, .ref m41, .ref m42, .ref m43]))] [.ref h0, .int v, .int w, .int r]) (rq_x (some (.long 0))) 0 0 (fun _ => False) := by
  refine Met.ofW (cc := cX8_castPair) (maxL := 4) (ret := (some .long)) (by decide) rfl ?_
  intro p e s m args below meth c s₁ B hml hv
  obtain ⟨rfl, hP, hK⟩ := hv
  have hx := B.exec
  have hb := B.bytes
  have hr := B.returns
  have hts := atoms_spec (ws := wsX8_castPair) B.pre
  have hown : s.vm.findClass RX8 = some m.cls := findClass_of_methodNamed B.named
  have hlocks := B.notSynchronized
  have hl := lv_entry ([.ref h0, .int v, .int w, .int r]) (n := 4) (Nat.le_of_ble_eq_true rfl)
  rw [lg_entry_eq]
  generalize (lg_sl ([.ref h0, .int v, .int w, .int r]) ++ List.replicate (4 - (lg_sl ([.ref h0, .int v, .int w, .int r])).length) Slot.unset).toArray = ls at hl ⊢
  have hl : lv_has ls 4 [(0, .ref h0), (1, .int v), (2, .int w), (3, .int r)] := hl
  refine lv_aload_n hx hb dX8_castPair_0 rfl (lv_at hl 0 rfl) ?_
  refine lv_iload_n hx hb dX8_castPair_1 rfl (lv_at hl 1 rfl) ?_
  refine rq_call1 (v := .int (bI (m6 = 1 ∧ 0 ≤ v ∧ v < m8 ∧ m38 < 500))) (rn_V (As := [.int v]) (rest := []) (ci := 7) (fs := [.int m0, .int m1, .int m2, .int m3, .int m4, .ref m5, .int m6, .int m7, .int m8, .ref m9, .ref m10, .ref m11, .int m12, .ref m13, .ref m14, .ref m15, .ref m16, .int m17, .ref m18, .ref m19, .ref m20, .ref m21, .ref m22, .ref m23, .ref m24, .ref m25, .int m26, .int m27, .int m28, .int m29, .int m30, .int m31, .ref m32, .ref m33, .ref m34, .ref m35, .int m36, .ref m37, .int m38, .ref m39, .ref m40, .ref m41, .ref m42, .ref m43]) ⟨hx, hb, hml, hown, hts⟩ (c_X8_mayCast l D cA h0 m0 m1 m2 m3 m4 m5 m6 m7 m8 m9 m10 m11 m12 m13 m14 m15 m16 m17 m18 m19 m20 m21 m22 m23 m24 m25 m26 m27 m28 m29 m30 m31 m32 m33 m34 m35 m36 m37 m38 m39 m40 m41 m42 m43 v v0 hv0 hv4) rfl (cwV 1 hts gX8_castPair_X8_mayCast rfl rfl rfl (by decide +kernel) ⟨Nat.le_of_ble_eq_true rfl, Nat.le_of_ble_eq_true rfl⟩) hK hP [0] rfl rfl rfl hl.1 rfl (Nat.le_of_ble_eq_true rfl) dX8_castPair_2 ⟨Nat.le_of_ble_eq_true rfl, Nat.le_of_ble_eq_true rfl⟩) ?_
  refine lv_if_eq (tgt := 34) hx hb dX8_castPair_5 (by decide) (fun c_5 => ?_) (fun c_5 => ?_)
  · skip
    refine lv_lconst (v := 0) hx hb dX8_castPair_34 (by decide) ?_
    exact W.lret (v := 0) hx hb hr (fun t ht hW => ⟨congrArg (fun z => Outcome.returned (some (Value.long z))) (rfl), ht⟩) (fun _ h => by cases h) dX8_castPair_35
  · skip
    refine lv_aload_n hx hb dX8_castPair_8 rfl (lv_at hl 0 rfl) ?_
    refine lv_iload_n hx hb dX8_castPair_9 rfl (lv_at hl 2 rfl) ?_
    refine rq_call1 (v := .int (bI (1 ≤ w ∧ w < m0 ∧ pw m0 32 q0 1 w = 1))) (rn_V (As := [.int w]) (rest := []) (ci := 7) (fs := [.int m0, .int m1, .int m2, .int m3, .int m4, .ref m5, .int m6, .int m7, .int m8, .ref m9, .ref m10, .ref m11, .int m12, .ref m13, .ref m14, .ref m15, .ref m16, .int m17, .ref m18, .ref m19, .ref m20, .ref m21, .ref m22, .ref m23, .ref m24, .ref m25, .int m26, .int m27, .int m28, .int m29, .int m30, .int m31, .ref m32, .ref m33, .ref m34, .ref m35, .int m36, .ref m37, .int m38, .ref m39, .ref m40, .ref m41, .ref m42, .ref m43]) ⟨hx, hb, hml, hown, hts⟩ (c_X8_isOfGroup l D cA h0 m0 m1 m2 m3 m4 m5 m6 m7 m8 m9 m10 m11 m12 m13 m14 m15 m16 m17 m18 m19 m20 m21 m22 m23 m24 m25 m26 m27 m28 m29 m30 m31 m32 m33 m34 m35 m36 m37 m38 m39 m40 m41 m42 m43 w q0 p0 hgq hq1 hgp hp1) rfl (cwV 1 hts gX8_castPair_X8_isOfGroup rfl rfl rfl (by decide +kernel) ⟨Nat.le_of_ble_eq_true rfl, Nat.le_of_ble_eq_true rfl⟩) hK hP [0] rfl rfl rfl hl.1 rfl (Nat.le_of_ble_eq_true rfl) dX8_castPair_10 ⟨Nat.le_of_ble_eq_true rfl, Nat.le_of_ble_eq_true rfl⟩) ?_
    refine lv_if_eq (tgt := 34) hx hb dX8_castPair_13 (by decide) (fun c_13 => ?_) (fun c_13 => ?_)
    · skip
      refine lv_lconst (v := 0) hx hb dX8_castPair_34 (by decide) ?_
      exact W.lret (v := 0) hx hb hr (fun t ht hW => ⟨congrArg (fun z => Outcome.returned (some (Value.long z))) (rfl), ht⟩) (fun _ h => by cases h) dX8_castPair_35
    · skip
      refine lv_aload_n hx hb dX8_castPair_16 rfl (lv_at hl 0 rfl) ?_
      refine lv_iload_n hx hb dX8_castPair_17 rfl (lv_at hl 3 rfl) ?_
      refine rq_call1 (v := .int (bI (1 ≤ r ∧ r < m0 ∧ pw m0 32 q0 1 r = 1))) (rn_V (As := [.int r]) (rest := []) (ci := 7) (fs := [.int m0, .int m1, .int m2, .int m3, .int m4, .ref m5, .int m6, .int m7, .int m8, .ref m9, .ref m10, .ref m11, .int m12, .ref m13, .ref m14, .ref m15, .ref m16, .int m17, .ref m18, .ref m19, .ref m20, .ref m21, .ref m22, .ref m23, .ref m24, .ref m25, .int m26, .int m27, .int m28, .int m29, .int m30, .int m31, .ref m32, .ref m33, .ref m34, .ref m35, .int m36, .ref m37, .int m38, .ref m39, .ref m40, .ref m41, .ref m42, .ref m43]) ⟨hx, hb, hml, hown, hts⟩ (c_X8_isOfGroup l D cA h0 m0 m1 m2 m3 m4 m5 m6 m7 m8 m9 m10 m11 m12 m13 m14 m15 m16 m17 m18 m19 m20 m21 m22 m23 m24 m25 m26 m27 m28 m29 m30 m31 m32 m33 m34 m35 m36 m37 m38 m39 m40 m41 m42 m43 r q0 p0 hgq hq1 hgp hp1) rfl (cwV 1 hts gX8_castPair_X8_isOfGroup rfl rfl rfl (by decide +kernel) ⟨Nat.le_of_ble_eq_true rfl, Nat.le_of_ble_eq_true rfl⟩) hK hP [0] rfl rfl rfl hl.1 rfl (Nat.le_of_ble_eq_true rfl) dX8_castPair_18 ⟨Nat.le_of_ble_eq_true rfl, Nat.le_of_ble_eq_true rfl⟩) ?_
      refine lv_if_eq (tgt := 34) hx hb dX8_castPair_21 (by decide) (fun c_21 => ?_) (fun c_21 => ?_)
      · skip
        refine lv_lconst (v := 0) hx hb dX8_castPair_34 (by decide) ?_
        exact W.lret (v := 0) hx hb hr (fun t ht hW => ⟨congrArg (fun z => Outcome.returned (some (Value.long z))) (rfl), ht⟩) (fun _ h => by cases h) dX8_castPair_35
      · skip
        exact absurd ⟨bI_1 c_5, bI_1 c_13, bI_1 c_21⟩ hno

set_option maxHeartbeats 4000000 in
set_option maxRecDepth 100000 in
theorem c_X8_castPair_ok (l : Launch) (D : va_G) (cA : Nat → ClassId) (h0 : Nat) (m0 : Int32) (m1 : Int32) (m2 : Int32) (m3 : Int32) (m4 : Int32) (m5 : Nat) (m6 : Int32) (m7 : Int32) (m8 : Int32) (m9 : Nat) (m10 : Nat) (m11 : Nat) (m12 : Int32) (m13 : Nat) (m14 : Nat) (m15 : Nat) (m16 : Nat) (m17 : Int32) (m18 : Nat) (m19 : Nat) (m20 : Nat) (m21 : Nat) (m22 : Nat) (m23 : Nat) (m24 : Nat) (m25 : Nat) (m26 : Int32) (m27 : Int32) (m28 : Int32) (m29 : Int32) (m30 : Int32) (m31 : Int32) (m32 : Nat) (m33 : Nat) (m34 : Nat) (m35 : Nat) (m36 : Int32) (m37 : Nat) (m38 : Int32) (m39 : Nat) (m40 : Nat) (m41 : Nat) (m42 : Nat) (m43 : Nat) (v : Int32) (w : Int32) (r : Int32) (v0 : Nat) (q0 : Nat) (p0 : Nat) (w0 : Nat) (n0 : Nat) (hcf : Nat → Int32) (caf : Nat → Int32) (cbf : Nat → Int32) (kf : Nat → Int32) (xf : Nat → Int32) (yf : Nat → Int32) (zf : Nat → Int64) (cf : Nat → Int64) (hok : (m6 = 1 ∧ 0 ≤ v ∧ v < m8 ∧ m38 < 500) ∧ (1 ≤ w ∧ w < m0 ∧ pw m0 32 q0 1 w = 1) ∧ (1 ≤ r ∧ r < m0 ∧ pw m0 32 q0 1 r = 1)) (hv0 : m8 = nI v0) (hv4 : v0 ≤ 40) (hgq : m1 = nI q0) (hq1 : 1 ≤ q0 ∧ q0 < 1000000) (hgp : m0 = nI p0) (hp1 : 2 ≤ p0 ∧ p0 < 1000000) (hw0 : v = nI w0) (hw4 : w0 < 40) (hbn : m38 = nI n0) (h6 : n0 < 600) : Met l yX8_castPair wsX8_castPair ({ frames := 3, cells := 0, slots := 0, locals := 75 }) (wPc vwCl D cA [(h0, .inr (7, [.int m0, .int m1, .int m2, .int m3, .int m4, .ref m5, .int m6, .int m7, .int m8, .ref m9, .ref m10, .ref m11, .int m12, .ref m13, .ref m14, .ref m15, .ref m16, .int m17, .ref m18, .ref m19, .ref m20, .ref m21, .ref m22, .ref m23, .ref m24, .ref m25, .int m26, .int m27, .int m28, .int m29, .int m30, .int m31, .ref m32, .ref m33, .ref m34, .ref m35, .int m36, .ref m37, .int m38, .ref m39, .ref m40, .ref m41, .ref m42, .ref m43])), (m9, .inl (cA 1, 40, .inl hcf)), (m10, .inl (cA 0, 40, .inl caf)), (m11, .inl (cA 0, 40, .inl cbf)), (m39, .inl (cA 0, 600, .inl kf)), (m40, .inl (cA 2, 600, .inr (.inl (fun i => (xf i).toInt64)))), (m41, .inl (cA 2, 600, .inr (.inl (fun i => (yf i).toInt64)))), (m42, .inl (cA 2, 600, .inr (.inl zf))), (m43, .inl (cA 2, 600, .inr (.inl cf)))] [.ref h0, .int v, .int w, .int r]) (wq_x vwCl D [(h0, .inr (7, [.int m0, .int m1, .int m2, .int m3, .int m4, .ref m5, .int m6, .int m7, .int m8, .ref m9, .ref m10, .ref m11, .int m12, .ref m13, .ref m14, .ref m15, .ref m16, .int m17, .ref m18, .ref m19, .ref m20, .ref m21, .ref m22, .ref m23, .ref m24, .ref m25, .int m26, .int m27, .int m28, .int m29, .int m30, .int m31, .ref m32, .ref m33, .ref m34, .ref m35, .int m36, .ref m37, .int (m38 + 1), .ref m39, .ref m40, .ref m41, .ref m42, .ref m43])), (m9, .inl (cA 1, 40, .inl (upd hcf v.toNatClampNeg (vp_nar .boolean 1)))), (m10, .inl (cA 0, 40, .inl (upd caf v.toNatClampNeg w))), (m11, .inl (cA 0, 40, .inl (upd cbf v.toNatClampNeg r))), (m39, .inl (cA 0, 600, .inl (upd kf m38.toNatClampNeg 2))), (m40, .inl (cA 2, 600, .inr (.inl (fun i => ((upd xf m38.toNatClampNeg v) i).toInt64)))), (m41, .inl (cA 2, 600, .inr (.inl (fun i => ((upd yf m38.toNatClampNeg w) i).toInt64)))), (m42, .inl (cA 2, 600, .inr (.inl (vp_updL zf m38.toNatClampNeg r.toInt64)))), (m43, .inl (cA 2, 600, .inr (.inl (vp_updL cf m38.toNatClampNeg (dg (dg (dg (dg (cho cf m38 (m38 - 1)) ((2 : Int32).toInt64)) (v.toInt64)) (w.toInt64)) r.toInt64)))))] (some (.long (dg (dg (dg (dg (cho cf m38 (m38 - 1)) ((2 : Int32).toInt64)) (v.toInt64)) (w.toInt64)) r.toInt64))) (wA [(h0, .inr (7, [.int m0, .int m1, .int m2, .int m3, .int m4, .ref m5, .int m6, .int m7, .int m8, .ref m9, .ref m10, .ref m11, .int m12, .ref m13, .ref m14, .ref m15, .ref m16, .int m17, .ref m18, .ref m19, .ref m20, .ref m21, .ref m22, .ref m23, .ref m24, .ref m25, .int m26, .int m27, .int m28, .int m29, .int m30, .int m31, .ref m32, .ref m33, .ref m34, .ref m35, .int m36, .ref m37, .int m38, .ref m39, .ref m40, .ref m41, .ref m42, .ref m43])), (m9, .inl (cA 1, 40, .inl hcf)), (m10, .inl (cA 0, 40, .inl caf)), (m11, .inl (cA 0, 40, .inl cbf)), (m39, .inl (cA 0, 600, .inl kf)), (m40, .inl (cA 2, 600, .inr (.inl (fun i => (xf i).toInt64)))), (m41, .inl (cA 2, 600, .inr (.inl (fun i => (yf i).toInt64)))), (m42, .inl (cA 2, 600, .inr (.inl zf))), (m43, .inl (cA 2, 600, .inr (.inl cf)))])) 0 0 (wA [(h0, .inr (7, [.int m0, .int m1, .int m2, .int m3, .int m4, .ref m5, .int m6, .int m7, .int m8, .ref m9, .ref m10, .ref m11, .int m12, .ref m13, .ref m14, .ref m15, .ref m16, .int m17, .ref m18, .ref m19, .ref m20, .ref m21, .ref m22, .ref m23, .ref m24, .ref m25, .int m26, .int m27, .int m28, .int m29, .int m30, .int m31, .ref m32, .ref m33, .ref m34, .ref m35, .int m36, .ref m37, .int m38, .ref m39, .ref m40, .ref m41, .ref m42, .ref m43])), (m9, .inl (cA 1, 40, .inl hcf)), (m10, .inl (cA 0, 40, .inl caf)), (m11, .inl (cA 0, 40, .inl cbf)), (m39, .inl (cA 0, 600, .inl kf)), (m40, .inl (cA 2, 600, .inr (.inl (fun i => (xf i).toInt64)))), (m41, .inl (cA 2, 600, .inr (.inl (fun i => (yf i).toInt64)))), (m42, .inl (cA 2, 600, .inr (.inl zf))), (m43, .inl (cA 2, 600, .inr (.inl cf)))]) := by
  refine Met.ofW (cc := cX8_castPair) (maxL := 4) (ret := (some .long)) (by decide) rfl ?_
  intro p e s m args below meth c s₁ B hml hv
  obtain ⟨rfl, hP, hK, hD0⟩ := hv
  have hx := B.exec
  have hb := B.bytes
  have hr := B.returns
  have hts := atoms_spec (ws := wsX8_castPair) B.pre
  have hown : s.vm.findClass RX8 = some m.cls := findClass_of_methodNamed B.named
  have hlocks := B.notSynchronized
  have hD : va_D (wA [(h0, .inr (7, [.int m0, .int m1, .int m2, .int m3, .int m4, .ref m5, .int m6, .int m7, .int m8, .ref m9, .ref m10, .ref m11, .int m12, .ref m13, .ref m14, .ref m15, .ref m16, .int m17, .ref m18, .ref m19, .ref m20, .ref m21, .ref m22, .ref m23, .ref m24, .ref m25, .int m26, .int m27, .int m28, .int m29, .int m30, .int m31, .ref m32, .ref m33, .ref m34, .ref m35, .int m36, .ref m37, .int m38, .ref m39, .ref m40, .ref m41, .ref m42, .ref m43])), (m9, .inl (cA 1, 40, .inl hcf)), (m10, .inl (cA 0, 40, .inl caf)), (m11, .inl (cA 0, 40, .inl cbf)), (m39, .inl (cA 0, 600, .inl kf)), (m40, .inl (cA 2, 600, .inr (.inl (fun i => (xf i).toInt64)))), (m41, .inl (cA 2, 600, .inr (.inl (fun i => (yf i).toInt64)))), (m42, .inl (cA 2, 600, .inr (.inl zf))), (m43, .inl (cA 2, 600, .inr (.inl cf)))]) [(h0, .inr (7, [.int m0, .int m1, .int m2, .int m3, .int m4, .ref m5, .int m6, .int m7, .int m8, .ref m9, .ref m10, .ref m11, .int m12, .ref m13, .ref m14, .ref m15, .ref m16, .int m17, .ref m18, .ref m19, .ref m20, .ref m21, .ref m22, .ref m23, .ref m24, .ref m25, .int m26, .int m27, .int m28, .int m29, .int m30, .int m31, .ref m32, .ref m33, .ref m34, .ref m35, .int m36, .ref m37, .int m38, .ref m39, .ref m40, .ref m41, .ref m42, .ref m43])), (m9, .inl (cA 1, 40, .inl hcf)), (m10, .inl (cA 0, 40, .inl caf)), (m11, .inl (cA 0, 40, .inl cbf)), (m39, .inl (cA 0, 600, .inl kf)), (m40, .inl (cA 2, 600, .inr (.inl (fun i => (xf i).toInt64)))), (m41, .inl (cA 2, 600, .inr (.inl (fun i => (yf i).toInt64)))), (m42, .inl (cA 2, 600, .inr (.inl zf))), (m43, .inl (cA 2, 600, .inr (.inl cf)))] := ⟨hD0.1, fun k q h => List.mem_map.mpr ⟨q, List.mem_of_getElem? h, rfl⟩⟩
  have hS : va_S (wA [(h0, .inr (7, [.int m0, .int m1, .int m2, .int m3, .int m4, .ref m5, .int m6, .int m7, .int m8, .ref m9, .ref m10, .ref m11, .int m12, .ref m13, .ref m14, .ref m15, .ref m16, .int m17, .ref m18, .ref m19, .ref m20, .ref m21, .ref m22, .ref m23, .ref m24, .ref m25, .int m26, .int m27, .int m28, .int m29, .int m30, .int m31, .ref m32, .ref m33, .ref m34, .ref m35, .int m36, .ref m37, .int m38, .ref m39, .ref m40, .ref m41, .ref m42, .ref m43])), (m9, .inl (cA 1, 40, .inl hcf)), (m10, .inl (cA 0, 40, .inl caf)), (m11, .inl (cA 0, 40, .inl cbf)), (m39, .inl (cA 0, 600, .inl kf)), (m40, .inl (cA 2, 600, .inr (.inl (fun i => (xf i).toInt64)))), (m41, .inl (cA 2, 600, .inr (.inl (fun i => (yf i).toInt64)))), (m42, .inl (cA 2, 600, .inr (.inl zf))), (m43, .inl (cA 2, 600, .inr (.inl cf)))]) s.heap s.heap [] := va_S.rf
  generalize hAe : wA [(h0, .inr (7, [.int m0, .int m1, .int m2, .int m3, .int m4, .ref m5, .int m6, .int m7, .int m8, .ref m9, .ref m10, .ref m11, .int m12, .ref m13, .ref m14, .ref m15, .ref m16, .int m17, .ref m18, .ref m19, .ref m20, .ref m21, .ref m22, .ref m23, .ref m24, .ref m25, .int m26, .int m27, .int m28, .int m29, .int m30, .int m31, .ref m32, .ref m33, .ref m34, .ref m35, .int m36, .ref m37, .int m38, .ref m39, .ref m40, .ref m41, .ref m42, .ref m43])), (m9, .inl (cA 1, 40, .inl hcf)), (m10, .inl (cA 0, 40, .inl caf)), (m11, .inl (cA 0, 40, .inl cbf)), (m39, .inl (cA 0, 600, .inl kf)), (m40, .inl (cA 2, 600, .inr (.inl (fun i => (xf i).toInt64)))), (m41, .inl (cA 2, 600, .inr (.inl (fun i => (yf i).toInt64)))), (m42, .inl (cA 2, 600, .inr (.inl zf))), (m43, .inl (cA 2, 600, .inr (.inl cf)))] = A at hD hS ⊢
  have hP : va_P D vwCl [(h0, .inr (7, [.int m0, .int m1, .int m2, .int m3, .int m4, .ref m5, .int m6, .int m7, .int m8, .ref m9, .ref m10, .ref m11, .int m12, .ref m13, .ref m14, .ref m15, .ref m16, .int m17, .ref m18, .ref m19, .ref m20, .ref m21, .ref m22, .ref m23, .ref m24, .ref m25, .int m26, .int m27, .int m28, .int m29, .int m30, .int m31, .ref m32, .ref m33, .ref m34, .ref m35, .int m36, .ref m37, .int m38, .ref m39, .ref m40, .ref m41, .ref m42, .ref m43])), (m9, .inl (cA 1, 40, .inl hcf)), (m10, .inl (cA 0, 40, .inl caf)), (m11, .inl (cA 0, 40, .inl cbf)), (m39, .inl (cA 0, 600, .inl kf)), (m40, .inl (cA 2, 600, .inr (.inl (fun i => (xf i).toInt64)))), (m41, .inl (cA 2, 600, .inr (.inl (fun i => (yf i).toInt64)))), (m42, .inl (cA 2, 600, .inr (.inl zf))), (m43, .inl (cA 2, 600, .inr (.inl cf)))] s.heap := hP
  have hl := lv_entry ([.ref h0, .int v, .int w, .int r]) (n := 4) (Nat.le_of_ble_eq_true rfl)
  rw [lg_entry_eq]
  generalize (lg_sl ([.ref h0, .int v, .int w, .int r]) ++ List.replicate (4 - (lg_sl ([.ref h0, .int v, .int w, .int r])).length) Slot.unset).toArray = ls at hl ⊢
  have hl : lv_has ls 4 [(0, .ref h0), (1, .int v), (2, .int w), (3, .int r)] := hl
  refine lv_aload_n hx hb dX8_castPair_0 rfl (lv_at hl 0 rfl) ?_
  refine lv_iload_n hx hb dX8_castPair_1 rfl (lv_at hl 1 rfl) ?_
  refine rq_call1 (v := .int (bI (m6 = 1 ∧ 0 ≤ v ∧ v < m8 ∧ m38 < 500))) (rn_V (As := [.int v]) (rest := []) (ci := 7) (fs := [.int m0, .int m1, .int m2, .int m3, .int m4, .ref m5, .int m6, .int m7, .int m8, .ref m9, .ref m10, .ref m11, .int m12, .ref m13, .ref m14, .ref m15, .ref m16, .int m17, .ref m18, .ref m19, .ref m20, .ref m21, .ref m22, .ref m23, .ref m24, .ref m25, .int m26, .int m27, .int m28, .int m29, .int m30, .int m31, .ref m32, .ref m33, .ref m34, .ref m35, .int m36, .ref m37, .int m38, .ref m39, .ref m40, .ref m41, .ref m42, .ref m43]) ⟨hx, hb, hml, hown, hts⟩ (c_X8_mayCast l D cA h0 m0 m1 m2 m3 m4 m5 m6 m7 m8 m9 m10 m11 m12 m13 m14 m15 m16 m17 m18 m19 m20 m21 m22 m23 m24 m25 m26 m27 m28 m29 m30 m31 m32 m33 m34 m35 m36 m37 m38 m39 m40 m41 m42 m43 v v0 hv0 hv4) rfl (cwV 1 hts gX8_castPair_X8_mayCast rfl rfl rfl (by decide +kernel) ⟨Nat.le_of_ble_eq_true rfl, Nat.le_of_ble_eq_true rfl⟩) hK hP [0] rfl rfl rfl hl.1 rfl (Nat.le_of_ble_eq_true rfl) dX8_castPair_2 ⟨Nat.le_of_ble_eq_true rfl, Nat.le_of_ble_eq_true rfl⟩) ?_
  refine lv_if_eq (tgt := 34) hx hb dX8_castPair_5 (by decide) (fun c_5 => ?_) (fun c_5 => ?_)
  · skip
    exact absurd hok.1 (bI_0 c_5)
  · skip
    refine lv_aload_n hx hb dX8_castPair_8 rfl (lv_at hl 0 rfl) ?_
    refine lv_iload_n hx hb dX8_castPair_9 rfl (lv_at hl 2 rfl) ?_
    refine rq_call1 (v := .int (bI (1 ≤ w ∧ w < m0 ∧ pw m0 32 q0 1 w = 1))) (rn_V (As := [.int w]) (rest := []) (ci := 7) (fs := [.int m0, .int m1, .int m2, .int m3, .int m4, .ref m5, .int m6, .int m7, .int m8, .ref m9, .ref m10, .ref m11, .int m12, .ref m13, .ref m14, .ref m15, .ref m16, .int m17, .ref m18, .ref m19, .ref m20, .ref m21, .ref m22, .ref m23, .ref m24, .ref m25, .int m26, .int m27, .int m28, .int m29, .int m30, .int m31, .ref m32, .ref m33, .ref m34, .ref m35, .int m36, .ref m37, .int m38, .ref m39, .ref m40, .ref m41, .ref m42, .ref m43]) ⟨hx, hb, hml, hown, hts⟩ (c_X8_isOfGroup l D cA h0 m0 m1 m2 m3 m4 m5 m6 m7 m8 m9 m10 m11 m12 m13 m14 m15 m16 m17 m18 m19 m20 m21 m22 m23 m24 m25 m26 m27 m28 m29 m30 m31 m32 m33 m34 m35 m36 m37 m38 m39 m40 m41 m42 m43 w q0 p0 hgq hq1 hgp hp1) rfl (cwV 1 hts gX8_castPair_X8_isOfGroup rfl rfl rfl (by decide +kernel) ⟨Nat.le_of_ble_eq_true rfl, Nat.le_of_ble_eq_true rfl⟩) hK hP [0] rfl rfl rfl hl.1 rfl (Nat.le_of_ble_eq_true rfl) dX8_castPair_10 ⟨Nat.le_of_ble_eq_true rfl, Nat.le_of_ble_eq_true rfl⟩) ?_
    refine lv_if_eq (tgt := 34) hx hb dX8_castPair_13 (by decide) (fun c_13 => ?_) (fun c_13 => ?_)
    · skip
      exact absurd hok.2.1 (bI_0 c_13)
    · skip
      refine lv_aload_n hx hb dX8_castPair_16 rfl (lv_at hl 0 rfl) ?_
      refine lv_iload_n hx hb dX8_castPair_17 rfl (lv_at hl 3 rfl) ?_
      refine rq_call1 (v := .int (bI (1 ≤ r ∧ r < m0 ∧ pw m0 32 q0 1 r = 1))) (rn_V (As := [.int r]) (rest := []) (ci := 7) (fs := [.int m0, .int m1, .int m2, .int m3, .int m4, .ref m5, .int m6, .int m7, .int m8, .ref m9, .ref m10, .ref m11, .int m12, .ref m13, .ref m14, .ref m15, .ref m16, .int m17, .ref m18, .ref m19, .ref m20, .ref m21, .ref m22, .ref m23, .ref m24, .ref m25, .int m26, .int m27, .int m28, .int m29, .int m30, .int m31, .ref m32, .ref m33, .ref m34, .ref m35, .int m36, .ref m37, .int m38, .ref m39, .ref m40, .ref m41, .ref m42, .ref m43]) ⟨hx, hb, hml, hown, hts⟩ (c_X8_isOfGroup l D cA h0 m0 m1 m2 m3 m4 m5 m6 m7 m8 m9 m10 m11 m12 m13 m14 m15 m16 m17 m18 m19 m20 m21 m22 m23 m24 m25 m26 m27 m28 m29 m30 m31 m32 m33 m34 m35 m36 m37 m38 m39 m40 m41 m42 m43 r q0 p0 hgq hq1 hgp hp1) rfl (cwV 1 hts gX8_castPair_X8_isOfGroup rfl rfl rfl (by decide +kernel) ⟨Nat.le_of_ble_eq_true rfl, Nat.le_of_ble_eq_true rfl⟩) hK hP [0] rfl rfl rfl hl.1 rfl (Nat.le_of_ble_eq_true rfl) dX8_castPair_18 ⟨Nat.le_of_ble_eq_true rfl, Nat.le_of_ble_eq_true rfl⟩) ?_
      refine lv_if_eq (tgt := 34) hx hb dX8_castPair_21 (by decide) (fun c_21 => ?_) (fun c_21 => ?_)
      · skip
        exact absurd hok.2.2 (bI_0 c_21)
      · skip
        refine lv_aload_n hx hb dX8_castPair_24 rfl (lv_at hl 0 rfl) ?_
        refine lv_iload_n hx hb dX8_castPair_25 rfl (lv_at hl 1 rfl) ?_
        refine lv_iload_n hx hb dX8_castPair_26 rfl (lv_at hl 2 rfl) ?_
        refine lv_iload_n hx hb dX8_castPair_27 rfl (lv_at hl 3 rfl) ?_
        refine wl_call1 (v := .long (dg (dg (dg (dg (cho cf m38 (m38 - 1)) ((2 : Int32).toInt64)) (v.toInt64)) (w.toInt64)) r.toInt64)) (wc := [(h0, .inr (7, [.int m0, .int m1, .int m2, .int m3, .int m4, .ref m5, .int m6, .int m7, .int m8, .ref m9, .ref m10, .ref m11, .int m12, .ref m13, .ref m14, .ref m15, .ref m16, .int m17, .ref m18, .ref m19, .ref m20, .ref m21, .ref m22, .ref m23, .ref m24, .ref m25, .int m26, .int m27, .int m28, .int m29, .int m30, .int m31, .ref m32, .ref m33, .ref m34, .ref m35, .int m36, .ref m37, .int m38, .ref m39, .ref m40, .ref m41, .ref m42, .ref m43])), (m9, .inl (cA 1, 40, .inl hcf)), (m10, .inl (cA 0, 40, .inl caf)), (m11, .inl (cA 0, 40, .inl cbf)), (m39, .inl (cA 0, 600, .inl kf)), (m40, .inl (cA 2, 600, .inr (.inl (fun i => (xf i).toInt64)))), (m41, .inl (cA 2, 600, .inr (.inl (fun i => (yf i).toInt64)))), (m42, .inl (cA 2, 600, .inr (.inl zf))), (m43, .inl (cA 2, 600, .inr (.inl cf)))]) (w1 := [(h0, .inr (7, [.int m0, .int m1, .int m2, .int m3, .int m4, .ref m5, .int m6, .int m7, .int m8, .ref m9, .ref m10, .ref m11, .int m12, .ref m13, .ref m14, .ref m15, .ref m16, .int m17, .ref m18, .ref m19, .ref m20, .ref m21, .ref m22, .ref m23, .ref m24, .ref m25, .int m26, .int m27, .int m28, .int m29, .int m30, .int m31, .ref m32, .ref m33, .ref m34, .ref m35, .int m36, .ref m37, .int (m38 + 1), .ref m39, .ref m40, .ref m41, .ref m42, .ref m43])), (m9, .inl (cA 1, 40, .inl (upd hcf v.toNatClampNeg (vp_nar .boolean 1)))), (m10, .inl (cA 0, 40, .inl (upd caf v.toNatClampNeg w))), (m11, .inl (cA 0, 40, .inl (upd cbf v.toNatClampNeg r))), (m39, .inl (cA 0, 600, .inl (upd kf m38.toNatClampNeg 2))), (m40, .inl (cA 2, 600, .inr (.inl (fun i => ((upd xf m38.toNatClampNeg v) i).toInt64)))), (m41, .inl (cA 2, 600, .inr (.inl (fun i => ((upd yf m38.toNatClampNeg w) i).toInt64)))), (m42, .inl (cA 2, 600, .inr (.inl (vp_updL zf m38.toNatClampNeg r.toInt64)))), (m43, .inl (cA 2, 600, .inr (.inl (vp_updL cf m38.toNatClampNeg (dg (dg (dg (dg (cho cf m38 (m38 - 1)) ((2 : Int32).toInt64)) (v.toInt64)) (w.toInt64)) r.toInt64)))))]) (ws' := [(h0, .inr (7, [.int m0, .int m1, .int m2, .int m3, .int m4, .ref m5, .int m6, .int m7, .int m8, .ref m9, .ref m10, .ref m11, .int m12, .ref m13, .ref m14, .ref m15, .ref m16, .int m17, .ref m18, .ref m19, .ref m20, .ref m21, .ref m22, .ref m23, .ref m24, .ref m25, .int m26, .int m27, .int m28, .int m29, .int m30, .int m31, .ref m32, .ref m33, .ref m34, .ref m35, .int m36, .ref m37, .int (m38 + 1), .ref m39, .ref m40, .ref m41, .ref m42, .ref m43])), (m9, .inl (cA 1, 40, .inl (upd hcf v.toNatClampNeg (vp_nar .boolean 1)))), (m10, .inl (cA 0, 40, .inl (upd caf v.toNatClampNeg w))), (m11, .inl (cA 0, 40, .inl (upd cbf v.toNatClampNeg r))), (m39, .inl (cA 0, 600, .inl (upd kf m38.toNatClampNeg 2))), (m40, .inl (cA 2, 600, .inr (.inl (fun i => ((upd xf m38.toNatClampNeg v) i).toInt64)))), (m41, .inl (cA 2, 600, .inr (.inl (fun i => ((upd yf m38.toNatClampNeg w) i).toInt64)))), (m42, .inl (cA 2, 600, .inr (.inl (vp_updL zf m38.toNatClampNeg r.toInt64)))), (m43, .inl (cA 2, 600, .inr (.inl (vp_updL cf m38.toNatClampNeg (dg (dg (dg (dg (cho cf m38 (m38 - 1)) ((2 : Int32).toInt64)) (v.toInt64)) (w.toInt64)) r.toInt64)))))]) (wn_V (As := [.int v, .int w, .int r]) (rest := []) (ci := 7) (fs := [.int m0, .int m1, .int m2, .int m3, .int m4, .ref m5, .int m6, .int m7, .int m8, .ref m9, .ref m10, .ref m11, .int m12, .ref m13, .ref m14, .ref m15, .ref m16, .int m17, .ref m18, .ref m19, .ref m20, .ref m21, .ref m22, .ref m23, .ref m24, .ref m25, .int m26, .int m27, .int m28, .int m29, .int m30, .int m31, .ref m32, .ref m33, .ref m34, .ref m35, .int m36, .ref m37, .int m38, .ref m39, .ref m40, .ref m41, .ref m42, .ref m43]) ⟨hx, hb, hml, hown, hts⟩ (c_X8_casts l D cA h0 m0 m1 m2 m3 m4 m5 m6 m7 m8 m9 m10 m11 m12 m13 m14 m15 m16 m17 m18 m19 m20 m21 m22 m23 m24 m25 m26 m27 m28 m29 m30 m31 m32 m33 m34 m35 m36 m37 m38 m39 m40 m41 m42 m43 v w r w0 n0 hcf caf cbf kf xf yf zf cf hw0 hw4 hbn h6) rfl (cwV 3 hts gX8_castPair_X8_casts rfl rfl rfl (by decide +kernel) ⟨Nat.le_of_ble_eq_true rfl, Nat.le_of_ble_eq_true rfl⟩) hK hP hD [0, 1, 2, 3, 4, 5, 6, 7, 8] rfl (by decide) rfl rfl rfl hl.1 rfl (Nat.le_of_ble_eq_true rfl) dX8_castPair_28 ⟨Nat.le_of_ble_eq_true rfl, Nat.le_of_ble_eq_true rfl⟩) hP hD hS [0, 1, 2, 3, 4, 5, 6, 7, 8] [] rfl rfl (wr := []) rfl rfl (ads := [h0, m9, m10, m11, m39, m40, m41, m42, m43]) rfl rfl (adc := [h0, m9, m10, m11, m39, m40, m41, m42, m43]) rfl rfl rfl (fun H locs hP hD hS => ?_)
        refine lv_goto (tgt := 35) hx hb dX8_castPair_31 (by decide) ?_
        have hP9 : va_P D vwCl [(h0, .inr (7, [.int m0, .int m1, .int m2, .int m3, .int m4, .ref m5, .int m6, .int m7, .int m8, .ref m9, .ref m10, .ref m11, .int m12, .ref m13, .ref m14, .ref m15, .ref m16, .int m17, .ref m18, .ref m19, .ref m20, .ref m21, .ref m22, .ref m23, .ref m24, .ref m25, .int m26, .int m27, .int m28, .int m29, .int m30, .int m31, .ref m32, .ref m33, .ref m34, .ref m35, .int m36, .ref m37, .int (m38 + 1), .ref m39, .ref m40, .ref m41, .ref m42, .ref m43])), (m9, .inl (cA 1, 40, .inl (upd hcf v.toNatClampNeg (vp_nar .boolean 1)))), (m10, .inl (cA 0, 40, .inl (upd caf v.toNatClampNeg w))), (m11, .inl (cA 0, 40, .inl (upd cbf v.toNatClampNeg r))), (m39, .inl (cA 0, 600, .inl (upd kf m38.toNatClampNeg 2))), (m40, .inl (cA 2, 600, .inr (.inl (fun i => ((upd xf m38.toNatClampNeg v) i).toInt64)))), (m41, .inl (cA 2, 600, .inr (.inl (fun i => ((upd yf m38.toNatClampNeg w) i).toInt64)))), (m42, .inl (cA 2, 600, .inr (.inl (vp_updL zf m38.toNatClampNeg r.toInt64)))), (m43, .inl (cA 2, 600, .inr (.inl (vp_updL cf m38.toNatClampNeg (dg (dg (dg (dg (cho cf m38 (m38 - 1)) ((2 : Int32).toInt64)) (v.toInt64)) (w.toInt64)) r.toInt64)))))] H := hP
        exact W.lret (v := (dg (dg (dg (dg (cho cf m38 (m38 - 1)) ((2 : Int32).toInt64)) (v.toInt64)) (w.toInt64)) r.toInt64)) hx hb hr (fun t ht hW => ⟨congrArg (fun z => Outcome.returned (some (Value.long z))) (rfl), by rw [ht]; exact hP9, hS.F ht⟩) hS.2.2 dX8_castPair_35

set_option maxHeartbeats 4000000 in
set_option maxRecDepth 100000 in
theorem c_X8_place_no (l : Launch) (D : va_G) (cA : Nat → ClassId) (h0 : Nat) (m0 : Int32) (m1 : Int32) (m2 : Int32) (m3 : Int32) (m4 : Int32) (m5 : Nat) (m6 : Int32) (m7 : Int32) (m8 : Int32) (m9 : Nat) (m10 : Nat) (m11 : Nat) (m12 : Int32) (m13 : Nat) (m14 : Nat) (m15 : Nat) (m16 : Nat) (m17 : Int32) (m18 : Nat) (m19 : Nat) (m20 : Nat) (m21 : Nat) (m22 : Nat) (m23 : Nat) (m24 : Nat) (m25 : Nat) (m26 : Int32) (m27 : Int32) (m28 : Int32) (m29 : Int32) (m30 : Int32) (m31 : Int32) (m32 : Nat) (m33 : Nat) (m34 : Nat) (m35 : Nat) (m36 : Int32) (m37 : Nat) (m38 : Int32) (m39 : Nat) (m40 : Nat) (m41 : Nat) (m42 : Nat) (m43 : Nat) (v : Int32) (w : Int32) (r : Int32) (b0 : Nat) (q0 : Nat) (hno : ¬ (m6 = 2 ∧ (0 ≤ v ∧ v < m12) ∧ (0 ≤ w ∧ w < m12) ∧ (0 ≤ r ∧ r < m1))) (hnb : m12 = nI b0) (hb4 : b0 ≤ 40) (hgq : m1 = nI q0) (hq1 : 1 ≤ q0 ∧ q0 < 1000000) : Met l yX8_place wsX8_place ({ frames := 2, cells := 0, slots := 0, locals := 43 }) (rPc vwCl D cA [(h0, .inr (7, [.int m0, .int m1, .int m2, .int m3, .int m4, .ref m5, .int m6, .int m7, .int m8, .ref m9, .ref m10, .ref m11, .int m12, .ref m13, .ref m14, .ref m15, .ref m16, .int m17, .ref m18, .ref m19, .ref m20, .ref m21, .ref m22, .ref m23, .ref m24, .ref m25, .int m26, .int m27, .int m28, .int m29, .int m30, .int m31, .ref m32, .ref m33, .ref m34, .ref m35, .int m36, .ref m37, .int m38, .ref m39, .ref m40, .ref m41, .ref m42, .ref m43]))] [.ref h0, .int v, .int w, .int r]) (rq_x (some (.int 0))) 0 0 (fun _ => False) := by
  refine Met.ofW (cc := cX8_place) (maxL := 4) (ret := (some .boolean)) (by decide) rfl ?_
  intro p e s m args below meth c s₁ B hml hv
  obtain ⟨rfl, hP, hK⟩ := hv
  have hx := B.exec
  have hb := B.bytes
  have hr := B.returns
  have hts := atoms_spec (ws := wsX8_place) B.pre
  have hown : s.vm.findClass RX8 = some m.cls := findClass_of_methodNamed B.named
  have hlocks := B.notSynchronized
  have hin_X8 : ∀ w ∈ wsX80, w ∈ wsX8_place := fun w h => List.mem_cons_of_mem _ (List.mem_append_right _ h)
  have w_RX8_140 := hts (.fieldLink RX8 140 "MixElectionModel" "stage" "I") (by decide +kernel)
  have w_RX8_170 := hts (.fieldLink RX8 170 "MixElectionModel" "many" "I") (by decide +kernel)
  have hl := lv_entry ([.ref h0, .int v, .int w, .int r]) (n := 4) (Nat.le_of_ble_eq_true rfl)
  rw [lg_entry_eq]
  generalize (lg_sl ([.ref h0, .int v, .int w, .int r]) ++ List.replicate (4 - (lg_sl ([.ref h0, .int v, .int w, .int r])).length) Slot.unset).toArray = ls at hl ⊢
  have hl : lv_has ls 4 [(0, .ref h0), (1, .int v), (2, .int w), (3, .int r)] := hl
  refine lv_aload_n hx hb dX8_place_0 rfl (lv_at hl 0 rfl) ?_
  refine va_get (D := D) (ci := 7) (v := .int m6) (C := RX8) (T := TX8) (N := 44) hx hb hts hin_X8 hown hK hP 0 rfl rfl 6 (by decide) (w_RX8_140) (fun _ h9 => h9) rfl dX8_place_1 ?_
  refine lv_iconst (v := 2) hx hb dX8_place_4 (by decide) ?_
  refine lv_icmp_ne (tgt := 44) hx hb dX8_place_5 (by decide) (fun c_5 => ?_) (fun c_5 => ?_)
  · skip
    refine lv_iconst (v := 0) hx hb dX8_place_44 (by decide) ?_
    exact W.zret (v := 0) hx hb hr rfl (fun t ht hW => ⟨congrArg (fun z => Outcome.returned (some (Value.int z))) (rfl), ht⟩) (fun _ h => by cases h) dX8_place_45
  · skip
    refine lv_iload_n hx hb dX8_place_8 rfl (lv_at hl 1 rfl) ?_
    refine lv_iconst (v := 0) hx hb dX8_place_9 (by decide) ?_
    refine lv_aload_n hx hb dX8_place_10 rfl (lv_at hl 0 rfl) ?_
    refine va_get (D := D) (ci := 7) (v := .int m12) (C := RX8) (T := TX8) (N := 44) hx hb hts hin_X8 hown hK hP 0 rfl rfl 12 (by decide) (w_RX8_170) (fun _ h9 => h9) rfl dX8_place_11 ?_
    refine lv_iconst (v := 1) hx hb dX8_place_14 (by decide) ?_
    refine lv_isub hx hb dX8_place_15 ?_
    refine rq_call1 (v := .int (bI (0 ≤ v ∧ v ≤ (m12 - 1)))) (rn_S (As := [.int v, .int 0, .int (m12 - 1)]) (rest := []) ⟨hx, hb, hml, hown, hts⟩ (c_X8_in l D cA v 0 (m12 - 1)) (va_cwS 3 hts gX8_place_X8_in rfl rfl rfl (by decide +kernel) ⟨Nat.le_of_ble_eq_true rfl, Nat.le_of_ble_eq_true rfl⟩) hK hP [] rfl rfl hl.1 rfl (Nat.le_of_ble_eq_true rfl) dX8_place_16 ⟨Nat.le_of_ble_eq_true rfl, Nat.le_of_ble_eq_true rfl⟩) ?_
    refine lv_if_eq (tgt := 44) hx hb dX8_place_19 (by decide) (fun c_19 => ?_) (fun c_19 => ?_)
    · skip
      refine lv_iconst (v := 0) hx hb dX8_place_44 (by decide) ?_
      exact W.zret (v := 0) hx hb hr rfl (fun t ht hW => ⟨congrArg (fun z => Outcome.returned (some (Value.int z))) (rfl), ht⟩) (fun _ h => by cases h) dX8_place_45
    · skip
      refine lv_iload_n hx hb dX8_place_22 rfl (lv_at hl 2 rfl) ?_
      refine lv_iconst (v := 0) hx hb dX8_place_23 (by decide) ?_
      refine lv_aload_n hx hb dX8_place_24 rfl (lv_at hl 0 rfl) ?_
      refine va_get (D := D) (ci := 7) (v := .int m12) (C := RX8) (T := TX8) (N := 44) hx hb hts hin_X8 hown hK hP 0 rfl rfl 12 (by decide) (w_RX8_170) (fun _ h9 => h9) rfl dX8_place_25 ?_
      refine lv_iconst (v := 1) hx hb dX8_place_28 (by decide) ?_
      refine lv_isub hx hb dX8_place_29 ?_
      refine rq_call1 (v := .int (bI (0 ≤ w ∧ w ≤ (m12 - 1)))) (rn_S (As := [.int w, .int 0, .int (m12 - 1)]) (rest := []) ⟨hx, hb, hml, hown, hts⟩ (c_X8_in l D cA w 0 (m12 - 1)) (va_cwS 3 hts gX8_place_X8_in rfl rfl rfl (by decide +kernel) ⟨Nat.le_of_ble_eq_true rfl, Nat.le_of_ble_eq_true rfl⟩) hK hP [] rfl rfl hl.1 rfl (Nat.le_of_ble_eq_true rfl) dX8_place_30 ⟨Nat.le_of_ble_eq_true rfl, Nat.le_of_ble_eq_true rfl⟩) ?_
      refine lv_if_eq (tgt := 44) hx hb dX8_place_33 (by decide) (fun c_33 => ?_) (fun c_33 => ?_)
      · skip
        refine lv_iconst (v := 0) hx hb dX8_place_44 (by decide) ?_
        exact W.zret (v := 0) hx hb hr rfl (fun t ht hW => ⟨congrArg (fun z => Outcome.returned (some (Value.int z))) (rfl), ht⟩) (fun _ h => by cases h) dX8_place_45
      · skip
        refine lv_aload_n hx hb dX8_place_36 rfl (lv_at hl 0 rfl) ?_
        refine lv_iload_n hx hb dX8_place_37 rfl (lv_at hl 3 rfl) ?_
        refine rq_call1 (v := .int (bI (0 ≤ r ∧ r < m1))) (rn_V (As := [.int r]) (rest := []) (ci := 7) (fs := [.int m0, .int m1, .int m2, .int m3, .int m4, .ref m5, .int m6, .int m7, .int m8, .ref m9, .ref m10, .ref m11, .int m12, .ref m13, .ref m14, .ref m15, .ref m16, .int m17, .ref m18, .ref m19, .ref m20, .ref m21, .ref m22, .ref m23, .ref m24, .ref m25, .int m26, .int m27, .int m28, .int m29, .int m30, .int m31, .ref m32, .ref m33, .ref m34, .ref m35, .int m36, .ref m37, .int m38, .ref m39, .ref m40, .ref m41, .ref m42, .ref m43]) ⟨hx, hb, hml, hown, hts⟩ (c_X8_isExponent l D cA h0 m0 m1 m2 m3 m4 m5 m6 m7 m8 m9 m10 m11 m12 m13 m14 m15 m16 m17 m18 m19 m20 m21 m22 m23 m24 m25 m26 m27 m28 m29 m30 m31 m32 m33 m34 m35 m36 m37 m38 m39 m40 m41 m42 m43 r q0 hgq hq1) rfl (cwV 1 hts gX8_place_X8_isExponent rfl rfl rfl (by decide +kernel) ⟨Nat.le_of_ble_eq_true rfl, Nat.le_of_ble_eq_true rfl⟩) hK hP [0] rfl rfl rfl hl.1 rfl (Nat.le_of_ble_eq_true rfl) dX8_place_38 ⟨Nat.le_of_ble_eq_true rfl, Nat.le_of_ble_eq_true rfl⟩) ?_
        refine lv_if_ne (tgt := 46) hx hb dX8_place_41 (by decide) (fun c_41 => ?_) (fun c_41 => ?_)
        · skip
          exact absurd ⟨c_5, (in_1 hnb (by omega)).mp (bI_1 c_19), (in_1 hnb (by omega)).mp (bI_1 c_33), bI_1 c_41⟩ hno
        · skip
          refine lv_iconst (v := 0) hx hb dX8_place_44 (by decide) ?_
          exact W.zret (v := 0) hx hb hr rfl (fun t ht hW => ⟨congrArg (fun z => Outcome.returned (some (Value.int z))) (rfl), ht⟩) (fun _ h => by cases h) dX8_place_45

set_option maxHeartbeats 4000000 in
set_option maxRecDepth 100000 in
theorem c_X8_place_ok (l : Launch) (D : va_G) (cA : Nat → ClassId) (h0 : Nat) (m0 : Int32) (m1 : Int32) (m2 : Int32) (m3 : Int32) (m4 : Int32) (m5 : Nat) (m6 : Int32) (m7 : Int32) (m8 : Int32) (m9 : Nat) (m10 : Nat) (m11 : Nat) (m12 : Int32) (m13 : Nat) (m14 : Nat) (m15 : Nat) (m16 : Nat) (m17 : Int32) (m18 : Nat) (m19 : Nat) (m20 : Nat) (m21 : Nat) (m22 : Nat) (m23 : Nat) (m24 : Nat) (m25 : Nat) (m26 : Int32) (m27 : Int32) (m28 : Int32) (m29 : Int32) (m30 : Int32) (m31 : Int32) (m32 : Nat) (m33 : Nat) (m34 : Nat) (m35 : Nat) (m36 : Int32) (m37 : Nat) (m38 : Int32) (m39 : Nat) (m40 : Nat) (m41 : Nat) (m42 : Nat) (m43 : Nat) (v : Int32) (w : Int32) (r : Int32) (b0 : Nat) (q0 : Nat) (tof : Nat → Int32) (byf : Nat → Int32) (hok : m6 = 2 ∧ (0 ≤ v ∧ v < m12) ∧ (0 ≤ w ∧ w < m12) ∧ (0 ≤ r ∧ r < m1)) (hnb : m12 = nI b0) (hb4 : b0 ≤ 40) (hgq : m1 = nI q0) (hq1 : 1 ≤ q0 ∧ q0 < 1000000) : Met l yX8_place wsX8_place ({ frames := 2, cells := 0, slots := 0, locals := 43 }) (wPc vwCl D cA [(h0, .inr (7, [.int m0, .int m1, .int m2, .int m3, .int m4, .ref m5, .int m6, .int m7, .int m8, .ref m9, .ref m10, .ref m11, .int m12, .ref m13, .ref m14, .ref m15, .ref m16, .int m17, .ref m18, .ref m19, .ref m20, .ref m21, .ref m22, .ref m23, .ref m24, .ref m25, .int m26, .int m27, .int m28, .int m29, .int m30, .int m31, .ref m32, .ref m33, .ref m34, .ref m35, .int m36, .ref m37, .int m38, .ref m39, .ref m40, .ref m41, .ref m42, .ref m43])), (m18, .inl (cA 0, 40, .inl tof)), (m19, .inl (cA 0, 40, .inl byf))] [.ref h0, .int v, .int w, .int r]) (wq_x vwCl D [(h0, .inr (7, [.int m0, .int m1, .int m2, .int m3, .int m4, .ref m5, .int m6, .int m7, .int m8, .ref m9, .ref m10, .ref m11, .int m12, .ref m13, .ref m14, .ref m15, .ref m16, .int m17, .ref m18, .ref m19, .ref m20, .ref m21, .ref m22, .ref m23, .ref m24, .ref m25, .int m26, .int m27, .int m28, .int m29, .int m30, .int m31, .ref m32, .ref m33, .ref m34, .ref m35, .int m36, .ref m37, .int m38, .ref m39, .ref m40, .ref m41, .ref m42, .ref m43])), (m18, .inl (cA 0, 40, .inl (upd tof v.toNatClampNeg w))), (m19, .inl (cA 0, 40, .inl (upd byf v.toNatClampNeg r)))] (some (.int 1)) (wA [(h0, .inr (7, [.int m0, .int m1, .int m2, .int m3, .int m4, .ref m5, .int m6, .int m7, .int m8, .ref m9, .ref m10, .ref m11, .int m12, .ref m13, .ref m14, .ref m15, .ref m16, .int m17, .ref m18, .ref m19, .ref m20, .ref m21, .ref m22, .ref m23, .ref m24, .ref m25, .int m26, .int m27, .int m28, .int m29, .int m30, .int m31, .ref m32, .ref m33, .ref m34, .ref m35, .int m36, .ref m37, .int m38, .ref m39, .ref m40, .ref m41, .ref m42, .ref m43])), (m18, .inl (cA 0, 40, .inl tof)), (m19, .inl (cA 0, 40, .inl byf))])) 0 0 (wA [(h0, .inr (7, [.int m0, .int m1, .int m2, .int m3, .int m4, .ref m5, .int m6, .int m7, .int m8, .ref m9, .ref m10, .ref m11, .int m12, .ref m13, .ref m14, .ref m15, .ref m16, .int m17, .ref m18, .ref m19, .ref m20, .ref m21, .ref m22, .ref m23, .ref m24, .ref m25, .int m26, .int m27, .int m28, .int m29, .int m30, .int m31, .ref m32, .ref m33, .ref m34, .ref m35, .int m36, .ref m37, .int m38, .ref m39, .ref m40, .ref m41, .ref m42, .ref m43])), (m18, .inl (cA 0, 40, .inl tof)), (m19, .inl (cA 0, 40, .inl byf))]) := by
  refine Met.ofW (cc := cX8_place) (maxL := 4) (ret := (some .boolean)) (by decide) rfl ?_
  intro p e s m args below meth c s₁ B hml hv
  obtain ⟨rfl, hP, hK, hD0⟩ := hv
  have hx := B.exec
  have hb := B.bytes
  have hr := B.returns
  have hts := atoms_spec (ws := wsX8_place) B.pre
  have hown : s.vm.findClass RX8 = some m.cls := findClass_of_methodNamed B.named
  have hlocks := B.notSynchronized
  have hin_X8 : ∀ w ∈ wsX80, w ∈ wsX8_place := fun w h => List.mem_cons_of_mem _ (List.mem_append_right _ h)
  have w_RX8_140 := hts (.fieldLink RX8 140 "MixElectionModel" "stage" "I") (by decide +kernel)
  have w_RX8_170 := hts (.fieldLink RX8 170 "MixElectionModel" "many" "I") (by decide +kernel)
  have w_RX8_35 := hts (.fieldLink RX8 35 "MixElectionModel" "to" "[I") (by decide +kernel)
  have w_RX8_38 := hts (.fieldLink RX8 38 "MixElectionModel" "by" "[I") (by decide +kernel)
  have hD : va_D (wA [(h0, .inr (7, [.int m0, .int m1, .int m2, .int m3, .int m4, .ref m5, .int m6, .int m7, .int m8, .ref m9, .ref m10, .ref m11, .int m12, .ref m13, .ref m14, .ref m15, .ref m16, .int m17, .ref m18, .ref m19, .ref m20, .ref m21, .ref m22, .ref m23, .ref m24, .ref m25, .int m26, .int m27, .int m28, .int m29, .int m30, .int m31, .ref m32, .ref m33, .ref m34, .ref m35, .int m36, .ref m37, .int m38, .ref m39, .ref m40, .ref m41, .ref m42, .ref m43])), (m18, .inl (cA 0, 40, .inl tof)), (m19, .inl (cA 0, 40, .inl byf))]) [(h0, .inr (7, [.int m0, .int m1, .int m2, .int m3, .int m4, .ref m5, .int m6, .int m7, .int m8, .ref m9, .ref m10, .ref m11, .int m12, .ref m13, .ref m14, .ref m15, .ref m16, .int m17, .ref m18, .ref m19, .ref m20, .ref m21, .ref m22, .ref m23, .ref m24, .ref m25, .int m26, .int m27, .int m28, .int m29, .int m30, .int m31, .ref m32, .ref m33, .ref m34, .ref m35, .int m36, .ref m37, .int m38, .ref m39, .ref m40, .ref m41, .ref m42, .ref m43])), (m18, .inl (cA 0, 40, .inl tof)), (m19, .inl (cA 0, 40, .inl byf))] := ⟨hD0.1, fun k q h => List.mem_map.mpr ⟨q, List.mem_of_getElem? h, rfl⟩⟩
  have hS : va_S (wA [(h0, .inr (7, [.int m0, .int m1, .int m2, .int m3, .int m4, .ref m5, .int m6, .int m7, .int m8, .ref m9, .ref m10, .ref m11, .int m12, .ref m13, .ref m14, .ref m15, .ref m16, .int m17, .ref m18, .ref m19, .ref m20, .ref m21, .ref m22, .ref m23, .ref m24, .ref m25, .int m26, .int m27, .int m28, .int m29, .int m30, .int m31, .ref m32, .ref m33, .ref m34, .ref m35, .int m36, .ref m37, .int m38, .ref m39, .ref m40, .ref m41, .ref m42, .ref m43])), (m18, .inl (cA 0, 40, .inl tof)), (m19, .inl (cA 0, 40, .inl byf))]) s.heap s.heap [] := va_S.rf
  generalize hAe : wA [(h0, .inr (7, [.int m0, .int m1, .int m2, .int m3, .int m4, .ref m5, .int m6, .int m7, .int m8, .ref m9, .ref m10, .ref m11, .int m12, .ref m13, .ref m14, .ref m15, .ref m16, .int m17, .ref m18, .ref m19, .ref m20, .ref m21, .ref m22, .ref m23, .ref m24, .ref m25, .int m26, .int m27, .int m28, .int m29, .int m30, .int m31, .ref m32, .ref m33, .ref m34, .ref m35, .int m36, .ref m37, .int m38, .ref m39, .ref m40, .ref m41, .ref m42, .ref m43])), (m18, .inl (cA 0, 40, .inl tof)), (m19, .inl (cA 0, 40, .inl byf))] = A at hD hS ⊢
  have hP : va_P D vwCl [(h0, .inr (7, [.int m0, .int m1, .int m2, .int m3, .int m4, .ref m5, .int m6, .int m7, .int m8, .ref m9, .ref m10, .ref m11, .int m12, .ref m13, .ref m14, .ref m15, .ref m16, .int m17, .ref m18, .ref m19, .ref m20, .ref m21, .ref m22, .ref m23, .ref m24, .ref m25, .int m26, .int m27, .int m28, .int m29, .int m30, .int m31, .ref m32, .ref m33, .ref m34, .ref m35, .int m36, .ref m37, .int m38, .ref m39, .ref m40, .ref m41, .ref m42, .ref m43])), (m18, .inl (cA 0, 40, .inl tof)), (m19, .inl (cA 0, 40, .inl byf))] s.heap := hP
  have hl := lv_entry ([.ref h0, .int v, .int w, .int r]) (n := 4) (Nat.le_of_ble_eq_true rfl)
  rw [lg_entry_eq]
  generalize (lg_sl ([.ref h0, .int v, .int w, .int r]) ++ List.replicate (4 - (lg_sl ([.ref h0, .int v, .int w, .int r])).length) Slot.unset).toArray = ls at hl ⊢
  have hl : lv_has ls 4 [(0, .ref h0), (1, .int v), (2, .int w), (3, .int r)] := hl
  refine lv_aload_n hx hb dX8_place_0 rfl (lv_at hl 0 rfl) ?_
  refine va_get (D := D) (ci := 7) (v := .int m6) (C := RX8) (T := TX8) (N := 44) hx hb hts hin_X8 hown hK hP 0 rfl rfl 6 (by decide) (w_RX8_140) (fun _ h9 => h9) rfl dX8_place_1 ?_
  refine lv_iconst (v := 2) hx hb dX8_place_4 (by decide) ?_
  refine lv_icmp_ne (tgt := 44) hx hb dX8_place_5 (by decide) (fun c_5 => ?_) (fun c_5 => ?_)
  · skip
    exact absurd hok.1 c_5
  · skip
    refine lv_iload_n hx hb dX8_place_8 rfl (lv_at hl 1 rfl) ?_
    refine lv_iconst (v := 0) hx hb dX8_place_9 (by decide) ?_
    refine lv_aload_n hx hb dX8_place_10 rfl (lv_at hl 0 rfl) ?_
    refine va_get (D := D) (ci := 7) (v := .int m12) (C := RX8) (T := TX8) (N := 44) hx hb hts hin_X8 hown hK hP 0 rfl rfl 12 (by decide) (w_RX8_170) (fun _ h9 => h9) rfl dX8_place_11 ?_
    refine lv_iconst (v := 1) hx hb dX8_place_14 (by decide) ?_
    refine lv_isub hx hb dX8_place_15 ?_
    refine rq_call1 (v := .int (bI (0 ≤ v ∧ v ≤ (m12 - 1)))) (rn_S (As := [.int v, .int 0, .int (m12 - 1)]) (rest := []) ⟨hx, hb, hml, hown, hts⟩ (c_X8_in l D cA v 0 (m12 - 1)) (va_cwS 3 hts gX8_place_X8_in rfl rfl rfl (by decide +kernel) ⟨Nat.le_of_ble_eq_true rfl, Nat.le_of_ble_eq_true rfl⟩) hK hP [] rfl rfl hl.1 rfl (Nat.le_of_ble_eq_true rfl) dX8_place_16 ⟨Nat.le_of_ble_eq_true rfl, Nat.le_of_ble_eq_true rfl⟩) ?_
    refine lv_if_eq (tgt := 44) hx hb dX8_place_19 (by decide) (fun c_19 => ?_) (fun c_19 => ?_)
    · skip
      exact absurd ((in_1 hnb (by omega)).mpr hok.2.1) (bI_0 c_19)
    · skip
      refine lv_iload_n hx hb dX8_place_22 rfl (lv_at hl 2 rfl) ?_
      refine lv_iconst (v := 0) hx hb dX8_place_23 (by decide) ?_
      refine lv_aload_n hx hb dX8_place_24 rfl (lv_at hl 0 rfl) ?_
      refine va_get (D := D) (ci := 7) (v := .int m12) (C := RX8) (T := TX8) (N := 44) hx hb hts hin_X8 hown hK hP 0 rfl rfl 12 (by decide) (w_RX8_170) (fun _ h9 => h9) rfl dX8_place_25 ?_
      refine lv_iconst (v := 1) hx hb dX8_place_28 (by decide) ?_
      refine lv_isub hx hb dX8_place_29 ?_
      refine rq_call1 (v := .int (bI (0 ≤ w ∧ w ≤ (m12 - 1)))) (rn_S (As := [.int w, .int 0, .int (m12 - 1)]) (rest := []) ⟨hx, hb, hml, hown, hts⟩ (c_X8_in l D cA w 0 (m12 - 1)) (va_cwS 3 hts gX8_place_X8_in rfl rfl rfl (by decide +kernel) ⟨Nat.le_of_ble_eq_true rfl, Nat.le_of_ble_eq_true rfl⟩) hK hP [] rfl rfl hl.1 rfl (Nat.le_of_ble_eq_true rfl) dX8_place_30 ⟨Nat.le_of_ble_eq_true rfl, Nat.le_of_ble_eq_true rfl⟩) ?_
      refine lv_if_eq (tgt := 44) hx hb dX8_place_33 (by decide) (fun c_33 => ?_) (fun c_33 => ?_)
      · skip
        exact absurd ((in_1 hnb (by omega)).mpr hok.2.2.1) (bI_0 c_33)
      · skip
        refine lv_aload_n hx hb dX8_place_36 rfl (lv_at hl 0 rfl) ?_
        refine lv_iload_n hx hb dX8_place_37 rfl (lv_at hl 3 rfl) ?_
        refine rq_call1 (v := .int (bI (0 ≤ r ∧ r < m1))) (rn_V (As := [.int r]) (rest := []) (ci := 7) (fs := [.int m0, .int m1, .int m2, .int m3, .int m4, .ref m5, .int m6, .int m7, .int m8, .ref m9, .ref m10, .ref m11, .int m12, .ref m13, .ref m14, .ref m15, .ref m16, .int m17, .ref m18, .ref m19, .ref m20, .ref m21, .ref m22, .ref m23, .ref m24, .ref m25, .int m26, .int m27, .int m28, .int m29, .int m30, .int m31, .ref m32, .ref m33, .ref m34, .ref m35, .int m36, .ref m37, .int m38, .ref m39, .ref m40, .ref m41, .ref m42, .ref m43]) ⟨hx, hb, hml, hown, hts⟩ (c_X8_isExponent l D cA h0 m0 m1 m2 m3 m4 m5 m6 m7 m8 m9 m10 m11 m12 m13 m14 m15 m16 m17 m18 m19 m20 m21 m22 m23 m24 m25 m26 m27 m28 m29 m30 m31 m32 m33 m34 m35 m36 m37 m38 m39 m40 m41 m42 m43 r q0 hgq hq1) rfl (cwV 1 hts gX8_place_X8_isExponent rfl rfl rfl (by decide +kernel) ⟨Nat.le_of_ble_eq_true rfl, Nat.le_of_ble_eq_true rfl⟩) hK hP [0] rfl rfl rfl hl.1 rfl (Nat.le_of_ble_eq_true rfl) dX8_place_38 ⟨Nat.le_of_ble_eq_true rfl, Nat.le_of_ble_eq_true rfl⟩) ?_
        refine lv_if_ne (tgt := 46) hx hb dX8_place_41 (by decide) (fun c_41 => ?_) (fun c_41 => ?_)
        · skip
          refine lv_aload_n hx hb dX8_place_46 rfl (lv_at hl 0 rfl) ?_
          refine va_get (D := D) (ci := 7) (v := .ref m18) (C := RX8) (T := TX8) (N := 44) hx hb hts hin_X8 hown hK hP 0 rfl rfl 18 (by decide) (w_RX8_35) (fun _ h9 => h9) rfl dX8_place_47 ?_
          refine lv_iload_n hx hb dX8_place_50 rfl (lv_at hl 1 rfl) ?_
          refine lv_iload_n hx hb dX8_place_51 rfl (lv_at hl 2 rfl) ?_
          refine va_iast hx hb hK hP hD hS 1 0 rfl rfl (ix_in hok.2.1 hnb hb4) dX8_place_52 (fun H locs hP hD hS => ?_)
          have hP : va_P D vwCl [(h0, .inr (7, [.int m0, .int m1, .int m2, .int m3, .int m4, .ref m5, .int m6, .int m7, .int m8, .ref m9, .ref m10, .ref m11, .int m12, .ref m13, .ref m14, .ref m15, .ref m16, .int m17, .ref m18, .ref m19, .ref m20, .ref m21, .ref m22, .ref m23, .ref m24, .ref m25, .int m26, .int m27, .int m28, .int m29, .int m30, .int m31, .ref m32, .ref m33, .ref m34, .ref m35, .int m36, .ref m37, .int m38, .ref m39, .ref m40, .ref m41, .ref m42, .ref m43])), (m18, .inl (cA 0, 40, .inl (upd tof v.toNatClampNeg w))), (m19, .inl (cA 0, 40, .inl byf))] H := hP
          have hD : va_D A [(h0, .inr (7, [.int m0, .int m1, .int m2, .int m3, .int m4, .ref m5, .int m6, .int m7, .int m8, .ref m9, .ref m10, .ref m11, .int m12, .ref m13, .ref m14, .ref m15, .ref m16, .int m17, .ref m18, .ref m19, .ref m20, .ref m21, .ref m22, .ref m23, .ref m24, .ref m25, .int m26, .int m27, .int m28, .int m29, .int m30, .int m31, .ref m32, .ref m33, .ref m34, .ref m35, .int m36, .ref m37, .int m38, .ref m39, .ref m40, .ref m41, .ref m42, .ref m43])), (m18, .inl (cA 0, 40, .inl (upd tof v.toNatClampNeg w))), (m19, .inl (cA 0, 40, .inl byf))] := hD
          refine lv_aload_n hx hb dX8_place_53 rfl (lv_at hl 0 rfl) ?_
          refine va_get (D := D) (ci := 7) (v := .ref m19) (C := RX8) (T := TX8) (N := 44) hx hb hts hin_X8 hown hK hP 0 rfl rfl 19 (by decide) (w_RX8_38) (fun _ h9 => h9) rfl dX8_place_54 ?_
          refine lv_iload_n hx hb dX8_place_57 rfl (lv_at hl 1 rfl) ?_
          refine lv_iload_n hx hb dX8_place_58 rfl (lv_at hl 3 rfl) ?_
          refine va_iast hx hb hK hP hD hS 2 0 rfl rfl (ix_in hok.2.1 hnb hb4) dX8_place_59 (fun H locs hP hD hS => ?_)
          have hP : va_P D vwCl [(h0, .inr (7, [.int m0, .int m1, .int m2, .int m3, .int m4, .ref m5, .int m6, .int m7, .int m8, .ref m9, .ref m10, .ref m11, .int m12, .ref m13, .ref m14, .ref m15, .ref m16, .int m17, .ref m18, .ref m19, .ref m20, .ref m21, .ref m22, .ref m23, .ref m24, .ref m25, .int m26, .int m27, .int m28, .int m29, .int m30, .int m31, .ref m32, .ref m33, .ref m34, .ref m35, .int m36, .ref m37, .int m38, .ref m39, .ref m40, .ref m41, .ref m42, .ref m43])), (m18, .inl (cA 0, 40, .inl (upd tof v.toNatClampNeg w))), (m19, .inl (cA 0, 40, .inl (upd byf v.toNatClampNeg r)))] H := hP
          have hD : va_D A [(h0, .inr (7, [.int m0, .int m1, .int m2, .int m3, .int m4, .ref m5, .int m6, .int m7, .int m8, .ref m9, .ref m10, .ref m11, .int m12, .ref m13, .ref m14, .ref m15, .ref m16, .int m17, .ref m18, .ref m19, .ref m20, .ref m21, .ref m22, .ref m23, .ref m24, .ref m25, .int m26, .int m27, .int m28, .int m29, .int m30, .int m31, .ref m32, .ref m33, .ref m34, .ref m35, .int m36, .ref m37, .int m38, .ref m39, .ref m40, .ref m41, .ref m42, .ref m43])), (m18, .inl (cA 0, 40, .inl (upd tof v.toNatClampNeg w))), (m19, .inl (cA 0, 40, .inl (upd byf v.toNatClampNeg r)))] := hD
          refine lv_iconst (v := 1) hx hb dX8_place_60 (by decide) ?_
          have hP9 : va_P D vwCl [(h0, .inr (7, [.int m0, .int m1, .int m2, .int m3, .int m4, .ref m5, .int m6, .int m7, .int m8, .ref m9, .ref m10, .ref m11, .int m12, .ref m13, .ref m14, .ref m15, .ref m16, .int m17, .ref m18, .ref m19, .ref m20, .ref m21, .ref m22, .ref m23, .ref m24, .ref m25, .int m26, .int m27, .int m28, .int m29, .int m30, .int m31, .ref m32, .ref m33, .ref m34, .ref m35, .int m36, .ref m37, .int m38, .ref m39, .ref m40, .ref m41, .ref m42, .ref m43])), (m18, .inl (cA 0, 40, .inl (upd tof v.toNatClampNeg w))), (m19, .inl (cA 0, 40, .inl (upd byf v.toNatClampNeg r)))] H := hP
          exact W.zret (v := 1) hx hb hr rfl (fun t ht hW => ⟨congrArg (fun z => Outcome.returned (some (Value.int z))) (rfl), by rw [ht]; exact hP9, hS.F ht⟩) hS.2.2 dX8_place_61
        · skip
          exact absurd hok.2.2.2 (bI_0 c_41)

set_option maxHeartbeats 4000000 in
set_option maxRecDepth 100000 in
theorem c_X8_forge_no (l : Launch) (D : va_G) (cA : Nat → ClassId) (h0 : Nat) (m0 : Int32) (m1 : Int32) (m2 : Int32) (m3 : Int32) (m4 : Int32) (m5 : Nat) (m6 : Int32) (m7 : Int32) (m8 : Int32) (m9 : Nat) (m10 : Nat) (m11 : Nat) (m12 : Int32) (m13 : Nat) (m14 : Nat) (m15 : Nat) (m16 : Nat) (m17 : Int32) (m18 : Nat) (m19 : Nat) (m20 : Nat) (m21 : Nat) (m22 : Nat) (m23 : Nat) (m24 : Nat) (m25 : Nat) (m26 : Int32) (m27 : Int32) (m28 : Int32) (m29 : Int32) (m30 : Int32) (m31 : Int32) (m32 : Nat) (m33 : Nat) (m34 : Nat) (m35 : Nat) (m36 : Int32) (m37 : Nat) (m38 : Int32) (m39 : Nat) (m40 : Nat) (m41 : Nat) (m42 : Nat) (m43 : Nat) (v : Int32) (w : Int32) (r : Int32) (b0 : Nat) (q0 : Nat) (p0 : Nat) (hno : ¬ (m6 = 2 ∧ (0 ≤ v ∧ v < m12) ∧ (1 ≤ w ∧ w < m0 ∧ pw m0 32 q0 1 w = 1) ∧ (1 ≤ r ∧ r < m0 ∧ pw m0 32 q0 1 r = 1))) (hnb : m12 = nI b0) (hb4 : b0 ≤ 40) (hgq : m1 = nI q0) (hq1 : 1 ≤ q0 ∧ q0 < 1000000) (hgp : m0 = nI p0) (hp1 : 2 ≤ p0 ∧ p0 < 1000000) : Met l yX8_forge wsX8_forge ({ frames := 3, cells := 0, slots := 0, locals := 68 }) (rPc vwCl D cA [(h0, .inr (7, [.int m0, .int m1, .int m2, .int m3, .int m4, .ref m5, .int m6, .int m7, .int m8, .ref m9, .ref m10, .ref m11, .int m12, .ref m13, .ref m14, .ref m15, .ref m16, .int m17, .ref m18, .ref m19, .ref m20, .ref m21, .ref m22, .ref m23, .ref m24, .ref m25, .int m26, .int m27, .int m28, .int m29, .int m30, .int m31, .ref m32, .ref m33, .ref m34, .ref m35, .int m36, .ref m37, .int m38, .ref m39, .ref m40, .ref m41, .ref m42, .ref m43]))] [.ref h0, .int v, .int w, .int r]) (rq_x (some (.int 0))) 0 0 (fun _ => False) := by
  refine Met.ofW (cc := cX8_forge) (maxL := 4) (ret := (some .boolean)) (by decide) rfl ?_
  intro p e s m args below meth c s₁ B hml hv
  obtain ⟨rfl, hP, hK⟩ := hv
  have hx := B.exec
  have hb := B.bytes
  have hr := B.returns
  have hts := atoms_spec (ws := wsX8_forge) B.pre
  have hown : s.vm.findClass RX8 = some m.cls := findClass_of_methodNamed B.named
  have hlocks := B.notSynchronized
  have hin_X8 : ∀ w ∈ wsX80, w ∈ wsX8_forge := fun w h => List.mem_cons_of_mem _ (List.mem_append_right _ h)
  have w_RX8_140 := hts (.fieldLink RX8 140 "MixElectionModel" "stage" "I") (by decide +kernel)
  have w_RX8_170 := hts (.fieldLink RX8 170 "MixElectionModel" "many" "I") (by decide +kernel)
  have hl := lv_entry ([.ref h0, .int v, .int w, .int r]) (n := 4) (Nat.le_of_ble_eq_true rfl)
  rw [lg_entry_eq]
  generalize (lg_sl ([.ref h0, .int v, .int w, .int r]) ++ List.replicate (4 - (lg_sl ([.ref h0, .int v, .int w, .int r])).length) Slot.unset).toArray = ls at hl ⊢
  have hl : lv_has ls 4 [(0, .ref h0), (1, .int v), (2, .int w), (3, .int r)] := hl
  refine lv_aload_n hx hb dX8_forge_0 rfl (lv_at hl 0 rfl) ?_
  refine va_get (D := D) (ci := 7) (v := .int m6) (C := RX8) (T := TX8) (N := 44) hx hb hts hin_X8 hown hK hP 0 rfl rfl 6 (by decide) (w_RX8_140) (fun _ h9 => h9) rfl dX8_forge_1 ?_
  refine lv_iconst (v := 2) hx hb dX8_forge_4 (by decide) ?_
  refine lv_icmp_ne (tgt := 38) hx hb dX8_forge_5 (by decide) (fun c_5 => ?_) (fun c_5 => ?_)
  · skip
    refine lv_iconst (v := 0) hx hb dX8_forge_38 (by decide) ?_
    exact W.zret (v := 0) hx hb hr rfl (fun t ht hW => ⟨congrArg (fun z => Outcome.returned (some (Value.int z))) (rfl), ht⟩) (fun _ h => by cases h) dX8_forge_39
  · skip
    refine lv_iload_n hx hb dX8_forge_8 rfl (lv_at hl 1 rfl) ?_
    refine lv_iconst (v := 0) hx hb dX8_forge_9 (by decide) ?_
    refine lv_aload_n hx hb dX8_forge_10 rfl (lv_at hl 0 rfl) ?_
    refine va_get (D := D) (ci := 7) (v := .int m12) (C := RX8) (T := TX8) (N := 44) hx hb hts hin_X8 hown hK hP 0 rfl rfl 12 (by decide) (w_RX8_170) (fun _ h9 => h9) rfl dX8_forge_11 ?_
    refine lv_iconst (v := 1) hx hb dX8_forge_14 (by decide) ?_
    refine lv_isub hx hb dX8_forge_15 ?_
    refine rq_call1 (v := .int (bI (0 ≤ v ∧ v ≤ (m12 - 1)))) (rn_S (As := [.int v, .int 0, .int (m12 - 1)]) (rest := []) ⟨hx, hb, hml, hown, hts⟩ (c_X8_in l D cA v 0 (m12 - 1)) (va_cwS 3 hts gX8_forge_X8_in rfl rfl rfl (by decide +kernel) ⟨Nat.le_of_ble_eq_true rfl, Nat.le_of_ble_eq_true rfl⟩) hK hP [] rfl rfl hl.1 rfl (Nat.le_of_ble_eq_true rfl) dX8_forge_16 ⟨Nat.le_of_ble_eq_true rfl, Nat.le_of_ble_eq_true rfl⟩) ?_
    refine lv_if_eq (tgt := 38) hx hb dX8_forge_19 (by decide) (fun c_19 => ?_) (fun c_19 => ?_)
    · skip
      refine lv_iconst (v := 0) hx hb dX8_forge_38 (by decide) ?_
      exact W.zret (v := 0) hx hb hr rfl (fun t ht hW => ⟨congrArg (fun z => Outcome.returned (some (Value.int z))) (rfl), ht⟩) (fun _ h => by cases h) dX8_forge_39
    · skip
      refine lv_aload_n hx hb dX8_forge_22 rfl (lv_at hl 0 rfl) ?_
      refine lv_iload_n hx hb dX8_forge_23 rfl (lv_at hl 2 rfl) ?_
      refine rq_call1 (v := .int (bI (1 ≤ w ∧ w < m0 ∧ pw m0 32 q0 1 w = 1))) (rn_V (As := [.int w]) (rest := []) (ci := 7) (fs := [.int m0, .int m1, .int m2, .int m3, .int m4, .ref m5, .int m6, .int m7, .int m8, .ref m9, .ref m10, .ref m11, .int m12, .ref m13, .ref m14, .ref m15, .ref m16, .int m17, .ref m18, .ref m19, .ref m20, .ref m21, .ref m22, .ref m23, .ref m24, .ref m25, .int m26, .int m27, .int m28, .int m29, .int m30, .int m31, .ref m32, .ref m33, .ref m34, .ref m35, .int m36, .ref m37, .int m38, .ref m39, .ref m40, .ref m41, .ref m42, .ref m43]) ⟨hx, hb, hml, hown, hts⟩ (c_X8_isOfGroup l D cA h0 m0 m1 m2 m3 m4 m5 m6 m7 m8 m9 m10 m11 m12 m13 m14 m15 m16 m17 m18 m19 m20 m21 m22 m23 m24 m25 m26 m27 m28 m29 m30 m31 m32 m33 m34 m35 m36 m37 m38 m39 m40 m41 m42 m43 w q0 p0 hgq hq1 hgp hp1) rfl (cwV 1 hts gX8_forge_X8_isOfGroup rfl rfl rfl (by decide +kernel) ⟨Nat.le_of_ble_eq_true rfl, Nat.le_of_ble_eq_true rfl⟩) hK hP [0] rfl rfl rfl hl.1 rfl (Nat.le_of_ble_eq_true rfl) dX8_forge_24 ⟨Nat.le_of_ble_eq_true rfl, Nat.le_of_ble_eq_true rfl⟩) ?_
      refine lv_if_eq (tgt := 38) hx hb dX8_forge_27 (by decide) (fun c_27 => ?_) (fun c_27 => ?_)
      · skip
        refine lv_iconst (v := 0) hx hb dX8_forge_38 (by decide) ?_
        exact W.zret (v := 0) hx hb hr rfl (fun t ht hW => ⟨congrArg (fun z => Outcome.returned (some (Value.int z))) (rfl), ht⟩) (fun _ h => by cases h) dX8_forge_39
      · skip
        refine lv_aload_n hx hb dX8_forge_30 rfl (lv_at hl 0 rfl) ?_
        refine lv_iload_n hx hb dX8_forge_31 rfl (lv_at hl 3 rfl) ?_
        refine rq_call1 (v := .int (bI (1 ≤ r ∧ r < m0 ∧ pw m0 32 q0 1 r = 1))) (rn_V (As := [.int r]) (rest := []) (ci := 7) (fs := [.int m0, .int m1, .int m2, .int m3, .int m4, .ref m5, .int m6, .int m7, .int m8, .ref m9, .ref m10, .ref m11, .int m12, .ref m13, .ref m14, .ref m15, .ref m16, .int m17, .ref m18, .ref m19, .ref m20, .ref m21, .ref m22, .ref m23, .ref m24, .ref m25, .int m26, .int m27, .int m28, .int m29, .int m30, .int m31, .ref m32, .ref m33, .ref m34, .ref m35, .int m36, .ref m37, .int m38, .ref m39, .ref m40, .ref m41, .ref m42, .ref m43]) ⟨hx, hb, hml, hown, hts⟩ (c_X8_isOfGroup l D cA h0 m0 m1 m2 m3 m4 m5 m6 m7 m8 m9 m10 m11 m12 m13 m14 m15 m16 m17 m18 m19 m20 m21 m22 m23 m24 m25 m26 m27 m28 m29 m30 m31 m32 m33 m34 m35 m36 m37 m38 m39 m40 m41 m42 m43 r q0 p0 hgq hq1 hgp hp1) rfl (cwV 1 hts gX8_forge_X8_isOfGroup rfl rfl rfl (by decide +kernel) ⟨Nat.le_of_ble_eq_true rfl, Nat.le_of_ble_eq_true rfl⟩) hK hP [0] rfl rfl rfl hl.1 rfl (Nat.le_of_ble_eq_true rfl) dX8_forge_32 ⟨Nat.le_of_ble_eq_true rfl, Nat.le_of_ble_eq_true rfl⟩) ?_
        refine lv_if_ne (tgt := 40) hx hb dX8_forge_35 (by decide) (fun c_35 => ?_) (fun c_35 => ?_)
        · skip
          exact absurd ⟨c_5, (in_1 hnb (by omega)).mp (bI_1 c_19), bI_1 c_27, bI_1 c_35⟩ hno
        · skip
          refine lv_iconst (v := 0) hx hb dX8_forge_38 (by decide) ?_
          exact W.zret (v := 0) hx hb hr rfl (fun t ht hW => ⟨congrArg (fun z => Outcome.returned (some (Value.int z))) (rfl), ht⟩) (fun _ h => by cases h) dX8_forge_39

set_option maxHeartbeats 4000000 in
set_option maxRecDepth 100000 in
theorem c_X8_forge_ok (l : Launch) (D : va_G) (cA : Nat → ClassId) (h0 : Nat) (m0 : Int32) (m1 : Int32) (m2 : Int32) (m3 : Int32) (m4 : Int32) (m5 : Nat) (m6 : Int32) (m7 : Int32) (m8 : Int32) (m9 : Nat) (m10 : Nat) (m11 : Nat) (m12 : Int32) (m13 : Nat) (m14 : Nat) (m15 : Nat) (m16 : Nat) (m17 : Int32) (m18 : Nat) (m19 : Nat) (m20 : Nat) (m21 : Nat) (m22 : Nat) (m23 : Nat) (m24 : Nat) (m25 : Nat) (m26 : Int32) (m27 : Int32) (m28 : Int32) (m29 : Int32) (m30 : Int32) (m31 : Int32) (m32 : Nat) (m33 : Nat) (m34 : Nat) (m35 : Nat) (m36 : Int32) (m37 : Nat) (m38 : Int32) (m39 : Nat) (m40 : Nat) (m41 : Nat) (m42 : Nat) (m43 : Nat) (v : Int32) (w : Int32) (r : Int32) (b0 : Nat) (q0 : Nat) (p0 : Nat) (faf : Nat → Int32) (fbf : Nat → Int32) (hok : m6 = 2 ∧ (0 ≤ v ∧ v < m12) ∧ (1 ≤ w ∧ w < m0 ∧ pw m0 32 q0 1 w = 1) ∧ (1 ≤ r ∧ r < m0 ∧ pw m0 32 q0 1 r = 1)) (hnb : m12 = nI b0) (hb4 : b0 ≤ 40) (hgq : m1 = nI q0) (hq1 : 1 ≤ q0 ∧ q0 < 1000000) (hgp : m0 = nI p0) (hp1 : 2 ≤ p0 ∧ p0 < 1000000) : Met l yX8_forge wsX8_forge ({ frames := 3, cells := 0, slots := 0, locals := 68 }) (wPc vwCl D cA [(h0, .inr (7, [.int m0, .int m1, .int m2, .int m3, .int m4, .ref m5, .int m6, .int m7, .int m8, .ref m9, .ref m10, .ref m11, .int m12, .ref m13, .ref m14, .ref m15, .ref m16, .int m17, .ref m18, .ref m19, .ref m20, .ref m21, .ref m22, .ref m23, .ref m24, .ref m25, .int m26, .int m27, .int m28, .int m29, .int m30, .int m31, .ref m32, .ref m33, .ref m34, .ref m35, .int m36, .ref m37, .int m38, .ref m39, .ref m40, .ref m41, .ref m42, .ref m43])), (m20, .inl (cA 0, 40, .inl faf)), (m21, .inl (cA 0, 40, .inl fbf))] [.ref h0, .int v, .int w, .int r]) (wq_x vwCl D [(h0, .inr (7, [.int m0, .int m1, .int m2, .int m3, .int m4, .ref m5, .int m6, .int m7, .int m8, .ref m9, .ref m10, .ref m11, .int m12, .ref m13, .ref m14, .ref m15, .ref m16, .int m17, .ref m18, .ref m19, .ref m20, .ref m21, .ref m22, .ref m23, .ref m24, .ref m25, .int m26, .int m27, .int m28, .int m29, .int m30, .int m31, .ref m32, .ref m33, .ref m34, .ref m35, .int m36, .ref m37, .int m38, .ref m39, .ref m40, .ref m41, .ref m42, .ref m43])), (m20, .inl (cA 0, 40, .inl (upd faf v.toNatClampNeg w))), (m21, .inl (cA 0, 40, .inl (upd fbf v.toNatClampNeg r)))] (some (.int 1)) (wA [(h0, .inr (7, [.int m0, .int m1, .int m2, .int m3, .int m4, .ref m5, .int m6, .int m7, .int m8, .ref m9, .ref m10, .ref m11, .int m12, .ref m13, .ref m14, .ref m15, .ref m16, .int m17, .ref m18, .ref m19, .ref m20, .ref m21, .ref m22, .ref m23, .ref m24, .ref m25, .int m26, .int m27, .int m28, .int m29, .int m30, .int m31, .ref m32, .ref m33, .ref m34, .ref m35, .int m36, .ref m37, .int m38, .ref m39, .ref m40, .ref m41, .ref m42, .ref m43])), (m20, .inl (cA 0, 40, .inl faf)), (m21, .inl (cA 0, 40, .inl fbf))])) 0 0 (wA [(h0, .inr (7, [.int m0, .int m1, .int m2, .int m3, .int m4, .ref m5, .int m6, .int m7, .int m8, .ref m9, .ref m10, .ref m11, .int m12, .ref m13, .ref m14, .ref m15, .ref m16, .int m17, .ref m18, .ref m19, .ref m20, .ref m21, .ref m22, .ref m23, .ref m24, .ref m25, .int m26, .int m27, .int m28, .int m29, .int m30, .int m31, .ref m32, .ref m33, .ref m34, .ref m35, .int m36, .ref m37, .int m38, .ref m39, .ref m40, .ref m41, .ref m42, .ref m43])), (m20, .inl (cA 0, 40, .inl faf)), (m21, .inl (cA 0, 40, .inl fbf))]) := by
  refine Met.ofW (cc := cX8_forge) (maxL := 4) (ret := (some .boolean)) (by decide) rfl ?_
  intro p e s m args below meth c s₁ B hml hv
  obtain ⟨rfl, hP, hK, hD0⟩ := hv
  have hx := B.exec
  have hb := B.bytes
  have hr := B.returns
  have hts := atoms_spec (ws := wsX8_forge) B.pre
  have hown : s.vm.findClass RX8 = some m.cls := findClass_of_methodNamed B.named
  have hlocks := B.notSynchronized
  have hin_X8 : ∀ w ∈ wsX80, w ∈ wsX8_forge := fun w h => List.mem_cons_of_mem _ (List.mem_append_right _ h)
  have w_RX8_140 := hts (.fieldLink RX8 140 "MixElectionModel" "stage" "I") (by decide +kernel)
  have w_RX8_170 := hts (.fieldLink RX8 170 "MixElectionModel" "many" "I") (by decide +kernel)
  have w_RX8_41 := hts (.fieldLink RX8 41 "MixElectionModel" "forgedA" "[I") (by decide +kernel)
  have w_RX8_44 := hts (.fieldLink RX8 44 "MixElectionModel" "forgedB" "[I") (by decide +kernel)
  have hD : va_D (wA [(h0, .inr (7, [.int m0, .int m1, .int m2, .int m3, .int m4, .ref m5, .int m6, .int m7, .int m8, .ref m9, .ref m10, .ref m11, .int m12, .ref m13, .ref m14, .ref m15, .ref m16, .int m17, .ref m18, .ref m19, .ref m20, .ref m21, .ref m22, .ref m23, .ref m24, .ref m25, .int m26, .int m27, .int m28, .int m29, .int m30, .int m31, .ref m32, .ref m33, .ref m34, .ref m35, .int m36, .ref m37, .int m38, .ref m39, .ref m40, .ref m41, .ref m42, .ref m43])), (m20, .inl (cA 0, 40, .inl faf)), (m21, .inl (cA 0, 40, .inl fbf))]) [(h0, .inr (7, [.int m0, .int m1, .int m2, .int m3, .int m4, .ref m5, .int m6, .int m7, .int m8, .ref m9, .ref m10, .ref m11, .int m12, .ref m13, .ref m14, .ref m15, .ref m16, .int m17, .ref m18, .ref m19, .ref m20, .ref m21, .ref m22, .ref m23, .ref m24, .ref m25, .int m26, .int m27, .int m28, .int m29, .int m30, .int m31, .ref m32, .ref m33, .ref m34, .ref m35, .int m36, .ref m37, .int m38, .ref m39, .ref m40, .ref m41, .ref m42, .ref m43])), (m20, .inl (cA 0, 40, .inl faf)), (m21, .inl (cA 0, 40, .inl fbf))] := ⟨hD0.1, fun k q h => List.mem_map.mpr ⟨q, List.mem_of_getElem? h, rfl⟩⟩
  have hS : va_S (wA [(h0, .inr (7, [.int m0, .int m1, .int m2, .int m3, .int m4, .ref m5, .int m6, .int m7, .int m8, .ref m9, .ref m10, .ref m11, .int m12, .ref m13, .ref m14, .ref m15, .ref m16, .int m17, .ref m18, .ref m19, .ref m20, .ref m21, .ref m22, .ref m23, .ref m24, .ref m25, .int m26, .int m27, .int m28, .int m29, .int m30, .int m31, .ref m32, .ref m33, .ref m34, .ref m35, .int m36, .ref m37, .int m38, .ref m39, .ref m40, .ref m41, .ref m42, .ref m43])), (m20, .inl (cA 0, 40, .inl faf)), (m21, .inl (cA 0, 40, .inl fbf))]) s.heap s.heap [] := va_S.rf
  generalize hAe : wA [(h0, .inr (7, [.int m0, .int m1, .int m2, .int m3, .int m4, .ref m5, .int m6, .int m7, .int m8, .ref m9, .ref m10, .ref m11, .int m12, .ref m13, .ref m14, .ref m15, .ref m16, .int m17, .ref m18, .ref m19, .ref m20, .ref m21, .ref m22, .ref m23, .ref m24, .ref m25, .int m26, .int m27, .int m28, .int m29, .int m30, .int m31, .ref m32, .ref m33, .ref m34, .ref m35, .int m36, .ref m37, .int m38, .ref m39, .ref m40, .ref m41, .ref m42, .ref m43])), (m20, .inl (cA 0, 40, .inl faf)), (m21, .inl (cA 0, 40, .inl fbf))] = A at hD hS ⊢
  have hP : va_P D vwCl [(h0, .inr (7, [.int m0, .int m1, .int m2, .int m3, .int m4, .ref m5, .int m6, .int m7, .int m8, .ref m9, .ref m10, .ref m11, .int m12, .ref m13, .ref m14, .ref m15, .ref m16, .int m17, .ref m18, .ref m19, .ref m20, .ref m21, .ref m22, .ref m23, .ref m24, .ref m25, .int m26, .int m27, .int m28, .int m29, .int m30, .int m31, .ref m32, .ref m33, .ref m34, .ref m35, .int m36, .ref m37, .int m38, .ref m39, .ref m40, .ref m41, .ref m42, .ref m43])), (m20, .inl (cA 0, 40, .inl faf)), (m21, .inl (cA 0, 40, .inl fbf))] s.heap := hP
  have hl := lv_entry ([.ref h0, .int v, .int w, .int r]) (n := 4) (Nat.le_of_ble_eq_true rfl)
  rw [lg_entry_eq]
  generalize (lg_sl ([.ref h0, .int v, .int w, .int r]) ++ List.replicate (4 - (lg_sl ([.ref h0, .int v, .int w, .int r])).length) Slot.unset).toArray = ls at hl ⊢
  have hl : lv_has ls 4 [(0, .ref h0), (1, .int v), (2, .int w), (3, .int r)] := hl
  refine lv_aload_n hx hb dX8_forge_0 rfl (lv_at hl 0 rfl) ?_
  refine va_get (D := D) (ci := 7) (v := .int m6) (C := RX8) (T := TX8) (N := 44) hx hb hts hin_X8 hown hK hP 0 rfl rfl 6 (by decide) (w_RX8_140) (fun _ h9 => h9) rfl dX8_forge_1 ?_
  refine lv_iconst (v := 2) hx hb dX8_forge_4 (by decide) ?_
  refine lv_icmp_ne (tgt := 38) hx hb dX8_forge_5 (by decide) (fun c_5 => ?_) (fun c_5 => ?_)
  · skip
    exact absurd hok.1 c_5
  · skip
    refine lv_iload_n hx hb dX8_forge_8 rfl (lv_at hl 1 rfl) ?_
    refine lv_iconst (v := 0) hx hb dX8_forge_9 (by decide) ?_
    refine lv_aload_n hx hb dX8_forge_10 rfl (lv_at hl 0 rfl) ?_
    refine va_get (D := D) (ci := 7) (v := .int m12) (C := RX8) (T := TX8) (N := 44) hx hb hts hin_X8 hown hK hP 0 rfl rfl 12 (by decide) (w_RX8_170) (fun _ h9 => h9) rfl dX8_forge_11 ?_
    refine lv_iconst (v := 1) hx hb dX8_forge_14 (by decide) ?_
    refine lv_isub hx hb dX8_forge_15 ?_
    refine rq_call1 (v := .int (bI (0 ≤ v ∧ v ≤ (m12 - 1)))) (rn_S (As := [.int v, .int 0, .int (m12 - 1)]) (rest := []) ⟨hx, hb, hml, hown, hts⟩ (c_X8_in l D cA v 0 (m12 - 1)) (va_cwS 3 hts gX8_forge_X8_in rfl rfl rfl (by decide +kernel) ⟨Nat.le_of_ble_eq_true rfl, Nat.le_of_ble_eq_true rfl⟩) hK hP [] rfl rfl hl.1 rfl (Nat.le_of_ble_eq_true rfl) dX8_forge_16 ⟨Nat.le_of_ble_eq_true rfl, Nat.le_of_ble_eq_true rfl⟩) ?_
    refine lv_if_eq (tgt := 38) hx hb dX8_forge_19 (by decide) (fun c_19 => ?_) (fun c_19 => ?_)
    · skip
      exact absurd ((in_1 hnb (by omega)).mpr hok.2.1) (bI_0 c_19)
    · skip
      refine lv_aload_n hx hb dX8_forge_22 rfl (lv_at hl 0 rfl) ?_
      refine lv_iload_n hx hb dX8_forge_23 rfl (lv_at hl 2 rfl) ?_
      refine rq_call1 (v := .int (bI (1 ≤ w ∧ w < m0 ∧ pw m0 32 q0 1 w = 1))) (rn_V (As := [.int w]) (rest := []) (ci := 7) (fs := [.int m0, .int m1, .int m2, .int m3, .int m4, .ref m5, .int m6, .int m7, .int m8, .ref m9, .ref m10, .ref m11, .int m12, .ref m13, .ref m14, .ref m15, .ref m16, .int m17, .ref m18, .ref m19, .ref m20, .ref m21, .ref m22, .ref m23, .ref m24, .ref m25, .int m26, .int m27, .int m28, .int m29, .int m30, .int m31, .ref m32, .ref m33, .ref m34, .ref m35, .int m36, .ref m37, .int m38, .ref m39, .ref m40, .ref m41, .ref m42, .ref m43]) ⟨hx, hb, hml, hown, hts⟩ (c_X8_isOfGroup l D cA h0 m0 m1 m2 m3 m4 m5 m6 m7 m8 m9 m10 m11 m12 m13 m14 m15 m16 m17 m18 m19 m20 m21 m22 m23 m24 m25 m26 m27 m28 m29 m30 m31 m32 m33 m34 m35 m36 m37 m38 m39 m40 m41 m42 m43 w q0 p0 hgq hq1 hgp hp1) rfl (cwV 1 hts gX8_forge_X8_isOfGroup rfl rfl rfl (by decide +kernel) ⟨Nat.le_of_ble_eq_true rfl, Nat.le_of_ble_eq_true rfl⟩) hK hP [0] rfl rfl rfl hl.1 rfl (Nat.le_of_ble_eq_true rfl) dX8_forge_24 ⟨Nat.le_of_ble_eq_true rfl, Nat.le_of_ble_eq_true rfl⟩) ?_
      refine lv_if_eq (tgt := 38) hx hb dX8_forge_27 (by decide) (fun c_27 => ?_) (fun c_27 => ?_)
      · skip
        exact absurd hok.2.2.1 (bI_0 c_27)
      · skip
        refine lv_aload_n hx hb dX8_forge_30 rfl (lv_at hl 0 rfl) ?_
        refine lv_iload_n hx hb dX8_forge_31 rfl (lv_at hl 3 rfl) ?_
        refine rq_call1 (v := .int (bI (1 ≤ r ∧ r < m0 ∧ pw m0 32 q0 1 r = 1))) (rn_V (As := [.int r]) (rest := []) (ci := 7) (fs := [.int m0, .int m1, .int m2, .int m3, .int m4, .ref m5, .int m6, .int m7, .int m8, .ref m9, .ref m10, .ref m11, .int m12, .ref m13, .ref m14, .ref m15, .ref m16, .int m17, .ref m18, .ref m19, .ref m20, .ref m21, .ref m22, .ref m23, .ref m24, .ref m25, .int m26, .int m27, .int m28, .int m29, .int m30, .int m31, .ref m32, .ref m33, .ref m34, .ref m35, .int m36, .ref m37, .int m38, .ref m39, .ref m40, .ref m41, .ref m42, .ref m43]) ⟨hx, hb, hml, hown, hts⟩ (c_X8_isOfGroup l D cA h0 m0 m1 m2 m3 m4 m5 m6 m7 m8 m9 m10 m11 m12 m13 m14 m15 m16 m17 m18 m19 m20 m21 m22 m23 m24 m25 m26 m27 m28 m29 m30 m31 m32 m33 m34 m35 m36 m37 m38 m39 m40 m41 m42 m43 r q0 p0 hgq hq1 hgp hp1) rfl (cwV 1 hts gX8_forge_X8_isOfGroup rfl rfl rfl (by decide +kernel) ⟨Nat.le_of_ble_eq_true rfl, Nat.le_of_ble_eq_true rfl⟩) hK hP [0] rfl rfl rfl hl.1 rfl (Nat.le_of_ble_eq_true rfl) dX8_forge_32 ⟨Nat.le_of_ble_eq_true rfl, Nat.le_of_ble_eq_true rfl⟩) ?_
        refine lv_if_ne (tgt := 40) hx hb dX8_forge_35 (by decide) (fun c_35 => ?_) (fun c_35 => ?_)
        · skip
          refine lv_aload_n hx hb dX8_forge_40 rfl (lv_at hl 0 rfl) ?_
          refine va_get (D := D) (ci := 7) (v := .ref m20) (C := RX8) (T := TX8) (N := 44) hx hb hts hin_X8 hown hK hP 0 rfl rfl 20 (by decide) (w_RX8_41) (fun _ h9 => h9) rfl dX8_forge_41 ?_
          refine lv_iload_n hx hb dX8_forge_44 rfl (lv_at hl 1 rfl) ?_
          refine lv_iload_n hx hb dX8_forge_45 rfl (lv_at hl 2 rfl) ?_
          refine va_iast hx hb hK hP hD hS 1 0 rfl rfl (ix_in hok.2.1 hnb hb4) dX8_forge_46 (fun H locs hP hD hS => ?_)
          have hP : va_P D vwCl [(h0, .inr (7, [.int m0, .int m1, .int m2, .int m3, .int m4, .ref m5, .int m6, .int m7, .int m8, .ref m9, .ref m10, .ref m11, .int m12, .ref m13, .ref m14, .ref m15, .ref m16, .int m17, .ref m18, .ref m19, .ref m20, .ref m21, .ref m22, .ref m23, .ref m24, .ref m25, .int m26, .int m27, .int m28, .int m29, .int m30, .int m31, .ref m32, .ref m33, .ref m34, .ref m35, .int m36, .ref m37, .int m38, .ref m39, .ref m40, .ref m41, .ref m42, .ref m43])), (m20, .inl (cA 0, 40, .inl (upd faf v.toNatClampNeg w))), (m21, .inl (cA 0, 40, .inl fbf))] H := hP
          have hD : va_D A [(h0, .inr (7, [.int m0, .int m1, .int m2, .int m3, .int m4, .ref m5, .int m6, .int m7, .int m8, .ref m9, .ref m10, .ref m11, .int m12, .ref m13, .ref m14, .ref m15, .ref m16, .int m17, .ref m18, .ref m19, .ref m20, .ref m21, .ref m22, .ref m23, .ref m24, .ref m25, .int m26, .int m27, .int m28, .int m29, .int m30, .int m31, .ref m32, .ref m33, .ref m34, .ref m35, .int m36, .ref m37, .int m38, .ref m39, .ref m40, .ref m41, .ref m42, .ref m43])), (m20, .inl (cA 0, 40, .inl (upd faf v.toNatClampNeg w))), (m21, .inl (cA 0, 40, .inl fbf))] := hD
          refine lv_aload_n hx hb dX8_forge_47 rfl (lv_at hl 0 rfl) ?_
          refine va_get (D := D) (ci := 7) (v := .ref m21) (C := RX8) (T := TX8) (N := 44) hx hb hts hin_X8 hown hK hP 0 rfl rfl 21 (by decide) (w_RX8_44) (fun _ h9 => h9) rfl dX8_forge_48 ?_
          refine lv_iload_n hx hb dX8_forge_51 rfl (lv_at hl 1 rfl) ?_
          refine lv_iload_n hx hb dX8_forge_52 rfl (lv_at hl 3 rfl) ?_
          refine va_iast hx hb hK hP hD hS 2 0 rfl rfl (ix_in hok.2.1 hnb hb4) dX8_forge_53 (fun H locs hP hD hS => ?_)
          have hP : va_P D vwCl [(h0, .inr (7, [.int m0, .int m1, .int m2, .int m3, .int m4, .ref m5, .int m6, .int m7, .int m8, .ref m9, .ref m10, .ref m11, .int m12, .ref m13, .ref m14, .ref m15, .ref m16, .int m17, .ref m18, .ref m19, .ref m20, .ref m21, .ref m22, .ref m23, .ref m24, .ref m25, .int m26, .int m27, .int m28, .int m29, .int m30, .int m31, .ref m32, .ref m33, .ref m34, .ref m35, .int m36, .ref m37, .int m38, .ref m39, .ref m40, .ref m41, .ref m42, .ref m43])), (m20, .inl (cA 0, 40, .inl (upd faf v.toNatClampNeg w))), (m21, .inl (cA 0, 40, .inl (upd fbf v.toNatClampNeg r)))] H := hP
          have hD : va_D A [(h0, .inr (7, [.int m0, .int m1, .int m2, .int m3, .int m4, .ref m5, .int m6, .int m7, .int m8, .ref m9, .ref m10, .ref m11, .int m12, .ref m13, .ref m14, .ref m15, .ref m16, .int m17, .ref m18, .ref m19, .ref m20, .ref m21, .ref m22, .ref m23, .ref m24, .ref m25, .int m26, .int m27, .int m28, .int m29, .int m30, .int m31, .ref m32, .ref m33, .ref m34, .ref m35, .int m36, .ref m37, .int m38, .ref m39, .ref m40, .ref m41, .ref m42, .ref m43])), (m20, .inl (cA 0, 40, .inl (upd faf v.toNatClampNeg w))), (m21, .inl (cA 0, 40, .inl (upd fbf v.toNatClampNeg r)))] := hD
          refine lv_iconst (v := 1) hx hb dX8_forge_54 (by decide) ?_
          have hP9 : va_P D vwCl [(h0, .inr (7, [.int m0, .int m1, .int m2, .int m3, .int m4, .ref m5, .int m6, .int m7, .int m8, .ref m9, .ref m10, .ref m11, .int m12, .ref m13, .ref m14, .ref m15, .ref m16, .int m17, .ref m18, .ref m19, .ref m20, .ref m21, .ref m22, .ref m23, .ref m24, .ref m25, .int m26, .int m27, .int m28, .int m29, .int m30, .int m31, .ref m32, .ref m33, .ref m34, .ref m35, .int m36, .ref m37, .int m38, .ref m39, .ref m40, .ref m41, .ref m42, .ref m43])), (m20, .inl (cA 0, 40, .inl (upd faf v.toNatClampNeg w))), (m21, .inl (cA 0, 40, .inl (upd fbf v.toNatClampNeg r)))] H := hP
          exact W.zret (v := 1) hx hb hr rfl (fun t ht hW => ⟨congrArg (fun z => Outcome.returned (some (Value.int z))) (rfl), by rw [ht]; exact hP9, hS.F ht⟩) hS.2.2 dX8_forge_55
        · skip
          exact absurd hok.2.2.2 (bI_0 c_35)

set_option maxHeartbeats 4000000 in
set_option maxRecDepth 100000 in
theorem c_X8_isWhole (l : Launch) (D : va_G) (cA : Nat → ClassId) (h0 : Nat) (m0 : Int32) (m1 : Int32) (m2 : Int32) (m3 : Int32) (m4 : Int32) (m5 : Nat) (m6 : Int32) (m7 : Int32) (m8 : Int32) (m9 : Nat) (m10 : Nat) (m11 : Nat) (m12 : Int32) (m13 : Nat) (m14 : Nat) (m15 : Nat) (m16 : Nat) (m17 : Int32) (m18 : Nat) (m19 : Nat) (m20 : Nat) (m21 : Nat) (m22 : Nat) (m23 : Nat) (m24 : Nat) (m25 : Nat) (m26 : Int32) (m27 : Int32) (m28 : Int32) (m29 : Int32) (m30 : Int32) (m31 : Int32) (m32 : Nat) (m33 : Nat) (m34 : Nat) (m35 : Nat) (m36 : Int32) (m37 : Nat) (m38 : Int32) (m39 : Nat) (m40 : Nat) (m41 : Nat) (m42 : Nat) (m43 : Nat) (tof : Nat → Int32) (b0 : Nat) (hnb : m12 = nI b0) (hb4 : b0 ≤ 40) : Met l yX8_isWhole wsX8_isWhole ({ frames := 0, cells := 0, slots := 0, locals := 0 }) (rPc vwCl D cA [(h0, .inr (7, [.int m0, .int m1, .int m2, .int m3, .int m4, .ref m5, .int m6, .int m7, .int m8, .ref m9, .ref m10, .ref m11, .int m12, .ref m13, .ref m14, .ref m15, .ref m16, .int m17, .ref m18, .ref m19, .ref m20, .ref m21, .ref m22, .ref m23, .ref m24, .ref m25, .int m26, .int m27, .int m28, .int m29, .int m30, .int m31, .ref m32, .ref m33, .ref m34, .ref m35, .int m36, .ref m37, .int m38, .ref m39, .ref m40, .ref m41, .ref m42, .ref m43])), (m18, .inl (cA 0, 40, .inl tof))] [.ref h0]) (rq_x (some (.int (bI (whl tof b0))))) 0 0 (fun _ => False) := by
  refine Met.ofW (cc := cX8_isWhole) (maxL := 3) (ret := (some .boolean)) (by decide) rfl ?_
  intro p e s m args below meth c s₁ B hml hv
  obtain ⟨rfl, hP, hK⟩ := hv
  have hx := B.exec
  have hb := B.bytes
  have hr := B.returns
  have hts := atoms_spec (ws := wsX8_isWhole) B.pre
  have hown : s.vm.findClass RX8 = some m.cls := findClass_of_methodNamed B.named
  have hlocks := B.notSynchronized
  have hin_X8 : ∀ w ∈ wsX80, w ∈ wsX8_isWhole := fun w h => List.mem_cons_of_mem _ (List.mem_append_right _ h)
  have w_RX8_170 := hts (.fieldLink RX8 170 "MixElectionModel" "many" "I") (by decide +kernel)
  have w_RX8_35 := hts (.fieldLink RX8 35 "MixElectionModel" "to" "[I") (by decide +kernel)
  have hl := lv_entry ([.ref h0]) (n := 3) (Nat.le_of_ble_eq_true rfl)
  rw [lg_entry_eq]
  generalize (lg_sl ([.ref h0]) ++ List.replicate (3 - (lg_sl ([.ref h0])).length) Slot.unset).toArray = ls at hl ⊢
  have hl : lv_has ls 3 [(0, .ref h0)] := hl
  refine lv_iconst (v := 0) hx hb dX8_isWhole_0 (by decide) ?_
  refine lv_istore_n (lv' := [(1, .int 0), (0, .ref h0)]) hx hb dX8_isWhole_1 rfl hl (by decide) rfl (fun ls hl => ?_)
  have loop2 : ∀ (f_ k : Nat) (z : Int32), z = nI k → b0 + 1 ≤ k + f_ → k ≤ b0 → whl tof k → ∀ ls : Array Slot, lv_has ls 3 [(0, .ref h0), (1, .int z)] → W p l e (headSpec wsX8_isWhole ({ frames := 0, cells := 0, slots := 0, locals := 0 })).room s m [.ref h0].toArray below meth c s.heap [] 0 0 (MQ below (rq_x (some (.int (bI (whl tof b0))))) [.ref h0].toArray s 0 0 (fun _ => False)) (F0 m 2 ls []) := by
    intro f2
    induction f2 with
    | zero =>
      intro k z hz h1 h2
      omega
    | succ f2 ih2 =>
      intro k z hz h1 h2 hw ls hl
      refine lv_iload_n hx hb dX8_isWhole_2 rfl (lv_at hl 1 rfl) ?_
      refine lv_aload_n hx hb dX8_isWhole_3 rfl (lv_at hl 0 rfl) ?_
      refine va_get (D := D) (ci := 7) (v := .int m12) (C := RX8) (T := TX8) (N := 44) hx hb hts hin_X8 hown hK hP 0 rfl rfl 12 (by decide) (w_RX8_170) (fun _ h9 => h9) rfl dX8_isWhole_4 ?_
      refine lv_icmp_ge (tgt := 58) hx hb dX8_isWhole_7 (by decide) (fun c_7 => ?_) (fun c_7 => ?_)
      · skip
        refine lv_iconst (v := 1) hx hb dX8_isWhole_58 (by decide) ?_
        exact W.zret (v := 1) hx hb hr rfl (fun t ht hW => ⟨congrArg (fun z => Outcome.returned (some (Value.int z))) (bI_t (by rw [← lp_end hz hnb (by omega) h2 c_7]; exact hw)), ht⟩) (fun _ h => by cases h) dX8_isWhole_59
      · skip
        refine lv_aload_n hx hb dX8_isWhole_10 rfl (lv_at hl 0 rfl) ?_
        refine va_get (D := D) (ci := 7) (v := .ref m18) (C := RX8) (T := TX8) (N := 44) hx hb hts hin_X8 hown hK hP 0 rfl rfl 18 (by decide) (w_RX8_35) (fun _ h9 => h9) rfl dX8_isWhole_11 ?_
        refine lv_iload_n hx hb dX8_isWhole_14 rfl (lv_at hl 1 rfl) ?_
        refine va_iald hx hb hK hP 1 0 rfl rfl (by rw [hz]; exact vp_in_nI (by have := lp_lt hz hnb (by omega) h2 c_7; omega) (by omega)) dX8_isWhole_15 ?_
        refine lv_iconst (v := (-1)) hx hb dX8_isWhole_16 (by decide) ?_
        refine lv_icmp_ne (tgt := 22) hx hb dX8_isWhole_17 (by decide) (fun c_17 => ?_) (fun c_17 => ?_)
        · skip
          refine lv_iconst (v := 0) hx hb dX8_isWhole_22 (by decide) ?_
          refine lv_istore_n (lv' := [(2, .int 0), (0, .ref h0), (1, .int z)]) hx hb dX8_isWhole_23 rfl hl (by decide) rfl (fun ls hl => ?_)
          have loop24 : ∀ (f_ j : Nat) (y : Int32), y = nI j → k + 1 ≤ j + f_ → j ≤ k → (∀ i : Nat, i < j → ¬ tof i = tof k) → ∀ ls : Array Slot, lv_has ls 3 [(0, .ref h0), (1, .int z), (2, .int y)] → W p l e (headSpec wsX8_isWhole ({ frames := 0, cells := 0, slots := 0, locals := 0 })).room s m [.ref h0].toArray below meth c s.heap [] 0 0 (MQ below (rq_x (some (.int (bI (whl tof b0))))) [.ref h0].toArray s 0 0 (fun _ => False)) (F0 m 24 ls []) := by
            intro f
            induction f with
            | zero =>
              intro j y hy g1 g2
              omega
            | succ f ih =>
              intro j y hy g1 g2 g3 ls hl
              refine lv_iload_n hx hb dX8_isWhole_24 rfl (lv_at hl 2 rfl) ?_
              refine lv_iload_n hx hb dX8_isWhole_25 rfl (lv_at hl 1 rfl) ?_
              refine lv_icmp_ge (tgt := 52) hx hb dX8_isWhole_26 (by decide) (fun c_26 => ?_) (fun c_26 => ?_)
              · skip
                refine lv_iinc (v := (z + 1)) (lv' := [(1, .int (z + 1)), (0, .ref h0), (2, .int y)]) hx hb dX8_isWhole_52 hl (k := 1) rfl rfl (by decide) rfl (fun ls hl => ?_)
                refine lv_goto (tgt := 2) hx hb dX8_isWhole_55 (by decide) ?_
                have hk := lp_lt hz hnb (by omega) h2 c_7
                have hij := lp_end hy hz (by omega) g2 c_26
                exact ih2 (k + 1) (z + 1) (st_1 hz) (by omega) (by omega) (whl_s hw (by rw [← i8_cl (g := tof) hz (by omega)]; exact c_17) (fun i hi => g3 i (by omega))) ls (lv_sub hl [1, 0] rfl)
              · skip
                refine lv_aload_n hx hb dX8_isWhole_29 rfl (lv_at hl 0 rfl) ?_
                refine va_get (D := D) (ci := 7) (v := .ref m18) (C := RX8) (T := TX8) (N := 44) hx hb hts hin_X8 hown hK hP 0 rfl rfl 18 (by decide) (w_RX8_35) (fun _ h9 => h9) rfl dX8_isWhole_30 ?_
                refine lv_iload_n hx hb dX8_isWhole_33 rfl (lv_at hl 2 rfl) ?_
                refine va_iald hx hb hK hP 1 0 rfl rfl (by rw [hy]; exact vp_in_nI (by have := lp_lt hz hnb (by omega) h2 c_7; omega) (by omega)) dX8_isWhole_34 ?_
                refine lv_aload_n hx hb dX8_isWhole_35 rfl (lv_at hl 0 rfl) ?_
                refine va_get (D := D) (ci := 7) (v := .ref m18) (C := RX8) (T := TX8) (N := 44) hx hb hts hin_X8 hown hK hP 0 rfl rfl 18 (by decide) (w_RX8_35) (fun _ h9 => h9) rfl dX8_isWhole_36 ?_
                refine lv_iload_n hx hb dX8_isWhole_39 rfl (lv_at hl 1 rfl) ?_
                refine va_iald hx hb hK hP 1 0 rfl rfl (by rw [hz]; exact vp_in_nI (by have := lp_lt hz hnb (by omega) h2 c_7; omega) (by omega)) dX8_isWhole_40 ?_
                refine lv_icmp_ne (tgt := 46) hx hb dX8_isWhole_41 (by decide) (fun c_41 => ?_) (fun c_41 => ?_)
                · skip
                  refine lv_iinc (v := (y + 1)) (lv' := [(2, .int (y + 1)), (0, .ref h0), (1, .int z)]) hx hb dX8_isWhole_46 hl (k := 2) rfl rfl (by decide) rfl (fun ls hl => ?_)
                  refine lv_goto (tgt := 24) hx hb dX8_isWhole_49 (by decide) ?_
                  have hk := lp_lt hz hnb (by omega) h2 c_7
                  have hj := lp_lt hy hz (by omega) g2 c_26
                  exact ih (j + 1) (y + 1) (st_1 hy) (by omega) (by omega) (i8_next g3 (by rw [← i8_cl (g := tof) hy (by omega), ← i8_cl (g := tof) hz (by omega)]; exact c_41)) ls (lv_sub hl [1, 2, 0] rfl)
                · skip
                  refine lv_iconst (v := 0) hx hb dX8_isWhole_44 (by decide) ?_
                  exact W.zret (v := 0) hx hb hr rfl (fun t ht hW => ⟨congrArg (fun z => Outcome.returned (some (Value.int z))) (bI_f (fun h => h.2 k (lp_lt hz hnb (by omega) h2 c_7) j (lp_lt hy hz (by omega) g2 c_26) (by rw [← i8_cl (g := tof) hy (by omega), ← i8_cl (g := tof) hz (by omega)]; exact c_41))), ht⟩) (fun _ h => by cases h) dX8_isWhole_45
          exact loop24 (k + 1) 0 0 rfl (by omega) (by omega) (fun i h => by omega) ls (lv_sub hl [1, 2, 0] rfl)
        · skip
          refine lv_iconst (v := 0) hx hb dX8_isWhole_20 (by decide) ?_
          exact W.zret (v := 0) hx hb hr rfl (fun t ht hW => ⟨congrArg (fun z => Outcome.returned (some (Value.int z))) (bI_f (fun h => h.1 k (lp_lt hz hnb (by omega) h2 c_7) (by rw [← i8_cl (g := tof) hz (by omega)]; exact c_17))), ht⟩) (fun _ h => by cases h) dX8_isWhole_21
  exact loop2 (b0 + 1) 0 0 rfl (by omega) (by omega) (whl_0 tof) ls (lv_sub hl [1, 0] rfl)

set_option maxHeartbeats 4000000 in
set_option maxRecDepth 100000 in
theorem c_X8_anewA (l : Launch) (D : va_G) (cA : Nat → ClassId) (h0 : Nat) (m0 : Int32) (m1 : Int32) (m2 : Int32) (m3 : Int32) (m4 : Int32) (m5 : Nat) (m6 : Int32) (m7 : Int32) (m8 : Int32) (m9 : Nat) (m10 : Nat) (m11 : Nat) (m12 : Int32) (m13 : Nat) (m14 : Nat) (m15 : Nat) (m16 : Nat) (m17 : Int32) (m18 : Nat) (m19 : Nat) (m20 : Nat) (m21 : Nat) (m22 : Nat) (m23 : Nat) (m24 : Nat) (m25 : Nat) (m26 : Int32) (m27 : Int32) (m28 : Int32) (m29 : Int32) (m30 : Int32) (m31 : Int32) (m32 : Nat) (m33 : Nat) (m34 : Nat) (m35 : Nat) (m36 : Int32) (m37 : Nat) (m38 : Int32) (m39 : Nat) (m40 : Nat) (m41 : Nat) (m42 : Nat) (m43 : Nat) (mm : Int32) (i : Int32) (r : Int32) (mx0 : Nat) (i0 : Nat) (r0 : Nat) (laf : Nat → Int32) (hmx : mm = nI mx0) (hmx5 : mx0 ≤ 4) (hi0 : i = nI i0) (hi4 : i0 < 40) (hr0 : r = nI r0) (hr9 : r0 < 2 ^ 31) (hp0 : 0 < m0) : Met l yX8_anewA wsX8_anewA ({ frames := 2, cells := 0, slots := 0, locals := 47 }) (rPc vwCl D cA [(h0, .inr (7, [.int m0, .int m1, .int m2, .int m3, .int m4, .ref m5, .int m6, .int m7, .int m8, .ref m9, .ref m10, .ref m11, .int m12, .ref m13, .ref m14, .ref m15, .ref m16, .int m17, .ref m18, .ref m19, .ref m20, .ref m21, .ref m22, .ref m23, .ref m24, .ref m25, .int m26, .int m27, .int m28, .int m29, .int m30, .int m31, .ref m32, .ref m33, .ref m34, .ref m35, .int m36, .ref m37, .int m38, .ref m39, .ref m40, .ref m41, .ref m42, .ref m43])), (m13, .inl (cA 0, 200, .inl laf))] [.ref h0, .int mm, .int i, .int r]) (rq_x (some (.int (tm m0 (laf (40 * mx0 + i0)) (pw m0 32 r0 1 4))))) 0 0 (fun _ => False) := by
  refine Met.ofW (cc := cX8_anewA) (maxL := 4) (ret := (some .int)) (by decide) rfl ?_
  intro p e s m args below meth c s₁ B hml hv
  obtain ⟨rfl, hP, hK⟩ := hv
  have hx := B.exec
  have hb := B.bytes
  have hr := B.returns
  have hts := atoms_spec (ws := wsX8_anewA) B.pre
  have hown : s.vm.findClass RX8 = some m.cls := findClass_of_methodNamed B.named
  have hlocks := B.notSynchronized
  have hin_X8 : ∀ w ∈ wsX80, w ∈ wsX8_anewA := fun w h => List.mem_cons_of_mem _ (List.mem_append_right _ h)
  have w_RX8_23 := hts (.fieldLink RX8 23 "MixElectionModel" "listA" "[I") (by decide +kernel)
  have hl := lv_entry ([.ref h0, .int mm, .int i, .int r]) (n := 4) (Nat.le_of_ble_eq_true rfl)
  rw [lg_entry_eq]
  generalize (lg_sl ([.ref h0, .int mm, .int i, .int r]) ++ List.replicate (4 - (lg_sl ([.ref h0, .int mm, .int i, .int r])).length) Slot.unset).toArray = ls at hl ⊢
  have hl : lv_has ls 4 [(0, .ref h0), (1, .int mm), (2, .int i), (3, .int r)] := hl
  refine lv_aload_n hx hb dX8_anewA_0 rfl (lv_at hl 0 rfl) ?_
  refine lv_aload_n hx hb dX8_anewA_1 rfl (lv_at hl 0 rfl) ?_
  refine va_get (D := D) (ci := 7) (v := .ref m13) (C := RX8) (T := TX8) (N := 44) hx hb hts hin_X8 hown hK hP 0 rfl rfl 13 (by decide) (w_RX8_23) (fun _ h9 => h9) rfl dX8_anewA_2 ?_
  refine lv_bipush (v := 40) hx hb dX8_anewA_5 (by decide) ?_
  refine lv_iload_n hx hb dX8_anewA_7 rfl (lv_at hl 1 rfl) ?_
  refine lv_imul hx hb dX8_anewA_8 ?_
  refine lv_iload_n hx hb dX8_anewA_9 rfl (lv_at hl 2 rfl) ?_
  refine lv_iadd hx hb dX8_anewA_10 ?_
  refine va_iald hx hb hK hP 1 0 rfl rfl (by rw [an_ix hmx hi0]; exact vp_in_nI (by omega) (by omega)) dX8_anewA_11 ?_
  rw [an_at (g := laf) hmx hi0 hmx5 hi4]
  refine lv_aload_n hx hb dX8_anewA_12 rfl (lv_at hl 0 rfl) ?_
  refine lv_iconst (v := 4) hx hb dX8_anewA_13 (by decide) ?_
  refine lv_iload_n hx hb dX8_anewA_14 rfl (lv_at hl 3 rfl) ?_
  refine rq_call1 (v := .int (pw m0 32 r0 1 4)) (rn_V (As := [.int 4, .int r]) (rest := [.int (laf (40 * mx0 + i0)), .ref h0]) (ci := 7) (fs := [.int m0, .int m1, .int m2, .int m3, .int m4, .ref m5, .int m6, .int m7, .int m8, .ref m9, .ref m10, .ref m11, .int m12, .ref m13, .ref m14, .ref m15, .ref m16, .int m17, .ref m18, .ref m19, .ref m20, .ref m21, .ref m22, .ref m23, .ref m24, .ref m25, .int m26, .int m27, .int m28, .int m29, .int m30, .int m31, .ref m32, .ref m33, .ref m34, .ref m35, .int m36, .ref m37, .int m38, .ref m39, .ref m40, .ref m41, .ref m42, .ref m43]) ⟨hx, hb, hml, hown, hts⟩ (c_X8_power l D cA h0 m0 m1 m2 m3 m4 m5 m6 m7 m8 m9 m10 m11 m12 m13 m14 m15 m16 m17 m18 m19 m20 m21 m22 m23 m24 m25 m26 m27 m28 m29 m30 m31 m32 m33 m34 m35 m36 m37 m38 m39 m40 m41 m42 m43 4 r r0 hr0 hr9 hp0) rfl (cwV 2 hts gX8_anewA_X8_power rfl rfl rfl (by decide +kernel) ⟨Nat.le_of_ble_eq_true rfl, Nat.le_of_ble_eq_true rfl⟩) hK hP [0] rfl rfl rfl hl.1 rfl (Nat.le_of_ble_eq_true rfl) dX8_anewA_15 ⟨Nat.le_of_ble_eq_true rfl, Nat.le_of_ble_eq_true rfl⟩) ?_
  refine rq_call1 (v := .int (tm m0 (laf (40 * mx0 + i0)) (pw m0 32 r0 1 4))) (rn_V (As := [.int (laf (40 * mx0 + i0)), .int (pw m0 32 r0 1 4)]) (rest := []) (ci := 7) (fs := [.int m0, .int m1, .int m2, .int m3, .int m4, .ref m5, .int m6, .int m7, .int m8, .ref m9, .ref m10, .ref m11, .int m12, .ref m13, .ref m14, .ref m15, .ref m16, .int m17, .ref m18, .ref m19, .ref m20, .ref m21, .ref m22, .ref m23, .ref m24, .ref m25, .int m26, .int m27, .int m28, .int m29, .int m30, .int m31, .ref m32, .ref m33, .ref m34, .ref m35, .int m36, .ref m37, .int m38, .ref m39, .ref m40, .ref m41, .ref m42, .ref m43]) ⟨hx, hb, hml, hown, hts⟩ (c_X8_times l D cA h0 m0 m1 m2 m3 m4 m5 m6 m7 m8 m9 m10 m11 m12 m13 m14 m15 m16 m17 m18 m19 m20 m21 m22 m23 m24 m25 m26 m27 m28 m29 m30 m31 m32 m33 m34 m35 m36 m37 m38 m39 m40 m41 m42 m43 (laf (40 * mx0 + i0)) (pw m0 32 r0 1 4) hp0) rfl (cwV 2 hts gX8_anewA_X8_times rfl rfl rfl (by decide +kernel) ⟨Nat.le_of_ble_eq_true rfl, Nat.le_of_ble_eq_true rfl⟩) hK hP [0] rfl rfl rfl hl.1 rfl (Nat.le_of_ble_eq_true rfl) dX8_anewA_18 ⟨Nat.le_of_ble_eq_true rfl, Nat.le_of_ble_eq_true rfl⟩) ?_
  exact W.iret (v := (tm m0 (laf (40 * mx0 + i0)) (pw m0 32 r0 1 4))) hx hb hr (fun t ht hW => ⟨congrArg (fun z => Outcome.returned (some (Value.int z))) (rfl), ht⟩) (fun _ h => by cases h) dX8_anewA_21

set_option maxHeartbeats 4000000 in
set_option maxRecDepth 100000 in
theorem c_X8_anewB (l : Launch) (D : va_G) (cA : Nat → ClassId) (h0 : Nat) (m0 : Int32) (m1 : Int32) (m2 : Int32) (m3 : Int32) (m4 : Int32) (m5 : Nat) (m6 : Int32) (m7 : Int32) (m8 : Int32) (m9 : Nat) (m10 : Nat) (m11 : Nat) (m12 : Int32) (m13 : Nat) (m14 : Nat) (m15 : Nat) (m16 : Nat) (m17 : Int32) (m18 : Nat) (m19 : Nat) (m20 : Nat) (m21 : Nat) (m22 : Nat) (m23 : Nat) (m24 : Nat) (m25 : Nat) (m26 : Int32) (m27 : Int32) (m28 : Int32) (m29 : Int32) (m30 : Int32) (m31 : Int32) (m32 : Nat) (m33 : Nat) (m34 : Nat) (m35 : Nat) (m36 : Int32) (m37 : Nat) (m38 : Int32) (m39 : Nat) (m40 : Nat) (m41 : Nat) (m42 : Nat) (m43 : Nat) (mm : Int32) (i : Int32) (r : Int32) (mx0 : Nat) (i0 : Nat) (r0 : Nat) (lbf : Nat → Int32) (hmx : mm = nI mx0) (hmx5 : mx0 ≤ 4) (hi0 : i = nI i0) (hi4 : i0 < 40) (hr0 : r = nI r0) (hr9 : r0 < 2 ^ 31) (hp0 : 0 < m0) : Met l yX8_anewB wsX8_anewB ({ frames := 2, cells := 0, slots := 0, locals := 47 }) (rPc vwCl D cA [(h0, .inr (7, [.int m0, .int m1, .int m2, .int m3, .int m4, .ref m5, .int m6, .int m7, .int m8, .ref m9, .ref m10, .ref m11, .int m12, .ref m13, .ref m14, .ref m15, .ref m16, .int m17, .ref m18, .ref m19, .ref m20, .ref m21, .ref m22, .ref m23, .ref m24, .ref m25, .int m26, .int m27, .int m28, .int m29, .int m30, .int m31, .ref m32, .ref m33, .ref m34, .ref m35, .int m36, .ref m37, .int m38, .ref m39, .ref m40, .ref m41, .ref m42, .ref m43])), (m14, .inl (cA 0, 200, .inl lbf))] [.ref h0, .int mm, .int i, .int r]) (rq_x (some (.int (tm m0 (lbf (40 * mx0 + i0)) (pw m0 32 r0 1 m7))))) 0 0 (fun _ => False) := by
  refine Met.ofW (cc := cX8_anewB) (maxL := 4) (ret := (some .int)) (by decide) rfl ?_
  intro p e s m args below meth c s₁ B hml hv
  obtain ⟨rfl, hP, hK⟩ := hv
  have hx := B.exec
  have hb := B.bytes
  have hr := B.returns
  have hts := atoms_spec (ws := wsX8_anewB) B.pre
  have hown : s.vm.findClass RX8 = some m.cls := findClass_of_methodNamed B.named
  have hlocks := B.notSynchronized
  have hin_X8 : ∀ w ∈ wsX80, w ∈ wsX8_anewB := fun w h => List.mem_cons_of_mem _ (List.mem_append_right _ h)
  have w_RX8_26 := hts (.fieldLink RX8 26 "MixElectionModel" "listB" "[I") (by decide +kernel)
  have w_RX8_146 := hts (.fieldLink RX8 146 "MixElectionModel" "h" "I") (by decide +kernel)
  have hl := lv_entry ([.ref h0, .int mm, .int i, .int r]) (n := 4) (Nat.le_of_ble_eq_true rfl)
  rw [lg_entry_eq]
  generalize (lg_sl ([.ref h0, .int mm, .int i, .int r]) ++ List.replicate (4 - (lg_sl ([.ref h0, .int mm, .int i, .int r])).length) Slot.unset).toArray = ls at hl ⊢
  have hl : lv_has ls 4 [(0, .ref h0), (1, .int mm), (2, .int i), (3, .int r)] := hl
  refine lv_aload_n hx hb dX8_anewB_0 rfl (lv_at hl 0 rfl) ?_
  refine lv_aload_n hx hb dX8_anewB_1 rfl (lv_at hl 0 rfl) ?_
  refine va_get (D := D) (ci := 7) (v := .ref m14) (C := RX8) (T := TX8) (N := 44) hx hb hts hin_X8 hown hK hP 0 rfl rfl 14 (by decide) (w_RX8_26) (fun _ h9 => h9) rfl dX8_anewB_2 ?_
  refine lv_bipush (v := 40) hx hb dX8_anewB_5 (by decide) ?_
  refine lv_iload_n hx hb dX8_anewB_7 rfl (lv_at hl 1 rfl) ?_
  refine lv_imul hx hb dX8_anewB_8 ?_
  refine lv_iload_n hx hb dX8_anewB_9 rfl (lv_at hl 2 rfl) ?_
  refine lv_iadd hx hb dX8_anewB_10 ?_
  refine va_iald hx hb hK hP 1 0 rfl rfl (by rw [an_ix hmx hi0]; exact vp_in_nI (by omega) (by omega)) dX8_anewB_11 ?_
  rw [an_at (g := lbf) hmx hi0 hmx5 hi4]
  refine lv_aload_n hx hb dX8_anewB_12 rfl (lv_at hl 0 rfl) ?_
  refine lv_aload_n hx hb dX8_anewB_13 rfl (lv_at hl 0 rfl) ?_
  refine va_get (D := D) (ci := 7) (v := .int m7) (C := RX8) (T := TX8) (N := 44) hx hb hts hin_X8 hown hK hP 0 rfl rfl 7 (by decide) (w_RX8_146) (fun _ h9 => h9) rfl dX8_anewB_14 ?_
  refine lv_iload_n hx hb dX8_anewB_17 rfl (lv_at hl 3 rfl) ?_
  refine rq_call1 (v := .int (pw m0 32 r0 1 m7)) (rn_V (As := [.int m7, .int r]) (rest := [.int (lbf (40 * mx0 + i0)), .ref h0]) (ci := 7) (fs := [.int m0, .int m1, .int m2, .int m3, .int m4, .ref m5, .int m6, .int m7, .int m8, .ref m9, .ref m10, .ref m11, .int m12, .ref m13, .ref m14, .ref m15, .ref m16, .int m17, .ref m18, .ref m19, .ref m20, .ref m21, .ref m22, .ref m23, .ref m24, .ref m25, .int m26, .int m27, .int m28, .int m29, .int m30, .int m31, .ref m32, .ref m33, .ref m34, .ref m35, .int m36, .ref m37, .int m38, .ref m39, .ref m40, .ref m41, .ref m42, .ref m43]) ⟨hx, hb, hml, hown, hts⟩ (c_X8_power l D cA h0 m0 m1 m2 m3 m4 m5 m6 m7 m8 m9 m10 m11 m12 m13 m14 m15 m16 m17 m18 m19 m20 m21 m22 m23 m24 m25 m26 m27 m28 m29 m30 m31 m32 m33 m34 m35 m36 m37 m38 m39 m40 m41 m42 m43 m7 r r0 hr0 hr9 hp0) rfl (cwV 2 hts gX8_anewB_X8_power rfl rfl rfl (by decide +kernel) ⟨Nat.le_of_ble_eq_true rfl, Nat.le_of_ble_eq_true rfl⟩) hK hP [0] rfl rfl rfl hl.1 rfl (Nat.le_of_ble_eq_true rfl) dX8_anewB_18 ⟨Nat.le_of_ble_eq_true rfl, Nat.le_of_ble_eq_true rfl⟩) ?_
  refine rq_call1 (v := .int (tm m0 (lbf (40 * mx0 + i0)) (pw m0 32 r0 1 m7))) (rn_V (As := [.int (lbf (40 * mx0 + i0)), .int (pw m0 32 r0 1 m7)]) (rest := []) (ci := 7) (fs := [.int m0, .int m1, .int m2, .int m3, .int m4, .ref m5, .int m6, .int m7, .int m8, .ref m9, .ref m10, .ref m11, .int m12, .ref m13, .ref m14, .ref m15, .ref m16, .int m17, .ref m18, .ref m19, .ref m20, .ref m21, .ref m22, .ref m23, .ref m24, .ref m25, .int m26, .int m27, .int m28, .int m29, .int m30, .int m31, .ref m32, .ref m33, .ref m34, .ref m35, .int m36, .ref m37, .int m38, .ref m39, .ref m40, .ref m41, .ref m42, .ref m43]) ⟨hx, hb, hml, hown, hts⟩ (c_X8_times l D cA h0 m0 m1 m2 m3 m4 m5 m6 m7 m8 m9 m10 m11 m12 m13 m14 m15 m16 m17 m18 m19 m20 m21 m22 m23 m24 m25 m26 m27 m28 m29 m30 m31 m32 m33 m34 m35 m36 m37 m38 m39 m40 m41 m42 m43 (lbf (40 * mx0 + i0)) (pw m0 32 r0 1 m7) hp0) rfl (cwV 2 hts gX8_anewB_X8_times rfl rfl rfl (by decide +kernel) ⟨Nat.le_of_ble_eq_true rfl, Nat.le_of_ble_eq_true rfl⟩) hK hP [0] rfl rfl rfl hl.1 rfl (Nat.le_of_ble_eq_true rfl) dX8_anewB_21 ⟨Nat.le_of_ble_eq_true rfl, Nat.le_of_ble_eq_true rfl⟩) ?_
  exact W.iret (v := (tm m0 (lbf (40 * mx0 + i0)) (pw m0 32 r0 1 m7))) hx hb hr (fun t ht hW => ⟨congrArg (fun z => Outcome.returned (some (Value.int z))) (rfl), ht⟩) (fun _ h => by cases h) dX8_anewB_24

set_option maxHeartbeats 4000000 in
set_option maxRecDepth 100000 in
theorem c_X8_mayStage (l : Launch) (D : va_G) (cA : Nat → ClassId) (h0 : Nat) (m0 : Int32) (m1 : Int32) (m2 : Int32) (m3 : Int32) (m4 : Int32) (m5 : Nat) (m6 : Int32) (m7 : Int32) (m8 : Int32) (m9 : Nat) (m10 : Nat) (m11 : Nat) (m12 : Int32) (m13 : Nat) (m14 : Nat) (m15 : Nat) (m16 : Nat) (m17 : Int32) (m18 : Nat) (m19 : Nat) (m20 : Nat) (m21 : Nat) (m22 : Nat) (m23 : Nat) (m24 : Nat) (m25 : Nat) (m26 : Int32) (m27 : Int32) (m28 : Int32) (m29 : Int32) (m30 : Int32) (m31 : Int32) (m32 : Nat) (m33 : Nat) (m34 : Nat) (m35 : Nat) (m36 : Int32) (m37 : Nat) (m38 : Int32) (m39 : Nat) (m40 : Nat) (m41 : Nat) (m42 : Nat) (m43 : Nat) (tof : Nat → Int32) (b0 : Nat) (hnb : m12 = nI b0) (hb4 : b0 ≤ 40) : Met l yX8_mayStage wsX8_mayStage ({ frames := 1, cells := 0, slots := 0, locals := 22 }) (rPc vwCl D cA [(h0, .inr (7, [.int m0, .int m1, .int m2, .int m3, .int m4, .ref m5, .int m6, .int m7, .int m8, .ref m9, .ref m10, .ref m11, .int m12, .ref m13, .ref m14, .ref m15, .ref m16, .int m17, .ref m18, .ref m19, .ref m20, .ref m21, .ref m22, .ref m23, .ref m24, .ref m25, .int m26, .int m27, .int m28, .int m29, .int m30, .int m31, .ref m32, .ref m33, .ref m34, .ref m35, .int m36, .ref m37, .int m38, .ref m39, .ref m40, .ref m41, .ref m42, .ref m43])), (m18, .inl (cA 0, 40, .inl tof))] [.ref h0]) (rq_x (some (.int (bI (m6 = 2 ∧ m28 = 0 ∧ m36 = 0 ∧ whl tof b0))))) 0 0 (fun _ => False) := by
  refine Met.ofW (cc := cX8_mayStage) (maxL := 1) (ret := (some .boolean)) (by decide) rfl ?_
  intro p e s m args below meth c s₁ B hml hv
  obtain ⟨rfl, hP, hK⟩ := hv
  have hx := B.exec
  have hb := B.bytes
  have hr := B.returns
  have hts := atoms_spec (ws := wsX8_mayStage) B.pre
  have hown : s.vm.findClass RX8 = some m.cls := findClass_of_methodNamed B.named
  have hlocks := B.notSynchronized
  have hin_X8 : ∀ w ∈ wsX80, w ∈ wsX8_mayStage := fun w h => List.mem_cons_of_mem _ (List.mem_append_right _ h)
  have w_RX8_140 := hts (.fieldLink RX8 140 "MixElectionModel" "stage" "I") (by decide +kernel)
  have w_RX8_181 := hts (.fieldLink RX8 181 "MixElectionModel" "isDue" "Z") (by decide +kernel)
  have w_RX8_185 := hts (.fieldLink RX8 185 "MixElectionModel" "shares" "I") (by decide +kernel)
  have hl := lv_entry ([.ref h0]) (n := 1) (Nat.le_of_ble_eq_true rfl)
  rw [lg_entry_eq]
  generalize (lg_sl ([.ref h0]) ++ List.replicate (1 - (lg_sl ([.ref h0])).length) Slot.unset).toArray = ls at hl ⊢
  have hl : lv_has ls 1 [(0, .ref h0)] := hl
  refine lv_aload_n hx hb dX8_mayStage_0 rfl (lv_at hl 0 rfl) ?_
  refine va_get (D := D) (ci := 7) (v := .int m6) (C := RX8) (T := TX8) (N := 44) hx hb hts hin_X8 hown hK hP 0 rfl rfl 6 (by decide) (w_RX8_140) (fun _ h9 => h9) rfl dX8_mayStage_1 ?_
  refine lv_iconst (v := 2) hx hb dX8_mayStage_4 (by decide) ?_
  refine lv_icmp_ne (tgt := 33) hx hb dX8_mayStage_5 (by decide) (fun c_5 => ?_) (fun c_5 => ?_)
  · skip
    refine lv_iconst (v := 0) hx hb dX8_mayStage_33 (by decide) ?_
    exact W.zret (v := 0) hx hb hr rfl (fun t ht hW => ⟨congrArg (fun z => Outcome.returned (some (Value.int z))) (bI_f (fun h => c_5 h.1)), ht⟩) (fun _ h => by cases h) dX8_mayStage_34
  · skip
    refine lv_aload_n hx hb dX8_mayStage_8 rfl (lv_at hl 0 rfl) ?_
    refine rq_call1 (v := .int (bI (whl tof b0))) (rn_V (As := []) (rest := []) (ci := 7) (fs := [.int m0, .int m1, .int m2, .int m3, .int m4, .ref m5, .int m6, .int m7, .int m8, .ref m9, .ref m10, .ref m11, .int m12, .ref m13, .ref m14, .ref m15, .ref m16, .int m17, .ref m18, .ref m19, .ref m20, .ref m21, .ref m22, .ref m23, .ref m24, .ref m25, .int m26, .int m27, .int m28, .int m29, .int m30, .int m31, .ref m32, .ref m33, .ref m34, .ref m35, .int m36, .ref m37, .int m38, .ref m39, .ref m40, .ref m41, .ref m42, .ref m43]) ⟨hx, hb, hml, hown, hts⟩ (c_X8_isWhole l D cA h0 m0 m1 m2 m3 m4 m5 m6 m7 m8 m9 m10 m11 m12 m13 m14 m15 m16 m17 m18 m19 m20 m21 m22 m23 m24 m25 m26 m27 m28 m29 m30 m31 m32 m33 m34 m35 m36 m37 m38 m39 m40 m41 m42 m43 tof b0 hnb hb4) rfl (cwV 0 hts gX8_mayStage_X8_isWhole rfl rfl rfl (by decide +kernel) ⟨Nat.le_of_ble_eq_true rfl, Nat.le_of_ble_eq_true rfl⟩) hK hP [0, 1] rfl rfl rfl hl.1 rfl (Nat.le_of_ble_eq_true rfl) dX8_mayStage_9 ⟨Nat.le_of_ble_eq_true rfl, Nat.le_of_ble_eq_true rfl⟩) ?_
    refine lv_if_eq (tgt := 33) hx hb dX8_mayStage_12 (by decide) (fun c_12 => ?_) (fun c_12 => ?_)
    · skip
      refine lv_iconst (v := 0) hx hb dX8_mayStage_33 (by decide) ?_
      exact W.zret (v := 0) hx hb hr rfl (fun t ht hW => ⟨congrArg (fun z => Outcome.returned (some (Value.int z))) (bI_f (fun h => bI_0 c_12 h.2.2.2)), ht⟩) (fun _ h => by cases h) dX8_mayStage_34
    · skip
      refine lv_aload_n hx hb dX8_mayStage_15 rfl (lv_at hl 0 rfl) ?_
      refine va_get (D := D) (ci := 7) (v := .int m28) (C := RX8) (T := TX8) (N := 44) hx hb hts hin_X8 hown hK hP 0 rfl rfl 28 (by decide) (w_RX8_181) (fun _ h9 => h9) rfl dX8_mayStage_16 ?_
      refine lv_if_ne (tgt := 33) hx hb dX8_mayStage_19 (by decide) (fun c_19 => ?_) (fun c_19 => ?_)
      · skip
        refine lv_iconst (v := 0) hx hb dX8_mayStage_33 (by decide) ?_
        exact W.zret (v := 0) hx hb hr rfl (fun t ht hW => ⟨congrArg (fun z => Outcome.returned (some (Value.int z))) (bI_f (fun h => c_19 h.2.1)), ht⟩) (fun _ h => by cases h) dX8_mayStage_34
      · skip
        refine lv_aload_n hx hb dX8_mayStage_22 rfl (lv_at hl 0 rfl) ?_
        refine va_get (D := D) (ci := 7) (v := .int m36) (C := RX8) (T := TX8) (N := 44) hx hb hts hin_X8 hown hK hP 0 rfl rfl 36 (by decide) (w_RX8_185) (fun _ h9 => h9) rfl dX8_mayStage_23 ?_
        refine lv_if_ne (tgt := 33) hx hb dX8_mayStage_26 (by decide) (fun c_26 => ?_) (fun c_26 => ?_)
        · skip
          refine lv_iconst (v := 0) hx hb dX8_mayStage_33 (by decide) ?_
          exact W.zret (v := 0) hx hb hr rfl (fun t ht hW => ⟨congrArg (fun z => Outcome.returned (some (Value.int z))) (bI_f (fun h => c_26 h.2.2.1)), ht⟩) (fun _ h => by cases h) dX8_mayStage_34
        · skip
          refine lv_iconst (v := 1) hx hb dX8_mayStage_29 (by decide) ?_
          refine lv_goto (tgt := 34) hx hb dX8_mayStage_30 (by decide) ?_
          exact W.zret (v := 1) hx hb hr rfl (fun t ht hW => ⟨congrArg (fun z => Outcome.returned (some (Value.int z))) (bI_t ⟨c_5, c_19, c_26, bI_1 c_12⟩), ht⟩) (fun _ h => by cases h) dX8_mayStage_34

set_option maxHeartbeats 4000000 in
set_option maxRecDepth 100000 in
theorem c_X8_digest (l : Launch) (D : va_G) (cA : Nat → ClassId) (aa : Nat) (ab : Nat) (na : Nat) (f0 : Nat) (n0 : Nat) (af : Nat → Int32) (bf : Nat → Int32) (fr : Int32) (n : Int32) (hfr : fr = nI f0) (hn : n = nI n0) (hna : f0 + n0 ≤ na) (hna9 : na < 1000) : Met l yX8_digest wsX8_digest ({ frames := 1, cells := 0, slots := 0, locals := 23 }) (rPc vwCl D cA [(aa, .inl (cA 0, na, .inl af)), (ab, .inl (cA 0, na, .inl bf))] [.ref aa, .ref ab, .int fr, .int n]) (rq_x (some (.long (dgs (fun i => af (f0 + i)) (fun i => bf (f0 + i)) n0)))) 0 0 (fun _ => False) := by
  refine Met.ofW (cc := cX8_digest) (maxL := 7) (ret := (some .long)) (by decide) rfl ?_
  intro p e s m args below meth c s₁ B hml hv
  obtain ⟨rfl, hP, hK⟩ := hv
  have hx := B.exec
  have hb := B.bytes
  have hr := B.returns
  have hts := atoms_spec (ws := wsX8_digest) B.pre
  have hown : s.vm.findClass RX8 = some m.cls := findClass_of_methodNamed B.named
  have hlocks := B.notSynchronized
  have hl := lv_entry ([.ref aa, .ref ab, .int fr, .int n]) (n := 7) (Nat.le_of_ble_eq_true rfl)
  rw [lg_entry_eq]
  generalize (lg_sl ([.ref aa, .ref ab, .int fr, .int n]) ++ List.replicate (7 - (lg_sl ([.ref aa, .ref ab, .int fr, .int n])).length) Slot.unset).toArray = ls at hl ⊢
  have hl : lv_has ls 7 [(0, .ref aa), (1, .ref ab), (2, .int fr), (3, .int n)] := hl
  refine lv_lconst (v := 0) hx hb dX8_digest_0 (by decide) ?_
  refine lv_lstore (lv' := [(4, .long 0), (0, .ref aa), (1, .ref ab), (2, .int fr), (3, .int n)]) hx hb dX8_digest_1 hl (by decide) rfl (fun ls hl => ?_)
  refine lv_iload_n hx hb dX8_digest_3 rfl (lv_at hl 3 rfl) ?_
  refine lv_istore (lv' := [(6, .int fr), (4, .long 0), (0, .ref aa), (1, .ref ab), (2, .int fr), (3, .int n)]) hx hb dX8_digest_4 hl (by decide) rfl (fun ls hl => ?_)
  have loop6 : ∀ (f_ k : Nat) (z : Int32) (d : Int64), z = nI (f0 + k) → n0 + 1 ≤ k + f_ → k ≤ n0 → d = dgs (fun i => af (f0 + i)) (fun i => bf (f0 + i)) k → ∀ ls : Array Slot, lv_has ls 7 [(0, .ref aa), (1, .ref ab), (2, .int fr), (3, .int n), (4, .long d), (6, .int z)] → W p l e (headSpec wsX8_digest ({ frames := 1, cells := 0, slots := 0, locals := 23 })).room s m [.ref aa, .ref ab, .int fr, .int n].toArray below meth c s.heap [] 0 0 (MQ below (rq_x (some (.long (dgs (fun i => af (f0 + i)) (fun i => bf (f0 + i)) n0)))) [.ref aa, .ref ab, .int fr, .int n].toArray s 0 0 (fun _ => False)) (F0 m 6 ls []) := by
    intro f
    induction f with
    | zero =>
      intro k z d hz h1 h2
      omega
    | succ f ih =>
      intro k z d hz h1 h2 hd ls hl
      refine lv_iload hx hb dX8_digest_6 (lv_at hl 5 rfl) ?_
      refine lv_iload_n hx hb dX8_digest_8 rfl (lv_at hl 2 rfl) ?_
      refine lv_iload_n hx hb dX8_digest_9 rfl (lv_at hl 3 rfl) ?_
      refine lv_iadd hx hb dX8_digest_10 ?_
      refine lv_icmp_ge (tgt := 40) hx hb dX8_digest_11 (by decide) (fun c_11 => ?_) (fun c_11 => ?_)
      · skip
        refine lv_lload hx hb dX8_digest_40 (lv_at hl 4 rfl) ?_
        exact W.lret (v := d) hx hb hr (fun t ht hW => ⟨congrArg (fun z => Outcome.returned (some (Value.long z))) ((by rw [hd, d8_end hz hfr hn (by omega) h2 c_11])), ht⟩) (fun _ h => by cases h) dX8_digest_42
      · skip
        refine lv_lload hx hb dX8_digest_14 (lv_at hl 4 rfl) ?_
        refine lv_aload_n hx hb dX8_digest_16 rfl (lv_at hl 0 rfl) ?_
        refine lv_iload hx hb dX8_digest_17 (lv_at hl 5 rfl) ?_
        refine va_iald hx hb hK hP 0 0 rfl rfl (by rw [hz]; exact vp_in_nI (by have := d8_lt hz hfr hn (by omega) h2 c_11; omega) (by omega)) dX8_digest_19 ?_
        refine lv_i2l hx hb dX8_digest_20 rfl ?_
        refine rq_call1 (v := .long (dg d ((af z.toNatClampNeg).toInt64))) (rn_S (As := [.long d, .long (af z.toNatClampNeg).toInt64]) (rest := []) ⟨hx, hb, hml, hown, hts⟩ (c_X8_on l D cA d ((af z.toNatClampNeg).toInt64)) (va_cwS 2 hts gX8_digest_X8_on rfl rfl rfl (by decide +kernel) ⟨Nat.le_of_ble_eq_true rfl, Nat.le_of_ble_eq_true rfl⟩) hK hP [] rfl rfl hl.1 rfl (Nat.le_of_ble_eq_true rfl) dX8_digest_21 ⟨Nat.le_of_ble_eq_true rfl, Nat.le_of_ble_eq_true rfl⟩) ?_
        refine lv_aload_n hx hb dX8_digest_24 rfl (lv_at hl 1 rfl) ?_
        refine lv_iload hx hb dX8_digest_25 (lv_at hl 5 rfl) ?_
        refine va_iald hx hb hK hP 1 0 rfl rfl (by rw [hz]; exact vp_in_nI (by have := d8_lt hz hfr hn (by omega) h2 c_11; omega) (by omega)) dX8_digest_27 ?_
        refine lv_i2l hx hb dX8_digest_28 rfl ?_
        refine rq_call1 (v := .long (dg (dg d ((af z.toNatClampNeg).toInt64)) ((bf z.toNatClampNeg).toInt64))) (rn_S (As := [.long (dg d ((af z.toNatClampNeg).toInt64)), .long (bf z.toNatClampNeg).toInt64]) (rest := []) ⟨hx, hb, hml, hown, hts⟩ (c_X8_on l D cA (dg d ((af z.toNatClampNeg).toInt64)) ((bf z.toNatClampNeg).toInt64)) (va_cwS 2 hts gX8_digest_X8_on rfl rfl rfl (by decide +kernel) ⟨Nat.le_of_ble_eq_true rfl, Nat.le_of_ble_eq_true rfl⟩) hK hP [] rfl rfl hl.1 rfl (Nat.le_of_ble_eq_true rfl) dX8_digest_29 ⟨Nat.le_of_ble_eq_true rfl, Nat.le_of_ble_eq_true rfl⟩) ?_
        refine lv_lstore (lv' := [(4, .long (dg (dg d ((af z.toNatClampNeg).toInt64)) ((bf z.toNatClampNeg).toInt64))), (0, .ref aa), (1, .ref ab), (2, .int fr), (3, .int n), (6, .int z)]) hx hb dX8_digest_32 hl (by decide) rfl (fun ls hl => ?_)
        refine lv_iinc (v := (z + 1)) (lv' := [(6, .int (z + 1)), (4, .long (dg (dg d ((af z.toNatClampNeg).toInt64)) ((bf z.toNatClampNeg).toInt64))), (0, .ref aa), (1, .ref ab), (2, .int fr), (3, .int n)]) hx hb dX8_digest_34 hl (k := 5) rfl rfl (by decide) rfl (fun ls hl => ?_)
        refine lv_goto (tgt := 6) hx hb dX8_digest_37 (by decide) ?_
        have hk := d8_lt hz hfr hn (by omega) h2 c_11
        exact ih (k + 1) (z + 1) _ (st_1 hz) (by omega) (by omega) (d8_next hz (by omega) hd) ls (lv_sub hl [2, 3, 4, 5, 1, 0] rfl)
  exact loop6 (n0 + 1) 0 fr 0 hfr (by omega) (by omega) rfl ls (lv_sub hl [2, 3, 4, 5, 1, 0] rfl)
