theorem dX8_times_0 : decode cX8_times 0 = .ok (.iload_n 1, 1) := by decide +kernel
theorem dX8_times_1 : decode cX8_times 1 = .ok (.i2l, 1) := by decide +kernel
theorem dX8_times_2 : decode cX8_times 2 = .ok (.iload_n 2, 1) := by decide +kernel
theorem dX8_times_3 : decode cX8_times 3 = .ok (.i2l, 1) := by decide +kernel
theorem dX8_times_4 : decode cX8_times 4 = .ok (.lmul, 1) := by decide +kernel
theorem dX8_times_5 : decode cX8_times 5 = .ok (.aload_n 0, 1) := by decide +kernel
theorem dX8_times_6 : decode cX8_times 6 = .ok (.getfield 99, 3) := by decide +kernel
theorem dX8_times_9 : decode cX8_times 9 = .ok (.i2l, 1) := by decide +kernel
theorem dX8_times_10 : decode cX8_times 10 = .ok (.lrem, 1) := by decide +kernel
theorem dX8_times_11 : decode cX8_times 11 = .ok (.l2i, 1) := by decide +kernel
theorem dX8_times_12 : decode cX8_times 12 = .ok (.ireturn, 1) := by decide +kernel
set_option maxRecDepth 20000 in
theorem ggX8_power_X8_times : GoodIn wsX8_power wsX8_times := goodIn_r _ [5, 6, 7, 8, 9, 10, 11, 12, 13, 14, 15, 16, 17, 18, 19, 20, 21, 22, 23, 24, 25, 26, 27, 28, 29, 30, 31, 32, 33, 34, 35, 36, 37, 38, 39, 40, 41, 42, 43, 44, 45, 46, 47, 48, 49, 50] (by decide +kernel) (by decide +kernel)
set_option maxRecDepth 20000 in
theorem gX8_power_X8_times : GoodIn wsX8_power (wsV RX8 118 RX8 yX8_times wsX8_times) := goodIn_app (goodIn_of _ (by decide +kernel)) ggX8_power_X8_times
theorem dX8_power_0 : decode cX8_power 0 = .ok (.iconst 1, 1) := by decide +kernel
theorem dX8_power_1 : decode cX8_power 1 = .ok (.istore_n 3, 1) := by decide +kernel
theorem dX8_power_2 : decode cX8_power 2 = .ok (.iload_n 1, 1) := by decide +kernel
theorem dX8_power_3 : decode cX8_power 3 = .ok (.istore 4, 2) := by decide +kernel
theorem dX8_power_5 : decode cX8_power 5 = .ok (.iload_n 2, 1) := by decide +kernel
theorem dX8_power_6 : decode cX8_power 6 = .ok (.istore 5, 2) := by decide +kernel
theorem dX8_power_8 : decode cX8_power 8 = .ok (.iload 5, 2) := by decide +kernel
theorem dX8_power_10 : decode cX8_power 10 = .ok (.ifCond .le 38, 3) := by decide +kernel
theorem dX8_power_13 : decode cX8_power 13 = .ok (.iload 5, 2) := by decide +kernel
theorem dX8_power_15 : decode cX8_power 15 = .ok (.iconst 2, 1) := by decide +kernel
theorem dX8_power_16 : decode cX8_power 16 = .ok (.irem, 1) := by decide +kernel
theorem dX8_power_17 : decode cX8_power 17 = .ok (.iconst 1, 1) := by decide +kernel
theorem dX8_power_18 : decode cX8_power 18 = .ok (.if_icmp .ne 11, 3) := by decide +kernel
theorem dX8_power_21 : decode cX8_power 21 = .ok (.aload_n 0, 1) := by decide +kernel
theorem dX8_power_22 : decode cX8_power 22 = .ok (.iload_n 3, 1) := by decide +kernel
theorem dX8_power_23 : decode cX8_power 23 = .ok (.iload 4, 2) := by decide +kernel
theorem dX8_power_25 : decode cX8_power 25 = .ok (.invokevirtual 118, 3) := by decide +kernel
theorem dX8_power_28 : decode cX8_power 28 = .ok (.istore_n 3, 1) := by decide +kernel
theorem dX8_power_29 : decode cX8_power 29 = .ok (.aload_n 0, 1) := by decide +kernel
theorem dX8_power_30 : decode cX8_power 30 = .ok (.iload 4, 2) := by decide +kernel
theorem dX8_power_32 : decode cX8_power 32 = .ok (.iload 4, 2) := by decide +kernel
theorem dX8_power_34 : decode cX8_power 34 = .ok (.invokevirtual 118, 3) := by decide +kernel
theorem dX8_power_37 : decode cX8_power 37 = .ok (.istore 4, 2) := by decide +kernel
theorem dX8_power_39 : decode cX8_power 39 = .ok (.iload 5, 2) := by decide +kernel
theorem dX8_power_41 : decode cX8_power 41 = .ok (.iconst 2, 1) := by decide +kernel
theorem dX8_power_42 : decode cX8_power 42 = .ok (.idiv, 1) := by decide +kernel
theorem dX8_power_43 : decode cX8_power 43 = .ok (.istore 5, 2) := by decide +kernel
theorem dX8_power_45 : decode cX8_power 45 = .ok (.goto (-37), 3) := by decide +kernel
theorem dX8_power_48 : decode cX8_power 48 = .ok (.iload_n 3, 1) := by decide +kernel
theorem dX8_power_49 : decode cX8_power 49 = .ok (.ireturn, 1) := by decide +kernel
set_option maxRecDepth 20000 in
theorem ggX8_isExponent_X8_in : GoodIn wsX8_isExponent wsX8_in := goodIn_r _ [5] (by decide +kernel) (by decide +kernel)
set_option maxRecDepth 20000 in
theorem gX8_isExponent_X8_in : GoodIn wsX8_isExponent (va_wsS RX8 122 yX8_in wsX8_in) := goodIn_app (goodIn_of _ (by decide +kernel)) ggX8_isExponent_X8_in
theorem dX8_isExponent_0 : decode cX8_isExponent 0 = .ok (.iload_n 1, 1) := by decide +kernel
theorem dX8_isExponent_1 : decode cX8_isExponent 1 = .ok (.iconst 0, 1) := by decide +kernel
theorem dX8_isExponent_2 : decode cX8_isExponent 2 = .ok (.aload_n 0, 1) := by decide +kernel
theorem dX8_isExponent_3 : decode cX8_isExponent 3 = .ok (.getfield 103, 3) := by decide +kernel
theorem dX8_isExponent_6 : decode cX8_isExponent 6 = .ok (.iconst 1, 1) := by decide +kernel
theorem dX8_isExponent_7 : decode cX8_isExponent 7 = .ok (.isub, 1) := by decide +kernel
theorem dX8_isExponent_8 : decode cX8_isExponent 8 = .ok (.invokestatic 122, 3) := by decide +kernel
theorem dX8_isExponent_11 : decode cX8_isExponent 11 = .ok (.ireturn, 1) := by decide +kernel
theorem dX8_on_0 : decode cX8_on 0 = .ok (.lload_n 0, 1) := by decide +kernel
theorem dX8_on_1 : decode cX8_on 1 = .ok (.lload_n 2, 1) := by decide +kernel
theorem dX8_on_2 : decode cX8_on 2 = .ok (.lxor, 1) := by decide +kernel
theorem dX8_on_3 : decode cX8_on 3 = .ok (.ldc2_w 129, 3) := by decide +kernel
theorem dX8_on_6 : decode cX8_on 6 = .ok (.lmul, 1) := by decide +kernel
theorem dX8_on_7 : decode cX8_on 7 = .ok (.lreturn, 1) := by decide +kernel
set_option maxRecDepth 20000 in
theorem ggX8_enter_X8_on : GoodIn wsX8_enter wsX8_on := goodIn_r _ [11, 12] (by decide +kernel) (by decide +kernel)
set_option maxRecDepth 20000 in
theorem gX8_enter_X8_on : GoodIn wsX8_enter (va_wsS RX8 131 yX8_on wsX8_on) := goodIn_app (goodIn_of _ (by decide +kernel)) ggX8_enter_X8_on
theorem dX8_enter_0 : decode cX8_enter 0 = .ok (.aload_n 0, 1) := by decide +kernel
theorem dX8_enter_1 : decode cX8_enter 1 = .ok (.getfield 74, 3) := by decide +kernel
theorem dX8_enter_4 : decode cX8_enter 4 = .ok (.aload_n 0, 1) := by decide +kernel
theorem dX8_enter_5 : decode cX8_enter 5 = .ok (.getfield 135, 3) := by decide +kernel
theorem dX8_enter_8 : decode cX8_enter 8 = .ok (.iload_n 1, 1) := by decide +kernel
theorem dX8_enter_9 : decode cX8_enter 9 = .ok (.iastore, 1) := by decide +kernel
theorem dX8_enter_10 : decode cX8_enter 10 = .ok (.aload_n 0, 1) := by decide +kernel
theorem dX8_enter_11 : decode cX8_enter 11 = .ok (.getfield 77, 3) := by decide +kernel
theorem dX8_enter_14 : decode cX8_enter 14 = .ok (.aload_n 0, 1) := by decide +kernel
theorem dX8_enter_15 : decode cX8_enter 15 = .ok (.getfield 135, 3) := by decide +kernel
theorem dX8_enter_18 : decode cX8_enter 18 = .ok (.lload_n 2, 1) := by decide +kernel
theorem dX8_enter_19 : decode cX8_enter 19 = .ok (.lastore, 1) := by decide +kernel
theorem dX8_enter_20 : decode cX8_enter 20 = .ok (.aload_n 0, 1) := by decide +kernel
theorem dX8_enter_21 : decode cX8_enter 21 = .ok (.getfield 81, 3) := by decide +kernel
theorem dX8_enter_24 : decode cX8_enter 24 = .ok (.aload_n 0, 1) := by decide +kernel
theorem dX8_enter_25 : decode cX8_enter 25 = .ok (.getfield 135, 3) := by decide +kernel
theorem dX8_enter_28 : decode cX8_enter 28 = .ok (.lload 4, 2) := by decide +kernel
theorem dX8_enter_30 : decode cX8_enter 30 = .ok (.lastore, 1) := by decide +kernel
theorem dX8_enter_31 : decode cX8_enter 31 = .ok (.aload_n 0, 1) := by decide +kernel
theorem dX8_enter_32 : decode cX8_enter 32 = .ok (.getfield 84, 3) := by decide +kernel
theorem dX8_enter_35 : decode cX8_enter 35 = .ok (.aload_n 0, 1) := by decide +kernel
theorem dX8_enter_36 : decode cX8_enter 36 = .ok (.getfield 135, 3) := by decide +kernel
theorem dX8_enter_39 : decode cX8_enter 39 = .ok (.lload 6, 2) := by decide +kernel
theorem dX8_enter_41 : decode cX8_enter 41 = .ok (.lastore, 1) := by decide +kernel
theorem dX8_enter_42 : decode cX8_enter 42 = .ok (.aload_n 0, 1) := by decide +kernel
theorem dX8_enter_43 : decode cX8_enter 43 = .ok (.getfield 135, 3) := by decide +kernel
theorem dX8_enter_46 : decode cX8_enter 46 = .ok (.ifCond .ne 9, 3) := by decide +kernel
theorem dX8_enter_49 : decode cX8_enter 49 = .ok (.ldc2_w 138, 3) := by decide +kernel
theorem dX8_enter_52 : decode cX8_enter 52 = .ok (.goto 14, 3) := by decide +kernel
theorem dX8_enter_55 : decode cX8_enter 55 = .ok (.aload_n 0, 1) := by decide +kernel
theorem dX8_enter_56 : decode cX8_enter 56 = .ok (.getfield 87, 3) := by decide +kernel
theorem dX8_enter_59 : decode cX8_enter 59 = .ok (.aload_n 0, 1) := by decide +kernel
theorem dX8_enter_60 : decode cX8_enter 60 = .ok (.getfield 135, 3) := by decide +kernel
theorem dX8_enter_63 : decode cX8_enter 63 = .ok (.iconst 1, 1) := by decide +kernel
theorem dX8_enter_64 : decode cX8_enter 64 = .ok (.isub, 1) := by decide +kernel
theorem dX8_enter_65 : decode cX8_enter 65 = .ok (.laload, 1) := by decide +kernel
theorem dX8_enter_66 : decode cX8_enter 66 = .ok (.lstore 8, 2) := by decide +kernel
theorem dX8_enter_68 : decode cX8_enter 68 = .ok (.aload_n 0, 1) := by decide +kernel
theorem dX8_enter_69 : decode cX8_enter 69 = .ok (.getfield 87, 3) := by decide +kernel
theorem dX8_enter_72 : decode cX8_enter 72 = .ok (.aload_n 0, 1) := by decide +kernel
theorem dX8_enter_73 : decode cX8_enter 73 = .ok (.getfield 135, 3) := by decide +kernel
theorem dX8_enter_76 : decode cX8_enter 76 = .ok (.lload 8, 2) := by decide +kernel
theorem dX8_enter_78 : decode cX8_enter 78 = .ok (.iload_n 1, 1) := by decide +kernel
theorem dX8_enter_79 : decode cX8_enter 79 = .ok (.i2l, 1) := by decide +kernel
theorem dX8_enter_80 : decode cX8_enter 80 = .ok (.invokestatic 131, 3) := by decide +kernel
theorem dX8_enter_83 : decode cX8_enter 83 = .ok (.lload_n 2, 1) := by decide +kernel
theorem dX8_enter_84 : decode cX8_enter 84 = .ok (.invokestatic 131, 3) := by decide +kernel
theorem dX8_enter_87 : decode cX8_enter 87 = .ok (.lload 4, 2) := by decide +kernel
theorem dX8_enter_89 : decode cX8_enter 89 = .ok (.invokestatic 131, 3) := by decide +kernel
theorem dX8_enter_92 : decode cX8_enter 92 = .ok (.lload 6, 2) := by decide +kernel
theorem dX8_enter_94 : decode cX8_enter 94 = .ok (.invokestatic 131, 3) := by decide +kernel
theorem dX8_enter_97 : decode cX8_enter 97 = .ok (.lastore, 1) := by decide +kernel
theorem dX8_enter_98 : decode cX8_enter 98 = .ok (.aload_n 0, 1) := by decide +kernel
theorem dX8_enter_99 : decode cX8_enter 99 = .ok (.dup, 1) := by decide +kernel
theorem dX8_enter_100 : decode cX8_enter 100 = .ok (.getfield 135, 3) := by decide +kernel
theorem dX8_enter_103 : decode cX8_enter 103 = .ok (.iconst 1, 1) := by decide +kernel
theorem dX8_enter_104 : decode cX8_enter 104 = .ok (.iadd, 1) := by decide +kernel
theorem dX8_enter_105 : decode cX8_enter 105 = .ok (.putfield 135, 3) := by decide +kernel
theorem dX8_enter_108 : decode cX8_enter 108 = .ok (.aload_n 0, 1) := by decide +kernel
theorem dX8_enter_109 : decode cX8_enter 109 = .ok (.getfield 87, 3) := by decide +kernel
theorem dX8_enter_112 : decode cX8_enter 112 = .ok (.aload_n 0, 1) := by decide +kernel
theorem dX8_enter_113 : decode cX8_enter 113 = .ok (.getfield 135, 3) := by decide +kernel
theorem dX8_enter_116 : decode cX8_enter 116 = .ok (.iconst 1, 1) := by decide +kernel
theorem dX8_enter_117 : decode cX8_enter 117 = .ok (.isub, 1) := by decide +kernel
theorem dX8_enter_118 : decode cX8_enter 118 = .ok (.laload, 1) := by decide +kernel
theorem dX8_enter_119 : decode cX8_enter 119 = .ok (.lreturn, 1) := by decide +kernel
set_option maxRecDepth 20000 in
theorem ggX8_secret_X8_in : GoodIn wsX8_secret wsX8_in := goodIn_r _ [7] (by decide +kernel) (by decide +kernel)
set_option maxRecDepth 20000 in
theorem gX8_secret_X8_in : GoodIn wsX8_secret (va_wsS RX8 122 yX8_in wsX8_in) := goodIn_app (goodIn_of _ (by decide +kernel)) ggX8_secret_X8_in
set_option maxRecDepth 20000 in
theorem ggX8_secret_X8_isExponent : GoodIn wsX8_secret wsX8_isExponent := goodIn_r _ [11, 12, 4, 5, 6, 7, 13, 14, 15, 16, 17, 18, 19, 20, 21, 22, 23, 24, 25, 26, 27, 28, 29, 30, 31, 32, 33, 34, 35, 36, 37, 38, 39, 40, 41, 42, 43, 44, 45, 46, 47, 48, 49, 50, 51, 52, 53, 54, 55, 56] (by decide +kernel) (by decide +kernel)
set_option maxRecDepth 20000 in
theorem gX8_secret_X8_isExponent : GoodIn wsX8_secret (wsV RX8 143 RX8 yX8_isExponent wsX8_isExponent) := goodIn_app (goodIn_of _ (by decide +kernel)) ggX8_secret_X8_isExponent
theorem dX8_secret_0 : decode cX8_secret 0 = .ok (.aload_n 0, 1) := by decide +kernel
theorem dX8_secret_1 : decode cX8_secret 1 = .ok (.getfield 140, 3) := by decide +kernel
theorem dX8_secret_4 : decode cX8_secret 4 = .ok (.ifCond .ne 33, 3) := by decide +kernel
theorem dX8_secret_7 : decode cX8_secret 7 = .ok (.iload_n 1, 1) := by decide +kernel
theorem dX8_secret_8 : decode cX8_secret 8 = .ok (.iconst 0, 1) := by decide +kernel
theorem dX8_secret_9 : decode cX8_secret 9 = .ok (.aload_n 0, 1) := by decide +kernel
theorem dX8_secret_10 : decode cX8_secret 10 = .ok (.getfield 112, 3) := by decide +kernel
theorem dX8_secret_13 : decode cX8_secret 13 = .ok (.iconst 1, 1) := by decide +kernel
theorem dX8_secret_14 : decode cX8_secret 14 = .ok (.isub, 1) := by decide +kernel
theorem dX8_secret_15 : decode cX8_secret 15 = .ok (.invokestatic 122, 3) := by decide +kernel
theorem dX8_secret_18 : decode cX8_secret 18 = .ok (.ifCond .eq 19, 3) := by decide +kernel
theorem dX8_secret_21 : decode cX8_secret 21 = .ok (.aload_n 0, 1) := by decide +kernel
theorem dX8_secret_22 : decode cX8_secret 22 = .ok (.iload_n 2, 1) := by decide +kernel
theorem dX8_secret_23 : decode cX8_secret 23 = .ok (.invokevirtual 143, 3) := by decide +kernel
theorem dX8_secret_26 : decode cX8_secret 26 = .ok (.ifCond .eq 11, 3) := by decide +kernel
theorem dX8_secret_29 : decode cX8_secret 29 = .ok (.iload_n 1, 1) := by decide +kernel
theorem dX8_secret_30 : decode cX8_secret 30 = .ok (.ifCond .ne 9, 3) := by decide +kernel
theorem dX8_secret_33 : decode cX8_secret 33 = .ok (.iload_n 2, 1) := by decide +kernel
theorem dX8_secret_34 : decode cX8_secret 34 = .ok (.ifCond .ne 5, 3) := by decide +kernel
theorem dX8_secret_37 : decode cX8_secret 37 = .ok (.iconst 0, 1) := by decide +kernel
theorem dX8_secret_38 : decode cX8_secret 38 = .ok (.ireturn, 1) := by decide +kernel
theorem dX8_secret_39 : decode cX8_secret 39 = .ok (.aload_n 0, 1) := by decide +kernel
theorem dX8_secret_40 : decode cX8_secret 40 = .ok (.getfield 7, 3) := by decide +kernel
theorem dX8_secret_43 : decode cX8_secret 43 = .ok (.iload_n 1, 1) := by decide +kernel
theorem dX8_secret_44 : decode cX8_secret 44 = .ok (.iload_n 2, 1) := by decide +kernel
theorem dX8_secret_45 : decode cX8_secret 45 = .ok (.iastore, 1) := by decide +kernel
theorem dX8_secret_46 : decode cX8_secret 46 = .ok (.iconst 1, 1) := by decide +kernel
theorem dX8_secret_47 : decode cX8_secret 47 = .ok (.ireturn, 1) := by decide +kernel
set_option maxRecDepth 20000 in
theorem ggX8_key_X8_power : GoodIn wsX8_key wsX8_power := goodIn_r _ [10, 11, 12, 13, 9, 14, 15, 31, 32, 33, 34, 35, 36, 37, 38, 39, 40, 41, 42, 43, 44, 45, 46, 47, 48, 49, 50, 51, 52, 53, 54, 55, 56, 57, 58, 59, 60, 61, 62, 63, 64, 65, 66, 67, 68, 69, 70, 71, 72, 73, 74] (by decide +kernel) (by decide +kernel)
set_option maxRecDepth 20000 in
theorem gX8_key_X8_power : GoodIn wsX8_key (wsV RX8 126 RX8 yX8_power wsX8_power) := goodIn_app (goodIn_of _ (by decide +kernel)) ggX8_key_X8_power
set_option maxRecDepth 20000 in
theorem ggX8_key_X8_enter : GoodIn wsX8_key wsX8_enter := goodIn_r _ [19, 20, 21, 22, 23, 24, 25, 26, 27, 28, 9, 29, 30, 31, 32, 33, 34, 35, 36, 37, 38, 39, 40, 41, 42, 43, 44, 45, 46, 47, 48, 49, 50, 51, 52, 53, 54, 55, 56, 57, 58, 59, 60, 61, 62, 63, 64, 65, 66, 67, 68, 69, 70, 71, 72, 73, 74] (by decide +kernel) (by decide +kernel)
set_option maxRecDepth 20000 in
theorem gX8_key_X8_enter : GoodIn wsX8_key (wsV RX8 149 RX8 yX8_enter wsX8_enter) := goodIn_app (goodIn_of _ (by decide +kernel)) ggX8_key_X8_enter
theorem dX8_key_0 : decode cX8_key 0 = .ok (.aload_n 0, 1) := by decide +kernel
theorem dX8_key_1 : decode cX8_key 1 = .ok (.getfield 140, 3) := by decide +kernel
theorem dX8_key_4 : decode cX8_key 4 = .ok (.ifCond .eq 5, 3) := by decide +kernel
theorem dX8_key_9 : decode cX8_key 9 = .ok (.aload_n 0, 1) := by decide +kernel
theorem dX8_key_10 : decode cX8_key 10 = .ok (.aload_n 0, 1) := by decide +kernel
theorem dX8_key_11 : decode cX8_key 11 = .ok (.iconst 4, 1) := by decide +kernel
theorem dX8_key_12 : decode cX8_key 12 = .ok (.aload_n 0, 1) := by decide +kernel
theorem dX8_key_13 : decode cX8_key 13 = .ok (.getfield 7, 3) := by decide +kernel
theorem dX8_key_16 : decode cX8_key 16 = .ok (.iconst 0, 1) := by decide +kernel
theorem dX8_key_17 : decode cX8_key 17 = .ok (.iaload, 1) := by decide +kernel
theorem dX8_key_18 : decode cX8_key 18 = .ok (.invokevirtual 126, 3) := by decide +kernel
theorem dX8_key_21 : decode cX8_key 21 = .ok (.putfield 146, 3) := by decide +kernel
theorem dX8_key_24 : decode cX8_key 24 = .ok (.aload_n 0, 1) := by decide +kernel
theorem dX8_key_25 : decode cX8_key 25 = .ok (.iconst 1, 1) := by decide +kernel
theorem dX8_key_26 : decode cX8_key 26 = .ok (.putfield 140, 3) := by decide +kernel
theorem dX8_key_29 : decode cX8_key 29 = .ok (.aload_n 0, 1) := by decide +kernel
theorem dX8_key_30 : decode cX8_key 30 = .ok (.iconst 1, 1) := by decide +kernel
theorem dX8_key_31 : decode cX8_key 31 = .ok (.aload_n 0, 1) := by decide +kernel
theorem dX8_key_32 : decode cX8_key 32 = .ok (.getfield 146, 3) := by decide +kernel
theorem dX8_key_35 : decode cX8_key 35 = .ok (.i2l, 1) := by decide +kernel
theorem dX8_key_36 : decode cX8_key 36 = .ok (.aload_n 0, 1) := by decide +kernel
theorem dX8_key_37 : decode cX8_key 37 = .ok (.getfield 109, 3) := by decide +kernel
theorem dX8_key_40 : decode cX8_key 40 = .ok (.i2l, 1) := by decide +kernel
theorem dX8_key_41 : decode cX8_key 41 = .ok (.aload_n 0, 1) := by decide +kernel
theorem dX8_key_42 : decode cX8_key 42 = .ok (.getfield 112, 3) := by decide +kernel
theorem dX8_key_45 : decode cX8_key 45 = .ok (.i2l, 1) := by decide +kernel
theorem dX8_key_46 : decode cX8_key 46 = .ok (.invokevirtual 149, 3) := by decide +kernel
theorem dX8_key_49 : decode cX8_key 49 = .ok (.lstore_n 1, 1) := by decide +kernel
theorem dX8_key_50 : decode cX8_key 50 = .ok (.aload_n 0, 1) := by decide +kernel
theorem dX8_key_51 : decode cX8_key 51 = .ok (.getfield 146, 3) := by decide +kernel
theorem dX8_key_54 : decode cX8_key 54 = .ok (.ireturn, 1) := by decide +kernel
theorem dX8_voter_0 : decode cX8_voter 0 = .ok (.aload_n 0, 1) := by decide +kernel
theorem dX8_voter_1 : decode cX8_voter 1 = .ok (.getfield 153, 3) := by decide +kernel
theorem dX8_voter_4 : decode cX8_voter 4 = .ok (.bipush 40, 2) := by decide +kernel
theorem dX8_voter_6 : decode cX8_voter 6 = .ok (.if_icmp .eq 11, 3) := by decide +kernel
theorem dX8_voter_9 : decode cX8_voter 9 = .ok (.aload_n 0, 1) := by decide +kernel
theorem dX8_voter_10 : decode cX8_voter 10 = .ok (.getfield 140, 3) := by decide +kernel
theorem dX8_voter_13 : decode cX8_voter 13 = .ok (.iconst 1, 1) := by decide +kernel
theorem dX8_voter_14 : decode cX8_voter 14 = .ok (.if_icmp .le 5, 3) := by decide +kernel
theorem dX8_voter_19 : decode cX8_voter 19 = .ok (.aload_n 0, 1) := by decide +kernel
theorem dX8_voter_20 : decode cX8_voter 20 = .ok (.dup, 1) := by decide +kernel
theorem dX8_voter_21 : decode cX8_voter 21 = .ok (.getfield 153, 3) := by decide +kernel
theorem dX8_voter_24 : decode cX8_voter 24 = .ok (.iconst 1, 1) := by decide +kernel
theorem dX8_voter_25 : decode cX8_voter 25 = .ok (.iadd, 1) := by decide +kernel
theorem dX8_voter_26 : decode cX8_voter 26 = .ok (.putfield 153, 3) := by decide +kernel
theorem dX8_voter_29 : decode cX8_voter 29 = .ok (.aload_n 0, 1) := by decide +kernel
theorem dX8_voter_30 : decode cX8_voter 30 = .ok (.getfield 153, 3) := by decide +kernel
theorem dX8_voter_33 : decode cX8_voter 33 = .ok (.iconst 1, 1) := by decide +kernel
theorem dX8_voter_34 : decode cX8_voter 34 = .ok (.isub, 1) := by decide +kernel
theorem dX8_voter_35 : decode cX8_voter 35 = .ok (.ireturn, 1) := by decide +kernel
theorem dX8_mayCast_0 : decode cX8_mayCast 0 = .ok (.aload_n 0, 1) := by decide +kernel
theorem dX8_mayCast_1 : decode cX8_mayCast 1 = .ok (.getfield 140, 3) := by decide +kernel
theorem dX8_mayCast_4 : decode cX8_mayCast 4 = .ok (.iconst 1, 1) := by decide +kernel
theorem dX8_mayCast_5 : decode cX8_mayCast 5 = .ok (.if_icmp .ne 31, 3) := by decide +kernel
theorem dX8_mayCast_36 : decode cX8_mayCast 36 = .ok (.iconst 0, 1) := by decide +kernel
theorem dX8_mayCast_37 : decode cX8_mayCast 37 = .ok (.ireturn, 1) := by decide +kernel
set_option maxRecDepth 20000 in
theorem ggX8_cast_X8_mayCast : GoodIn wsX8_cast wsX8_mayCast := goodIn_r _ [7, 8, 9, 10, 11, 12, 6, 13, 53, 54, 55, 56, 57, 58, 59, 60, 61, 62, 63, 64, 65, 66, 67, 68, 69, 70, 71, 72, 73, 74, 75, 76, 77, 78, 79, 80, 81, 82, 83, 84, 85, 86, 87, 88, 89, 90, 91, 92, 93, 94, 95, 96] (by decide +kernel) (by decide +kernel)
set_option maxRecDepth 20000 in
theorem gX8_cast_X8_mayCast : GoodIn wsX8_cast (wsV RX8 156 RX8 yX8_mayCast wsX8_mayCast) := goodIn_app (goodIn_of _ (by decide +kernel)) ggX8_cast_X8_mayCast
theorem dX8_cast_0 : decode cX8_cast 0 = .ok (.aload_n 0, 1) := by decide +kernel
theorem dX8_cast_1 : decode cX8_cast 1 = .ok (.iload_n 1, 1) := by decide +kernel
theorem dX8_cast_2 : decode cX8_cast 2 = .ok (.invokevirtual 156, 3) := by decide +kernel
theorem dX8_cast_5 : decode cX8_cast 5 = .ok (.ifCond .eq 25, 3) := by decide +kernel
theorem dX8_cast_30 : decode cX8_cast 30 = .ok (.lconst 0, 1) := by decide +kernel
theorem dX8_cast_31 : decode cX8_cast 31 = .ok (.lreturn, 1) := by decide +kernel
set_option maxRecDepth 20000 in
theorem ggX8_castPair_X8_mayCast : GoodIn wsX8_castPair wsX8_mayCast := goodIn_r _ [5, 6, 7, 8, 9, 10, 4, 11, 47, 48, 49, 50, 51, 52, 53, 54, 55, 56, 57, 58, 59, 60, 61, 62, 63, 64, 65, 66, 67, 68, 69, 70, 71, 72, 73, 74, 75, 76, 77, 78, 79, 80, 81, 82, 83, 84, 85, 86, 87, 88, 89, 90] (by decide +kernel) (by decide +kernel)
set_option maxRecDepth 20000 in
theorem gX8_castPair_X8_mayCast : GoodIn wsX8_castPair (wsV RX8 156 RX8 yX8_mayCast wsX8_mayCast) := goodIn_app (goodIn_of _ (by decide +kernel)) ggX8_castPair_X8_mayCast
theorem dX8_castPair_0 : decode cX8_castPair 0 = .ok (.aload_n 0, 1) := by decide +kernel
theorem dX8_castPair_1 : decode cX8_castPair 1 = .ok (.iload_n 1, 1) := by decide +kernel
theorem dX8_castPair_2 : decode cX8_castPair 2 = .ok (.invokevirtual 156, 3) := by decide +kernel
theorem dX8_castPair_5 : decode cX8_castPair 5 = .ok (.ifCond .eq 29, 3) := by decide +kernel
theorem dX8_castPair_34 : decode cX8_castPair 34 = .ok (.lconst 0, 1) := by decide +kernel
theorem dX8_castPair_35 : decode cX8_castPair 35 = .ok (.lreturn, 1) := by decide +kernel
theorem dX8_close_0 : decode cX8_close 0 = .ok (.aload_n 0, 1) := by decide +kernel
theorem dX8_close_1 : decode cX8_close 1 = .ok (.getfield 140, 3) := by decide +kernel
theorem dX8_close_4 : decode cX8_close 4 = .ok (.iconst 1, 1) := by decide +kernel
theorem dX8_close_5 : decode cX8_close 5 = .ok (.if_icmp .eq 5, 3) := by decide +kernel
theorem dX8_close_8 : decode cX8_close 8 = .ok (.iconst (-1), 1) := by decide +kernel
theorem dX8_close_9 : decode cX8_close 9 = .ok (.ireturn, 1) := by decide +kernel
theorem dX8_place_0 : decode cX8_place 0 = .ok (.aload_n 0, 1) := by decide +kernel
theorem dX8_place_1 : decode cX8_place 1 = .ok (.getfield 140, 3) := by decide +kernel
theorem dX8_place_4 : decode cX8_place 4 = .ok (.iconst 2, 1) := by decide +kernel
theorem dX8_place_5 : decode cX8_place 5 = .ok (.if_icmp .ne 39, 3) := by decide +kernel
theorem dX8_place_44 : decode cX8_place 44 = .ok (.iconst 0, 1) := by decide +kernel
theorem dX8_place_45 : decode cX8_place 45 = .ok (.ireturn, 1) := by decide +kernel
theorem dX8_forge_0 : decode cX8_forge 0 = .ok (.aload_n 0, 1) := by decide +kernel
theorem dX8_forge_1 : decode cX8_forge 1 = .ok (.getfield 140, 3) := by decide +kernel
theorem dX8_forge_4 : decode cX8_forge 4 = .ok (.iconst 2, 1) := by decide +kernel
theorem dX8_forge_5 : decode cX8_forge 5 = .ok (.if_icmp .ne 33, 3) := by decide +kernel
theorem dX8_forge_38 : decode cX8_forge 38 = .ok (.iconst 0, 1) := by decide +kernel
theorem dX8_forge_39 : decode cX8_forge 39 = .ok (.ireturn, 1) := by decide +kernel
theorem dX8_mayStage_0 : decode cX8_mayStage 0 = .ok (.aload_n 0, 1) := by decide +kernel
theorem dX8_mayStage_1 : decode cX8_mayStage 1 = .ok (.getfield 140, 3) := by decide +kernel
theorem dX8_mayStage_4 : decode cX8_mayStage 4 = .ok (.iconst 2, 1) := by decide +kernel
theorem dX8_mayStage_5 : decode cX8_mayStage 5 = .ok (.if_icmp .ne 28, 3) := by decide +kernel
theorem dX8_mayStage_33 : decode cX8_mayStage 33 = .ok (.iconst 0, 1) := by decide +kernel
theorem dX8_mayStage_34 : decode cX8_mayStage 34 = .ok (.ireturn, 1) := by decide +kernel
set_option maxRecDepth 20000 in
theorem ggX8_mix_X8_mayStage : GoodIn wsX8_mix wsX8_mayStage := goodIn_r _ [19, 20, 21, 22, 23, 24, 25, 18, 26, 2, 3, 67, 68, 69, 70, 71, 72, 73, 74, 75, 76, 77, 78, 79, 80, 81, 82, 83, 84, 85, 86, 87, 88, 89, 90, 91, 92, 93, 94, 95, 96, 97, 98, 99, 100, 101, 102, 103, 104, 105, 106, 107, 108, 109, 110] (by decide +kernel) (by decide +kernel)
set_option maxRecDepth 20000 in
theorem gX8_mix_X8_mayStage : GoodIn wsX8_mix (wsV RX8 188 RX8 yX8_mayStage wsX8_mayStage) := goodIn_app (goodIn_of _ (by decide +kernel)) ggX8_mix_X8_mayStage
theorem dX8_mix_0 : decode cX8_mix 0 = .ok (.aload_n 0, 1) := by decide +kernel
theorem dX8_mix_1 : decode cX8_mix 1 = .ok (.invokevirtual 188, 3) := by decide +kernel
theorem dX8_mix_4 : decode cX8_mix 4 = .ok (.ifCond .eq 11, 3) := by decide +kernel
theorem dX8_mix_15 : decode cX8_mix 15 = .ok (.iconst (-1), 1) := by decide +kernel
theorem dX8_mix_16 : decode cX8_mix 16 = .ok (.ireturn, 1) := by decide +kernel
set_option maxRecDepth 20000 in
theorem ggX8_shadow_X8_mayStage : GoodIn wsX8_shadow wsX8_mayStage := goodIn_r _ [19, 20, 12, 21, 22, 23, 24, 18, 25, 3, 4, 68, 69, 70, 71, 72, 73, 74, 75, 76, 77, 78, 79, 80, 81, 82, 83, 84, 85, 86, 87, 88, 89, 90, 91, 92, 93, 94, 95, 96, 97, 98, 99, 100, 101, 102, 103, 104, 105, 106, 107, 108, 109, 110, 111] (by decide +kernel) (by decide +kernel)
set_option maxRecDepth 20000 in
theorem gX8_shadow_X8_mayStage : GoodIn wsX8_shadow (wsV RX8 188 RX8 yX8_mayStage wsX8_mayStage) := goodIn_app (goodIn_of _ (by decide +kernel)) ggX8_shadow_X8_mayStage
theorem dX8_shadow_0 : decode cX8_shadow 0 = .ok (.aload_n 0, 1) := by decide +kernel
theorem dX8_shadow_1 : decode cX8_shadow 1 = .ok (.invokevirtual 188, 3) := by decide +kernel
theorem dX8_shadow_4 : decode cX8_shadow 4 = .ok (.ifCond .eq 19, 3) := by decide +kernel
theorem dX8_shadow_23 : decode cX8_shadow 23 = .ok (.iconst (-1), 1) := by decide +kernel
theorem dX8_shadow_24 : decode cX8_shadow 24 = .ok (.ireturn, 1) := by decide +kernel
theorem dX8_coin_0 : decode cX8_coin 0 = .ok (.aload_n 0, 1) := by decide +kernel
theorem dX8_coin_1 : decode cX8_coin 1 = .ok (.getfield 181, 3) := by decide +kernel
theorem dX8_coin_4 : decode cX8_coin 4 = .ok (.ifCond .eq 12, 3) := by decide +kernel
theorem dX8_coin_16 : decode cX8_coin 16 = .ok (.iconst (-1), 1) := by decide +kernel
theorem dX8_coin_17 : decode cX8_coin 17 = .ok (.ireturn, 1) := by decide +kernel
theorem dX8_share_0 : decode cX8_share 0 = .ok (.aload_n 0, 1) := by decide +kernel
theorem dX8_share_1 : decode cX8_share 1 = .ok (.getfield 140, 3) := by decide +kernel
theorem dX8_share_4 : decode cX8_share 4 = .ok (.iconst 2, 1) := by decide +kernel
theorem dX8_share_5 : decode cX8_share 5 = .ok (.if_icmp .ne 38, 3) := by decide +kernel
theorem dX8_share_43 : decode cX8_share 43 = .ok (.iconst (-1), 1) := by decide +kernel
theorem dX8_share_44 : decode cX8_share 44 = .ok (.ireturn, 1) := by decide +kernel
theorem dX8_tally_0 : decode cX8_tally 0 = .ok (.aload_n 0, 1) := by decide +kernel
theorem dX8_tally_1 : decode cX8_tally 1 = .ok (.getfield 140, 3) := by decide +kernel
theorem dX8_tally_4 : decode cX8_tally 4 = .ok (.iconst 2, 1) := by decide +kernel
theorem dX8_tally_5 : decode cX8_tally 5 = .ok (.if_icmp .ne 42, 3) := by decide +kernel
theorem dX8_tally_47 : decode cX8_tally 47 = .ok (.iconst (-1), 1) := by decide +kernel
theorem dX8_tally_48 : decode cX8_tally 48 = .ok (.ireturn, 1) := by decide +kernel
theorem dX8_count_0 : decode cX8_count 0 = .ok (.aload_n 0, 1) := by decide +kernel
theorem dX8_count_1 : decode cX8_count 1 = .ok (.getfield 140, 3) := by decide +kernel
theorem dX8_count_4 : decode cX8_count 4 = .ok (.iconst 3, 1) := by decide +kernel
theorem dX8_count_5 : decode cX8_count 5 = .ok (.if_icmp .ne 24, 3) := by decide +kernel
theorem dX8_count_29 : decode cX8_count 29 = .ok (.iconst (-1), 1) := by decide +kernel
theorem dX8_count_30 : decode cX8_count 30 = .ok (.ireturn, 1) := by decide +kernel
theorem dX8_about_0 : decode cX8_about 0 = .ok (.iload_n 1, 1) := by decide +kernel
theorem dX8_about_1 : decode cX8_about 1 = .ok (.tableswitch 199 0 15 #[79, 84, 89, 94, 99, 104, 109, 114, 119, 124, 141, 146, 151, 156, 161, 174], 79) := by decide +kernel
theorem dX8_about_80 : decode cX8_about 80 = .ok (.aload_n 0, 1) := by decide +kernel
theorem dX8_about_81 : decode cX8_about 81 = .ok (.getfield 99, 3) := by decide +kernel
theorem dX8_about_84 : decode cX8_about 84 = .ok (.ireturn, 1) := by decide +kernel
theorem dX8_about_85 : decode cX8_about 85 = .ok (.aload_n 0, 1) := by decide +kernel
theorem dX8_about_86 : decode cX8_about 86 = .ok (.getfield 103, 3) := by decide +kernel
theorem dX8_about_89 : decode cX8_about 89 = .ok (.ireturn, 1) := by decide +kernel
theorem dX8_about_90 : decode cX8_about 90 = .ok (.aload_n 0, 1) := by decide +kernel
theorem dX8_about_91 : decode cX8_about 91 = .ok (.getfield 146, 3) := by decide +kernel
theorem dX8_about_94 : decode cX8_about 94 = .ok (.ireturn, 1) := by decide +kernel
theorem dX8_about_95 : decode cX8_about 95 = .ok (.aload_n 0, 1) := by decide +kernel
theorem dX8_about_96 : decode cX8_about 96 = .ok (.getfield 106, 3) := by decide +kernel
theorem dX8_about_99 : decode cX8_about 99 = .ok (.ireturn, 1) := by decide +kernel
theorem dX8_about_100 : decode cX8_about 100 = .ok (.aload_n 0, 1) := by decide +kernel
theorem dX8_about_101 : decode cX8_about 101 = .ok (.getfield 109, 3) := by decide +kernel
theorem dX8_about_104 : decode cX8_about 104 = .ok (.ireturn, 1) := by decide +kernel
theorem dX8_about_105 : decode cX8_about 105 = .ok (.aload_n 0, 1) := by decide +kernel
theorem dX8_about_106 : decode cX8_about 106 = .ok (.getfield 112, 3) := by decide +kernel
theorem dX8_about_109 : decode cX8_about 109 = .ok (.ireturn, 1) := by decide +kernel
theorem dX8_about_110 : decode cX8_about 110 = .ok (.aload_n 0, 1) := by decide +kernel
theorem dX8_about_111 : decode cX8_about 111 = .ok (.getfield 153, 3) := by decide +kernel
theorem dX8_about_114 : decode cX8_about 114 = .ok (.ireturn, 1) := by decide +kernel
theorem dX8_about_115 : decode cX8_about 115 = .ok (.aload_n 0, 1) := by decide +kernel
theorem dX8_about_116 : decode cX8_about 116 = .ok (.getfield 140, 3) := by decide +kernel
theorem dX8_about_119 : decode cX8_about 119 = .ok (.ireturn, 1) := by decide +kernel
theorem dX8_about_120 : decode cX8_about 120 = .ok (.aload_n 0, 1) := by decide +kernel
theorem dX8_about_121 : decode cX8_about 121 = .ok (.getfield 135, 3) := by decide +kernel
theorem dX8_about_124 : decode cX8_about 124 = .ok (.ireturn, 1) := by decide +kernel
theorem dX8_about_125 : decode cX8_about 125 = .ok (.aload_n 0, 1) := by decide +kernel
theorem dX8_about_126 : decode cX8_about 126 = .ok (.getfield 140, 3) := by decide +kernel
theorem dX8_about_129 : decode cX8_about 129 = .ok (.iconst 2, 1) := by decide +kernel
theorem dX8_about_130 : decode cX8_about 130 = .ok (.if_icmp .ge 7, 3) := by decide +kernel
theorem dX8_about_133 : decode cX8_about 133 = .ok (.iconst (-1), 1) := by decide +kernel
theorem dX8_about_134 : decode cX8_about 134 = .ok (.goto 7, 3) := by decide +kernel
theorem dX8_about_141 : decode cX8_about 141 = .ok (.ireturn, 1) := by decide +kernel
theorem dX8_about_142 : decode cX8_about 142 = .ok (.aload_n 0, 1) := by decide +kernel
theorem dX8_about_143 : decode cX8_about 143 = .ok (.getfield 191, 3) := by decide +kernel
theorem dX8_about_146 : decode cX8_about 146 = .ok (.ireturn, 1) := by decide +kernel
theorem dX8_about_147 : decode cX8_about 147 = .ok (.aload_n 0, 1) := by decide +kernel
theorem dX8_about_148 : decode cX8_about 148 = .ok (.getfield 203, 3) := by decide +kernel
theorem dX8_about_151 : decode cX8_about 151 = .ok (.ireturn, 1) := by decide +kernel
theorem dX8_about_152 : decode cX8_about 152 = .ok (.aload_n 0, 1) := by decide +kernel
theorem dX8_about_153 : decode cX8_about 153 = .ok (.getfield 212, 3) := by decide +kernel
theorem dX8_about_156 : decode cX8_about 156 = .ok (.ireturn, 1) := by decide +kernel
theorem dX8_about_157 : decode cX8_about 157 = .ok (.aload_n 0, 1) := by decide +kernel
theorem dX8_about_158 : decode cX8_about 158 = .ok (.getfield 185, 3) := by decide +kernel
theorem dX8_about_161 : decode cX8_about 161 = .ok (.ireturn, 1) := by decide +kernel
theorem dX8_about_162 : decode cX8_about 162 = .ok (.aload_n 0, 1) := by decide +kernel
theorem dX8_about_163 : decode cX8_about 163 = .ok (.getfield 181, 3) := by decide +kernel
theorem dX8_about_166 : decode cX8_about 166 = .ok (.ifCond .eq 7, 3) := by decide +kernel
theorem dX8_about_173 : decode cX8_about 173 = .ok (.iconst 0, 1) := by decide +kernel
theorem dX8_about_174 : decode cX8_about 174 = .ok (.ireturn, 1) := by decide +kernel
theorem dX8_about_175 : decode cX8_about 175 = .ok (.aload_n 0, 1) := by decide +kernel
theorem dX8_about_176 : decode cX8_about 176 = .ok (.getfield 140, 3) := by decide +kernel
theorem dX8_about_179 : decode cX8_about 179 = .ok (.iconst 2, 1) := by decide +kernel
theorem dX8_about_180 : decode cX8_about 180 = .ok (.if_icmp .eq 7, 3) := by decide +kernel
theorem dX8_about_183 : decode cX8_about 183 = .ok (.iconst (-1), 1) := by decide +kernel
theorem dX8_about_184 : decode cX8_about 184 = .ok (.goto 15, 3) := by decide +kernel
theorem dX8_about_199 : decode cX8_about 199 = .ok (.ireturn, 1) := by decide +kernel
theorem dX8_about_200 : decode cX8_about 200 = .ok (.iconst (-1), 1) := by decide +kernel
theorem dX8_about_201 : decode cX8_about 201 = .ok (.ireturn, 1) := by decide +kernel
theorem dX8_list_0 : decode cX8_list 0 = .ok (.aload_n 0, 1) := by decide +kernel
theorem dX8_list_1 : decode cX8_list 1 = .ok (.getfield 140, 3) := by decide +kernel
theorem dX8_list_4 : decode cX8_list 4 = .ok (.iconst 2, 1) := by decide +kernel
theorem dX8_list_5 : decode cX8_list 5 = .ok (.if_icmp .lt 38, 3) := by decide +kernel
theorem dX8_list_43 : decode cX8_list 43 = .ok (.iconst (-1), 1) := by decide +kernel
theorem dX8_list_44 : decode cX8_list 44 = .ok (.ireturn, 1) := by decide +kernel
theorem dX8_shadowOf_0 : decode cX8_shadowOf 0 = .ok (.aload_n 0, 1) := by decide +kernel
theorem dX8_shadowOf_1 : decode cX8_shadowOf 1 = .ok (.getfield 206, 3) := by decide +kernel
theorem dX8_shadowOf_4 : decode cX8_shadowOf 4 = .ok (.ifCond .eq 26, 3) := by decide +kernel
theorem dX8_shadowOf_30 : decode cX8_shadowOf 30 = .ok (.iconst (-1), 1) := by decide +kernel
theorem dX8_shadowOf_31 : decode cX8_shadowOf 31 = .ok (.ireturn, 1) := by decide +kernel
theorem dX8_shown_0 : decode cX8_shown 0 = .ok (.aload_n 0, 1) := by decide +kernel
theorem dX8_shown_1 : decode cX8_shown 1 = .ok (.getfield 209, 3) := by decide +kernel
theorem dX8_shown_4 : decode cX8_shown 4 = .ok (.ifCond .eq 26, 3) := by decide +kernel
theorem dX8_shown_30 : decode cX8_shown 30 = .ok (.iconst (-1), 1) := by decide +kernel
theorem dX8_shown_31 : decode cX8_shown 31 = .ok (.ireturn, 1) := by decide +kernel
set_option maxRecDepth 20000 in
theorem ggX8_given_X8_in : GoodIn wsX8_given wsX8_in := goodIn_r _ [8] (by decide +kernel) (by decide +kernel)
set_option maxRecDepth 20000 in
theorem gX8_given_X8_in : GoodIn wsX8_given (va_wsS RX8 122 yX8_in wsX8_in) := goodIn_app (goodIn_of _ (by decide +kernel)) ggX8_given_X8_in
theorem dX8_given_0 : decode cX8_given 0 = .ok (.iload_n 1, 1) := by decide +kernel
theorem dX8_given_1 : decode cX8_given 1 = .ok (.iconst 1, 1) := by decide +kernel
theorem dX8_given_2 : decode cX8_given 2 = .ok (.aload_n 0, 1) := by decide +kernel
theorem dX8_given_3 : decode cX8_given 3 = .ok (.getfield 109, 3) := by decide +kernel
theorem dX8_given_6 : decode cX8_given 6 = .ok (.invokestatic 122, 3) := by decide +kernel
theorem dX8_given_9 : decode cX8_given 9 = .ok (.ifCond .eq 40, 3) := by decide +kernel
theorem dX8_given_12 : decode cX8_given 12 = .ok (.aload_n 0, 1) := by decide +kernel
theorem dX8_given_13 : decode cX8_given 13 = .ok (.getfield 65, 3) := by decide +kernel
theorem dX8_given_16 : decode cX8_given 16 = .ok (.iload_n 1, 1) := by decide +kernel
theorem dX8_given_17 : decode cX8_given 17 = .ok (.baload, 1) := by decide +kernel
theorem dX8_given_18 : decode cX8_given 18 = .ok (.ifCond .eq 31, 3) := by decide +kernel
theorem dX8_given_49 : decode cX8_given 49 = .ok (.iconst (-1), 1) := by decide +kernel
theorem dX8_given_50 : decode cX8_given 50 = .ok (.ireturn, 1) := by decide +kernel
set_option maxRecDepth 20000 in
theorem ggX8_entry_X8_in : GoodIn wsX8_entry wsX8_in := goodIn_r _ [9] (by decide +kernel) (by decide +kernel)
set_option maxRecDepth 20000 in
theorem gX8_entry_X8_in : GoodIn wsX8_entry (va_wsS RX8 122 yX8_in wsX8_in) := goodIn_app (goodIn_of _ (by decide +kernel)) ggX8_entry_X8_in
theorem dX8_entry_0 : decode cX8_entry 0 = .ok (.iload_n 1, 1) := by decide +kernel
theorem dX8_entry_1 : decode cX8_entry 1 = .ok (.iconst 0, 1) := by decide +kernel
theorem dX8_entry_2 : decode cX8_entry 2 = .ok (.aload_n 0, 1) := by decide +kernel
theorem dX8_entry_3 : decode cX8_entry 3 = .ok (.getfield 135, 3) := by decide +kernel
theorem dX8_entry_6 : decode cX8_entry 6 = .ok (.iconst 1, 1) := by decide +kernel
theorem dX8_entry_7 : decode cX8_entry 7 = .ok (.isub, 1) := by decide +kernel
theorem dX8_entry_8 : decode cX8_entry 8 = .ok (.invokestatic 122, 3) := by decide +kernel
theorem dX8_entry_11 : decode cX8_entry 11 = .ok (.ifCond .ne 5, 3) := by decide +kernel
theorem dX8_entry_14 : decode cX8_entry 14 = .ok (.lconst 0, 1) := by decide +kernel
theorem dX8_entry_15 : decode cX8_entry 15 = .ok (.lreturn, 1) := by decide +kernel
set_option maxRecDepth 20000 in
theorem ggX8_chain_X8_in : GoodIn wsX8_chain wsX8_in := goodIn_r _ [7] (by decide +kernel) (by decide +kernel)
set_option maxRecDepth 20000 in
theorem gX8_chain_X8_in : GoodIn wsX8_chain (va_wsS RX8 122 yX8_in wsX8_in) := goodIn_app (goodIn_of _ (by decide +kernel)) ggX8_chain_X8_in
theorem dX8_chain_0 : decode cX8_chain 0 = .ok (.iload_n 1, 1) := by decide +kernel
theorem dX8_chain_1 : decode cX8_chain 1 = .ok (.iconst (-1), 1) := by decide +kernel
theorem dX8_chain_2 : decode cX8_chain 2 = .ok (.if_icmp .ne 7, 3) := by decide +kernel
theorem dX8_chain_5 : decode cX8_chain 5 = .ok (.ldc2_w 138, 3) := by decide +kernel
theorem dX8_chain_8 : decode cX8_chain 8 = .ok (.lreturn, 1) := by decide +kernel
theorem dX8_chain_9 : decode cX8_chain 9 = .ok (.iload_n 1, 1) := by decide +kernel
theorem dX8_chain_10 : decode cX8_chain 10 = .ok (.iconst 0, 1) := by decide +kernel
theorem dX8_chain_11 : decode cX8_chain 11 = .ok (.aload_n 0, 1) := by decide +kernel
theorem dX8_chain_12 : decode cX8_chain 12 = .ok (.getfield 135, 3) := by decide +kernel
theorem dX8_chain_15 : decode cX8_chain 15 = .ok (.iconst 1, 1) := by decide +kernel
theorem dX8_chain_16 : decode cX8_chain 16 = .ok (.isub, 1) := by decide +kernel
theorem dX8_chain_17 : decode cX8_chain 17 = .ok (.invokestatic 122, 3) := by decide +kernel
theorem dX8_chain_20 : decode cX8_chain 20 = .ok (.ifCond .eq 12, 3) := by decide +kernel
theorem dX8_chain_23 : decode cX8_chain 23 = .ok (.aload_n 0, 1) := by decide +kernel
theorem dX8_chain_24 : decode cX8_chain 24 = .ok (.getfield 87, 3) := by decide +kernel
theorem dX8_chain_27 : decode cX8_chain 27 = .ok (.iload_n 1, 1) := by decide +kernel
theorem dX8_chain_28 : decode cX8_chain 28 = .ok (.laload, 1) := by decide +kernel
theorem dX8_chain_29 : decode cX8_chain 29 = .ok (.goto 4, 3) := by decide +kernel
theorem dX8_chain_32 : decode cX8_chain 32 = .ok (.lconst 0, 1) := by decide +kernel
theorem dX8_chain_33 : decode cX8_chain 33 = .ok (.lreturn, 1) := by decide +kernel
def ech (cf : Nat → Int64) (n : Int32) : Int64 := if n = 0 then -3750763034362895579 else cf (n - 1).toNatClampNeg
def che (cf : Nat → Int64) (n i : Int32) : Int64 := if i = -1 then -3750763034362895579 else if 0 ≤ i ∧ i ≤ n - 1 then cf i.toNatClampNeg else 0
theorem bI_nar {P : Prop} [Decidable P] : narrow .boolean (.int (bI P)) = .int (bI P) := by
  unfold bI; split <;> rfl
theorem le_1 {i x : Int32} {n : Nat} (h : x = nI n) (h1 : 1 ≤ n) (h2 : n < 2 ^ 30) : i ≤ x - 1 ↔ i < x := by
  rw [h, show (nI n - 1 : Int32) = nI (n - 1) from pk_sub (a := n) (b := 1) h1, Int32.le_iff_toInt_le, Int32.lt_iff_toInt_lt, nI_toInt (by omega), nI_toInt (by omega)]
  omega
theorem pw8_step {z : Int32} {n : Nat} (hz : z = nI n) (h3 : n < 2 ^ 31) : (z - z / 2 * 2 = 1 ↔ n % 2 = 1) ∧ z / 2 = nI (n / 2) := by
  rw [hz, show (nI n - nI n / 2 * 2 : Int32) = nI (n % 2) from pk_rem (a := n) (d := 2) h3 (by omega) (by omega), show (1 : Int32) = nI 1 from rfl]
  exact ⟨nI_eq (by omega) (by omega), pk_div (a := n) (d := 2) h3 (by omega) (by omega)⟩
theorem pw8_odd {q z r b R : Int32} {f n : Nat} (hz : z = nI n) (h2 : n < 2 ^ (f + 1 - 1)) (h3 : n < 2 ^ 31) (c : ¬ z ≤ 0) (c2 : z - z / 2 * 2 = 1) (hw : pw q (f + 1) n r b = R) : z / 2 = nI (n / 2) ∧ 0 < f ∧ n / 2 < 2 ^ (f - 1) ∧ pw q f (n / 2) (tm q r b) (tm q b b) = R := by
  obtain ⟨_, _, g3, g4, g5⟩ := pw_step hz h2 h3 c hw
  rw [if_pos ((pw8_step hz h3).1.mp c2)] at g5
  exact ⟨(pw8_step hz h3).2, g3, g4, g5⟩
theorem pw8_even {q z r b R : Int32} {f n : Nat} (hz : z = nI n) (h2 : n < 2 ^ (f + 1 - 1)) (h3 : n < 2 ^ 31) (c : ¬ z ≤ 0) (c2 : ¬ z - z / 2 * 2 = 1) (hw : pw q (f + 1) n r b = R) : z / 2 = nI (n / 2) ∧ 0 < f ∧ n / 2 < 2 ^ (f - 1) ∧ pw q f (n / 2) r (tm q b b) = R := by
  obtain ⟨_, _, g3, g4, g5⟩ := pw_step hz h2 h3 c hw
  rw [if_neg (fun h => c2 ((pw8_step hz h3).1.mpr h))] at g5
  exact ⟨(pw8_step hz h3).2, g3, g4, g5⟩
theorem en_in {n : Int32} {n0 : Nat} (hn : n = nI n0) (h6 : n0 < 600) (c : ¬ n = 0) : vp_in (n - 1) 600 := by
  have h0 : 1 ≤ n0 := by
    rcases Nat.eq_zero_or_pos n0 with e | e
    · rw [e] at hn; exact absurd hn c
    · exact e
  rw [hn, show (nI n0 - 1 : Int32) = nI (n0 - 1) from pk_sub (a := n0) (b := 1) h0]
  exact vp_in_nI (by omega) (by decide)
theorem en_p1 {n : Int32} {n0 : Nat} (hn : n = nI n0) (h6 : n0 < 600) : n + 1 - 1 = n := by
  rw [hn, show (nI n0 + 1 : Int32) = nI (n0 + 1) from nI_1 n0]
  exact nI_pred n0
theorem en_in1 {n : Int32} {n0 : Nat} (hn : n = nI n0) (h6 : n0 < 600) : vp_in (n + 1 - 1) 600 := by rw [en_p1 hn h6]; exact ad_in hn h6
theorem en_ret {n : Int32} {n0 : Nat} {cf : Nat → Int64} {v : Int64} (hn : n = nI n0) (h6 : n0 < 600) : vp_updL cf n.toNatClampNeg v (n + 1 - 1).toNatClampNeg = v := by rw [en_p1 hn h6]; simp [vp_updL]
theorem gv_in {j x : Int32} {t0 : Nat} (h : 1 ≤ j ∧ j ≤ x) (hm : x = nI t0) (ht5 : t0 ≤ 5) : vp_in j 6 := by
  rw [vp_in_iff]
  have h1 := Int32.le_iff_toInt_le.mp h.1
  have h2 := Int32.le_iff_toInt_le.mp h.2
  rw [hm, nI_toInt (by omega)] at h2
  have h3 : (1 : Int32).toInt = 1 := rfl
  omega
theorem ch_in {i n : Int32} {n0 : Nat} (h : 0 ≤ i ∧ i ≤ n - 1) (hn : n = nI n0) (h6 : n0 ≤ 600) : vp_in i 600 := by
  rcases Nat.eq_zero_or_pos n0 with e | e
  · exfalso
    have h2 := Int32.le_trans h.1 h.2
    rw [hn, e] at h2
    exact absurd h2 (by decide)
  · exact ix_in ⟨h.1, (le_1 hn e (by omega)).mp h.2⟩ hn h6
set_option maxHeartbeats 4000000 in
set_option maxRecDepth 100000 in
theorem c_X8_times (l : Launch) (D : va_G) (cA : Nat → ClassId) (h0 : Nat) (m0 : Int32) (m1 : Int32) (m2 : Int32) (m3 : Int32) (m4 : Int32) (m5 : Nat) (m6 : Int32) (m7 : Int32) (m8 : Int32) (m9 : Nat) (m10 : Nat) (m11 : Nat) (m12 : Int32) (m13 : Nat) (m14 : Nat) (m15 : Nat) (m16 : Nat) (m17 : Int32) (m18 : Nat) (m19 : Nat) (m20 : Nat) (m21 : Nat) (m22 : Nat) (m23 : Nat) (m24 : Nat) (m25 : Nat) (m26 : Int32) (m27 : Int32) (m28 : Int32) (m29 : Int32) (m30 : Int32) (m31 : Int32) (m32 : Nat) (m33 : Nat) (m34 : Nat) (m35 : Nat) (m36 : Int32) (m37 : Nat) (m38 : Int32) (m39 : Nat) (m40 : Nat) (m41 : Nat) (m42 : Nat) (m43 : Nat) (a : Int32) (b : Int32) (hp0 : 0 < m0) : Met l yX8_times wsX8_times ({ frames := 0, cells := 0, slots := 0, locals := 0 }) (rPc vwCl D cA [(h0, .inr (7, [.int m0, .int m1, .int m2, .int m3, .int m4, .ref m5, .int m6, .int m7, .int m8, .ref m9, .ref m10, .ref m11, .int m12, .ref m13, .ref m14, .ref m15, .ref m16, .int m17, .ref m18, .ref m19, .ref m20, .ref m21, .ref m22, .ref m23, .ref m24, .ref m25, .int m26, .int m27, .int m28, .int m29, .int m30, .int m31, .ref m32, .ref m33, .ref m34, .ref m35, .int m36, .ref m37, .int m38, .ref m39, .ref m40, .ref m41, .ref m42, .ref m43]))] [.ref h0, .int a, .int b]) (rq_x (some (.int (tm m0 a b)))) 0 0 (fun _ => False) := by
  refine Met.ofW (cc := cX8_times) (maxL := 3) (ret := (some .int)) (by decide) rfl ?_
  intro p e s m args below meth c s₁ B hml hv
  obtain ⟨rfl, hP, hK⟩ := hv
  have hx := B.exec
  have hb := B.bytes
  have hr := B.returns
  have hts := atoms_spec (ws := wsX8_times) B.pre
  have hown : s.vm.findClass RX8 = some m.cls := findClass_of_methodNamed B.named
  have hlocks := B.notSynchronized
  have hin_X8 : ∀ w ∈ wsX80, w ∈ wsX8_times := fun w h => List.mem_cons_of_mem _ (List.mem_append_right _ h)
  have w_RX8_99 := hts (.fieldLink RX8 99 "MixElectionModel" "p" "I") (by decide +kernel)
  have hl := lv_entry ([.ref h0, .int a, .int b]) (n := 3) (Nat.le_of_ble_eq_true rfl)
  rw [lg_entry_eq]
  generalize (lg_sl ([.ref h0, .int a, .int b]) ++ List.replicate (3 - (lg_sl ([.ref h0, .int a, .int b])).length) Slot.unset).toArray = ls at hl ⊢
  have hl : lv_has ls 3 [(0, .ref h0), (1, .int a), (2, .int b)] := hl
  refine lv_iload_n hx hb dX8_times_0 rfl (lv_at hl 1 rfl) ?_
  refine lv_i2l hx hb dX8_times_1 rfl ?_
  refine lv_iload_n hx hb dX8_times_2 rfl (lv_at hl 2 rfl) ?_
  refine lv_i2l hx hb dX8_times_3 rfl ?_
  refine lv_lmul hx hb dX8_times_4 ?_
  refine lv_aload_n hx hb dX8_times_5 rfl (lv_at hl 0 rfl) ?_
  refine va_get (D := D) (ci := 7) (v := .int m0) (C := RX8) (T := TX8) (N := 44) hx hb hts hin_X8 hown hK hP 0 rfl rfl 0 (by decide) (w_RX8_99) (fun _ h9 => h9) rfl dX8_times_6 ?_
  refine lv_i2l hx hb dX8_times_9 rfl ?_
  refine lv_lrem hx hb dX8_times_10 (tm_ne hp0) ?_
  refine lv_l2i hx hb dX8_times_11 rfl ?_
  exact W.iret (v := ((a.toInt64 * b.toInt64) - (a.toInt64 * b.toInt64) / m0.toInt64 * m0.toInt64).toInt32) hx hb hr (fun t ht hW => ⟨congrArg (fun z => Outcome.returned (some (Value.int z))) (rfl), ht⟩) (fun _ h => by cases h) dX8_times_12

set_option maxHeartbeats 4000000 in
set_option maxRecDepth 100000 in
theorem c_X8_power (l : Launch) (D : va_G) (cA : Nat → ClassId) (h0 : Nat) (m0 : Int32) (m1 : Int32) (m2 : Int32) (m3 : Int32) (m4 : Int32) (m5 : Nat) (m6 : Int32) (m7 : Int32) (m8 : Int32) (m9 : Nat) (m10 : Nat) (m11 : Nat) (m12 : Int32) (m13 : Nat) (m14 : Nat) (m15 : Nat) (m16 : Nat) (m17 : Int32) (m18 : Nat) (m19 : Nat) (m20 : Nat) (m21 : Nat) (m22 : Nat) (m23 : Nat) (m24 : Nat) (m25 : Nat) (m26 : Int32) (m27 : Int32) (m28 : Int32) (m29 : Int32) (m30 : Int32) (m31 : Int32) (m32 : Nat) (m33 : Nat) (m34 : Nat) (m35 : Nat) (m36 : Int32) (m37 : Nat) (m38 : Int32) (m39 : Nat) (m40 : Nat) (m41 : Nat) (m42 : Nat) (m43 : Nat) (a : Int32) (x : Int32) (x0 : Nat) (hx0 : x = nI x0) (hX : x0 < 2 ^ 31) (hp0 : 0 < m0) : Met l yX8_power wsX8_power ({ frames := 1, cells := 0, slots := 0, locals := 22 }) (rPc vwCl D cA [(h0, .inr (7, [.int m0, .int m1, .int m2, .int m3, .int m4, .ref m5, .int m6, .int m7, .int m8, .ref m9, .ref m10, .ref m11, .int m12, .ref m13, .ref m14, .ref m15, .ref m16, .int m17, .ref m18, .ref m19, .ref m20, .ref m21, .ref m22, .ref m23, .ref m24, .ref m25, .int m26, .int m27, .int m28, .int m29, .int m30, .int m31, .ref m32, .ref m33, .ref m34, .ref m35, .int m36, .ref m37, .int m38, .ref m39, .ref m40, .ref m41, .ref m42, .ref m43]))] [.ref h0, .int a, .int x]) (rq_x (some (.int (pw m0 32 x0 1 a)))) 0 0 (fun _ => False) := by
  refine Met.ofW (cc := cX8_power) (maxL := 6) (ret := (some .int)) (by decide) rfl ?_
  intro p e s m args below meth c s₁ B hml hv
  obtain ⟨rfl, hP, hK⟩ := hv
  have hx := B.exec
  have hb := B.bytes
  have hr := B.returns
  have hts := atoms_spec (ws := wsX8_power) B.pre
  have hown : s.vm.findClass RX8 = some m.cls := findClass_of_methodNamed B.named
  have hlocks := B.notSynchronized
  have hl := lv_entry ([.ref h0, .int a, .int x]) (n := 6) (Nat.le_of_ble_eq_true rfl)
  rw [lg_entry_eq]
  generalize (lg_sl ([.ref h0, .int a, .int x]) ++ List.replicate (6 - (lg_sl ([.ref h0, .int a, .int x])).length) Slot.unset).toArray = ls at hl ⊢
  have hl : lv_has ls 6 [(0, .ref h0), (1, .int a), (2, .int x)] := hl
  refine lv_iconst (v := 1) hx hb dX8_power_0 (by decide) ?_
  refine lv_istore_n (lv' := [(3, .int 1), (0, .ref h0), (1, .int a), (2, .int x)]) hx hb dX8_power_1 rfl hl (by decide) rfl (fun ls hl => ?_)
  refine lv_iload_n hx hb dX8_power_2 rfl (lv_at hl 2 rfl) ?_
  refine lv_istore (lv' := [(4, .int a), (3, .int 1), (0, .ref h0), (1, .int a), (2, .int x)]) hx hb dX8_power_3 hl (by decide) rfl (fun ls hl => ?_)
  refine lv_iload_n hx hb dX8_power_5 rfl (lv_at hl 4 rfl) ?_
  refine lv_istore (lv' := [(5, .int x), (4, .int a), (3, .int 1), (0, .ref h0), (1, .int a), (2, .int x)]) hx hb dX8_power_6 hl (by decide) rfl (fun ls hl => ?_)
  have loop8 : ∀ (f n : Nat) (z r b : Int32), z = nI n → 0 < f → n < 2 ^ (f - 1) → n < 2 ^ 31 → pw m0 f n r b = pw m0 32 x0 1 a → ∀ ls : Array Slot, lv_has ls 6 [(0, .ref h0), (1, .int a), (2, .int x), (3, .int r), (4, .int b), (5, .int z)] → W p l e (headSpec wsX8_power ({ frames := 1, cells := 0, slots := 0, locals := 22 })).room s m [.ref h0, .int a, .int x].toArray below meth c s.heap [] 0 0 (MQ below (rq_x (some (.int (pw m0 32 x0 1 a)))) [.ref h0, .int a, .int x].toArray s 0 0 (fun _ => False)) (F0 m 8 ls []) := by
    intro f
    induction f with
    | zero =>
      intro n z r b hz h1
      omega
    | succ f ih =>
      intro n z r b hz h1 h2 h3 hw ls hl
      refine lv_iload hx hb dX8_power_8 (lv_at hl 5 rfl) ?_
      refine lv_if_le (tgt := 48) hx hb dX8_power_10 (by decide) (fun c_10 => ?_) (fun c_10 => ?_)
      · skip
        refine lv_iload_n hx hb dX8_power_48 rfl (lv_at hl 3 rfl) ?_
        exact W.iret (v := r) hx hb hr (fun t ht hW => ⟨congrArg (fun z => Outcome.returned (some (Value.int z))) (pw_end hz h3 c_10 hw), ht⟩) (fun _ h => by cases h) dX8_power_49
      · skip
        refine lv_iload hx hb dX8_power_13 (lv_at hl 5 rfl) ?_
        refine lv_iconst (v := 2) hx hb dX8_power_15 (by decide) ?_
        refine lv_irem hx hb dX8_power_16 (by decide) ?_
        refine lv_iconst (v := 1) hx hb dX8_power_17 (by decide) ?_
        refine lv_icmp_ne (tgt := 29) hx hb dX8_power_18 (by decide) (fun c_18 => ?_) (fun c_18 => ?_)
        · skip
          refine lv_aload_n hx hb dX8_power_29 rfl (lv_at hl 0 rfl) ?_
          refine lv_iload hx hb dX8_power_30 (lv_at hl 4 rfl) ?_
          refine lv_iload hx hb dX8_power_32 (lv_at hl 4 rfl) ?_
          refine rq_call1 (v := .int (tm m0 b b)) (rn_V (As := [.int b, .int b]) (rest := []) (ci := 7) (fs := [.int m0, .int m1, .int m2, .int m3, .int m4, .ref m5, .int m6, .int m7, .int m8, .ref m9, .ref m10, .ref m11, .int m12, .ref m13, .ref m14, .ref m15, .ref m16, .int m17, .ref m18, .ref m19, .ref m20, .ref m21, .ref m22, .ref m23, .ref m24, .ref m25, .int m26, .int m27, .int m28, .int m29, .int m30, .int m31, .ref m32, .ref m33, .ref m34, .ref m35, .int m36, .ref m37, .int m38, .ref m39, .ref m40, .ref m41, .ref m42, .ref m43]) ⟨hx, hb, hml, hown, hts⟩ (c_X8_times l D cA h0 m0 m1 m2 m3 m4 m5 m6 m7 m8 m9 m10 m11 m12 m13 m14 m15 m16 m17 m18 m19 m20 m21 m22 m23 m24 m25 m26 m27 m28 m29 m30 m31 m32 m33 m34 m35 m36 m37 m38 m39 m40 m41 m42 m43 b b (by assumption)) rfl (cwV 2 hts gX8_power_X8_times rfl rfl rfl (by decide +kernel) ⟨Nat.le_of_ble_eq_true rfl, Nat.le_of_ble_eq_true rfl⟩) hK hP [0] rfl rfl rfl hl.1 rfl (Nat.le_of_ble_eq_true rfl) dX8_power_34 ⟨Nat.le_of_ble_eq_true rfl, Nat.le_of_ble_eq_true rfl⟩) ?_
          refine lv_istore (lv' := [(4, .int (tm m0 b b)), (0, .ref h0), (1, .int a), (2, .int x), (3, .int r), (5, .int z)]) hx hb dX8_power_37 hl (by decide) rfl (fun ls hl => ?_)
          refine lv_iload hx hb dX8_power_39 (lv_at hl 5 rfl) ?_
          refine lv_iconst (v := 2) hx hb dX8_power_41 (by decide) ?_
          refine lv_idiv hx hb dX8_power_42 (by decide) ?_
          refine lv_istore (lv' := [(5, .int (z / 2)), (4, .int (tm m0 b b)), (0, .ref h0), (1, .int a), (2, .int x), (3, .int r)]) hx hb dX8_power_43 hl (by decide) rfl (fun ls hl => ?_)
          refine lv_goto (tgt := 8) hx hb dX8_power_45 (by decide) ?_
          obtain ⟨g1, g2, g3, g4⟩ := pw8_even hz h2 h3 c_10 c_18 hw
          exact ih (n / 2) _ _ _ g1 g2 g3 (by omega) g4 ls (lv_sub hl [2, 3, 4, 5, 1, 0] rfl)
        · skip
          refine lv_aload_n hx hb dX8_power_21 rfl (lv_at hl 0 rfl) ?_
          refine lv_iload_n hx hb dX8_power_22 rfl (lv_at hl 3 rfl) ?_
          refine lv_iload hx hb dX8_power_23 (lv_at hl 4 rfl) ?_
          refine rq_call1 (v := .int (tm m0 r b)) (rn_V (As := [.int r, .int b]) (rest := []) (ci := 7) (fs := [.int m0, .int m1, .int m2, .int m3, .int m4, .ref m5, .int m6, .int m7, .int m8, .ref m9, .ref m10, .ref m11, .int m12, .ref m13, .ref m14, .ref m15, .ref m16, .int m17, .ref m18, .ref m19, .ref m20, .ref m21, .ref m22, .ref m23, .ref m24, .ref m25, .int m26, .int m27, .int m28, .int m29, .int m30, .int m31, .ref m32, .ref m33, .ref m34, .ref m35, .int m36, .ref m37, .int m38, .ref m39, .ref m40, .ref m41, .ref m42, .ref m43]) ⟨hx, hb, hml, hown, hts⟩ (c_X8_times l D cA h0 m0 m1 m2 m3 m4 m5 m6 m7 m8 m9 m10 m11 m12 m13 m14 m15 m16 m17 m18 m19 m20 m21 m22 m23 m24 m25 m26 m27 m28 m29 m30 m31 m32 m33 m34 m35 m36 m37 m38 m39 m40 m41 m42 m43 r b (by assumption)) rfl (cwV 2 hts gX8_power_X8_times rfl rfl rfl (by decide +kernel) ⟨Nat.le_of_ble_eq_true rfl, Nat.le_of_ble_eq_true rfl⟩) hK hP [0] rfl rfl rfl hl.1 rfl (Nat.le_of_ble_eq_true rfl) dX8_power_25 ⟨Nat.le_of_ble_eq_true rfl, Nat.le_of_ble_eq_true rfl⟩) ?_
          refine lv_istore_n (lv' := [(3, .int (tm m0 r b)), (0, .ref h0), (1, .int a), (2, .int x), (4, .int b), (5, .int z)]) hx hb dX8_power_28 rfl hl (by decide) rfl (fun ls hl => ?_)
          refine lv_aload_n hx hb dX8_power_29 rfl (lv_at hl 1 rfl) ?_
          refine lv_iload hx hb dX8_power_30 (lv_at hl 4 rfl) ?_
          refine lv_iload hx hb dX8_power_32 (lv_at hl 4 rfl) ?_
          refine rq_call1 (v := .int (tm m0 b b)) (rn_V (As := [.int b, .int b]) (rest := []) (ci := 7) (fs := [.int m0, .int m1, .int m2, .int m3, .int m4, .ref m5, .int m6, .int m7, .int m8, .ref m9, .ref m10, .ref m11, .int m12, .ref m13, .ref m14, .ref m15, .ref m16, .int m17, .ref m18, .ref m19, .ref m20, .ref m21, .ref m22, .ref m23, .ref m24, .ref m25, .int m26, .int m27, .int m28, .int m29, .int m30, .int m31, .ref m32, .ref m33, .ref m34, .ref m35, .int m36, .ref m37, .int m38, .ref m39, .ref m40, .ref m41, .ref m42, .ref m43]) ⟨hx, hb, hml, hown, hts⟩ (c_X8_times l D cA h0 m0 m1 m2 m3 m4 m5 m6 m7 m8 m9 m10 m11 m12 m13 m14 m15 m16 m17 m18 m19 m20 m21 m22 m23 m24 m25 m26 m27 m28 m29 m30 m31 m32 m33 m34 m35 m36 m37 m38 m39 m40 m41 m42 m43 b b (by assumption)) rfl (cwV 2 hts gX8_power_X8_times rfl rfl rfl (by decide +kernel) ⟨Nat.le_of_ble_eq_true rfl, Nat.le_of_ble_eq_true rfl⟩) hK hP [0] rfl rfl rfl hl.1 rfl (Nat.le_of_ble_eq_true rfl) dX8_power_34 ⟨Nat.le_of_ble_eq_true rfl, Nat.le_of_ble_eq_true rfl⟩) ?_
          refine lv_istore (lv' := [(4, .int (tm m0 b b)), (3, .int (tm m0 r b)), (0, .ref h0), (1, .int a), (2, .int x), (5, .int z)]) hx hb dX8_power_37 hl (by decide) rfl (fun ls hl => ?_)
          refine lv_iload hx hb dX8_power_39 (lv_at hl 5 rfl) ?_
          refine lv_iconst (v := 2) hx hb dX8_power_41 (by decide) ?_
          refine lv_idiv hx hb dX8_power_42 (by decide) ?_
          refine lv_istore (lv' := [(5, .int (z / 2)), (4, .int (tm m0 b b)), (3, .int (tm m0 r b)), (0, .ref h0), (1, .int a), (2, .int x)]) hx hb dX8_power_43 hl (by decide) rfl (fun ls hl => ?_)
          refine lv_goto (tgt := 8) hx hb dX8_power_45 (by decide) ?_
          obtain ⟨g1, g2, g3, g4⟩ := pw8_odd hz h2 h3 c_10 c_18 hw
          exact ih (n / 2) _ _ _ g1 g2 g3 (by omega) g4 ls (lv_sub hl [3, 4, 5, 2, 1, 0] rfl)
  exact loop8 32 x0 x 1 a hx0 (by omega) hX hX rfl ls (lv_sub hl [3, 4, 5, 2, 1, 0] rfl)

set_option maxHeartbeats 4000000 in
set_option maxRecDepth 100000 in
theorem c_X8_isExponent (l : Launch) (D : va_G) (cA : Nat → ClassId) (h0 : Nat) (m0 : Int32) (m1 : Int32) (m2 : Int32) (m3 : Int32) (m4 : Int32) (m5 : Nat) (m6 : Int32) (m7 : Int32) (m8 : Int32) (m9 : Nat) (m10 : Nat) (m11 : Nat) (m12 : Int32) (m13 : Nat) (m14 : Nat) (m15 : Nat) (m16 : Nat) (m17 : Int32) (m18 : Nat) (m19 : Nat) (m20 : Nat) (m21 : Nat) (m22 : Nat) (m23 : Nat) (m24 : Nat) (m25 : Nat) (m26 : Int32) (m27 : Int32) (m28 : Int32) (m29 : Int32) (m30 : Int32) (m31 : Int32) (m32 : Nat) (m33 : Nat) (m34 : Nat) (m35 : Nat) (m36 : Int32) (m37 : Nat) (m38 : Int32) (m39 : Nat) (m40 : Nat) (m41 : Nat) (m42 : Nat) (m43 : Nat) (v : Int32) : Met l yX8_isExponent wsX8_isExponent ({ frames := 1, cells := 0, slots := 0, locals := 22 }) (rPc vwCl D cA [(h0, .inr (7, [.int m0, .int m1, .int m2, .int m3, .int m4, .ref m5, .int m6, .int m7, .int m8, .ref m9, .ref m10, .ref m11, .int m12, .ref m13, .ref m14, .ref m15, .ref m16, .int m17, .ref m18, .ref m19, .ref m20, .ref m21, .ref m22, .ref m23, .ref m24, .ref m25, .int m26, .int m27, .int m28, .int m29, .int m30, .int m31, .ref m32, .ref m33, .ref m34, .ref m35, .int m36, .ref m37, .int m38, .ref m39, .ref m40, .ref m41, .ref m42, .ref m43]))] [.ref h0, .int v]) (rq_x (some (.int (bI (0 ≤ v ∧ v ≤ m1 - 1))))) 0 0 (fun _ => False) := by
  refine Met.ofW (cc := cX8_isExponent) (maxL := 2) (ret := (some .boolean)) (by decide) rfl ?_
  intro p e s m args below meth c s₁ B hml hv
  obtain ⟨rfl, hP, hK⟩ := hv
  have hx := B.exec
  have hb := B.bytes
  have hr := B.returns
  have hts := atoms_spec (ws := wsX8_isExponent) B.pre
  have hown : s.vm.findClass RX8 = some m.cls := findClass_of_methodNamed B.named
  have hlocks := B.notSynchronized
  have hin_X8 : ∀ w ∈ wsX80, w ∈ wsX8_isExponent := fun w h => List.mem_cons_of_mem _ (List.mem_append_right _ h)
  have w_RX8_103 := hts (.fieldLink RX8 103 "MixElectionModel" "q" "I") (by decide +kernel)
  have hl := lv_entry ([.ref h0, .int v]) (n := 2) (Nat.le_of_ble_eq_true rfl)
  rw [lg_entry_eq]
  generalize (lg_sl ([.ref h0, .int v]) ++ List.replicate (2 - (lg_sl ([.ref h0, .int v])).length) Slot.unset).toArray = ls at hl ⊢
  have hl : lv_has ls 2 [(0, .ref h0), (1, .int v)] := hl
  refine lv_iload_n hx hb dX8_isExponent_0 rfl (lv_at hl 1 rfl) ?_
  refine lv_iconst (v := 0) hx hb dX8_isExponent_1 (by decide) ?_
  refine lv_aload_n hx hb dX8_isExponent_2 rfl (lv_at hl 0 rfl) ?_
  refine va_get (D := D) (ci := 7) (v := .int m1) (C := RX8) (T := TX8) (N := 44) hx hb hts hin_X8 hown hK hP 0 rfl rfl 1 (by decide) (w_RX8_103) (fun _ h9 => h9) rfl dX8_isExponent_3 ?_
  refine lv_iconst (v := 1) hx hb dX8_isExponent_6 (by decide) ?_
  refine lv_isub hx hb dX8_isExponent_7 ?_
  refine rq_call1 (v := .int (bI (0 ≤ v ∧ v ≤ (m1 - 1)))) (rn_S (As := [.int v, .int 0, .int (m1 - 1)]) (rest := []) ⟨hx, hb, hml, hown, hts⟩ (c_X8_in l D cA v 0 (m1 - 1)) (va_cwS 3 hts gX8_isExponent_X8_in rfl rfl rfl (by decide +kernel) ⟨Nat.le_of_ble_eq_true rfl, Nat.le_of_ble_eq_true rfl⟩) hK hP [] rfl rfl hl.1 rfl (Nat.le_of_ble_eq_true rfl) dX8_isExponent_8 ⟨Nat.le_of_ble_eq_true rfl, Nat.le_of_ble_eq_true rfl⟩) ?_
  exact W.zret (v := (bI (0 ≤ v ∧ v ≤ (m1 - 1)))) hx hb hr bI_nar (fun t ht hW => ⟨congrArg (fun z => Outcome.returned (some (Value.int z))) (rfl), ht⟩) (fun _ h => by cases h) dX8_isExponent_11

set_option maxHeartbeats 4000000 in
set_option maxRecDepth 100000 in
theorem c_X8_on (l : Launch) (D : va_G) (cA : Nat → ClassId) (d : Int64) (x : Int64) : Met l yX8_on wsX8_on ({ frames := 0, cells := 0, slots := 0, locals := 0 }) (rPc vwCl D cA [] [.long d, .long x]) (rq_x (some (.long (dg d x)))) 0 0 (fun _ => False) := by
  refine Met.ofW (cc := cX8_on) (maxL := 4) (ret := (some .long)) (by decide) rfl ?_
  intro p e s m args below meth c s₁ B hml hv
  obtain ⟨rfl, hP, hK⟩ := hv
  have hx := B.exec
  have hb := B.bytes
  have hr := B.returns
  have hts := atoms_spec (ws := wsX8_on) B.pre
  have hown : s.vm.findClass RX8 = some m.cls := findClass_of_methodNamed B.named
  have hlocks := B.notSynchronized
  have hl := lv_entry ([.long d, .long x]) (n := 4) (Nat.le_of_ble_eq_true rfl)
  rw [lg_entry_eq]
  generalize (lg_sl ([.long d, .long x]) ++ List.replicate (4 - (lg_sl ([.long d, .long x])).length) Slot.unset).toArray = ls at hl ⊢
  have hl : lv_has ls 4 [(0, .long d), (2, .long x)] := hl
  refine lv_lload_n hx hb dX8_on_0 rfl (lv_at hl 0 rfl) ?_
  refine lv_lload_n hx hb dX8_on_1 rfl (lv_at hl 1 rfl) ?_
  refine lv_lxor hx hb dX8_on_2 ?_
  refine lv_ldc2 (v := (1099511628211)) hx hb hown (hts (.constantLong RX8 129 (1099511628211)) (by decide +kernel)) dX8_on_3 ?_
  refine lv_lmul hx hb dX8_on_6 ?_
  exact W.lret (v := ((d ^^^ x) * (1099511628211))) hx hb hr (fun t ht hW => ⟨congrArg (fun z => Outcome.returned (some (Value.long z))) (rfl), ht⟩) (fun _ h => by cases h) dX8_on_7

set_option maxHeartbeats 4000000 in
set_option maxRecDepth 100000 in
theorem c_X8_secret_no (l : Launch) (D : va_G) (cA : Nat → ClassId) (h0 : Nat) (m0 : Int32) (m1 : Int32) (m2 : Int32) (m3 : Int32) (m4 : Int32) (m5 : Nat) (m6 : Int32) (m7 : Int32) (m8 : Int32) (m9 : Nat) (m10 : Nat) (m11 : Nat) (m12 : Int32) (m13 : Nat) (m14 : Nat) (m15 : Nat) (m16 : Nat) (m17 : Int32) (m18 : Nat) (m19 : Nat) (m20 : Nat) (m21 : Nat) (m22 : Nat) (m23 : Nat) (m24 : Nat) (m25 : Nat) (m26 : Int32) (m27 : Int32) (m28 : Int32) (m29 : Int32) (m30 : Int32) (m31 : Int32) (m32 : Nat) (m33 : Nat) (m34 : Nat) (m35 : Nat) (m36 : Int32) (m37 : Nat) (m38 : Int32) (m39 : Nat) (m40 : Nat) (m41 : Nat) (m42 : Nat) (m43 : Nat) (i : Int32) (v : Int32) (k0 : Nat) (q0 : Nat) (hst : m6 = 0) (htk : m4 = nI k0) (hk1 : 1 ≤ k0 ∧ k0 ≤ 5) (hgq : m1 = nI q0) (hq1 : 1 ≤ q0 ∧ q0 < 1000000) (hs : ¬ scC i v m4 m1) : Met l yX8_secret wsX8_secret ({ frames := 2, cells := 0, slots := 0, locals := 43 }) (rPc vwCl D cA [(h0, .inr (7, [.int m0, .int m1, .int m2, .int m3, .int m4, .ref m5, .int m6, .int m7, .int m8, .ref m9, .ref m10, .ref m11, .int m12, .ref m13, .ref m14, .ref m15, .ref m16, .int m17, .ref m18, .ref m19, .ref m20, .ref m21, .ref m22, .ref m23, .ref m24, .ref m25, .int m26, .int m27, .int m28, .int m29, .int m30, .int m31, .ref m32, .ref m33, .ref m34, .ref m35, .int m36, .ref m37, .int m38, .ref m39, .ref m40, .ref m41, .ref m42, .ref m43]))] [.ref h0, .int i, .int v]) (rq_x (some (.int 0))) 0 0 (fun _ => False) := by
  refine Met.ofW (cc := cX8_secret) (maxL := 3) (ret := (some .boolean)) (by decide) rfl ?_
  intro p e s m args below meth c s₁ B hml hv
  obtain ⟨rfl, hP, hK⟩ := hv
  have hx := B.exec
  have hb := B.bytes
  have hr := B.returns
  have hts := atoms_spec (ws := wsX8_secret) B.pre
  have hown : s.vm.findClass RX8 = some m.cls := findClass_of_methodNamed B.named
  have hlocks := B.notSynchronized
  have hin_X8 : ∀ w ∈ wsX80, w ∈ wsX8_secret := fun w h => List.mem_cons_of_mem _ (List.mem_append_right _ h)
  have w_RX8_140 := hts (.fieldLink RX8 140 "MixElectionModel" "stage" "I") (by decide +kernel)
  have w_RX8_112 := hts (.fieldLink RX8 112 "MixElectionModel" "threshold" "I") (by decide +kernel)
  have hl := lv_entry ([.ref h0, .int i, .int v]) (n := 3) (Nat.le_of_ble_eq_true rfl)
  rw [lg_entry_eq]
  generalize (lg_sl ([.ref h0, .int i, .int v]) ++ List.replicate (3 - (lg_sl ([.ref h0, .int i, .int v])).length) Slot.unset).toArray = ls at hl ⊢
  have hl : lv_has ls 3 [(0, .ref h0), (1, .int i), (2, .int v)] := hl
  refine lv_aload_n hx hb dX8_secret_0 rfl (lv_at hl 0 rfl) ?_
  refine va_get (D := D) (ci := 7) (v := .int m6) (C := RX8) (T := TX8) (N := 44) hx hb hts hin_X8 hown hK hP 0 rfl rfl 6 (by decide) (w_RX8_140) (fun _ h9 => h9) rfl dX8_secret_1 ?_
  refine lv_if_ne (tgt := 37) hx hb dX8_secret_4 (by decide) (fun c_4 => ?_) (fun c_4 => ?_)
  · exact absurd hst c_4
  · skip
    refine lv_iload_n hx hb dX8_secret_7 rfl (lv_at hl 1 rfl) ?_
    refine lv_iconst (v := 0) hx hb dX8_secret_8 (by decide) ?_
    refine lv_aload_n hx hb dX8_secret_9 rfl (lv_at hl 0 rfl) ?_
    refine va_get (D := D) (ci := 7) (v := .int m4) (C := RX8) (T := TX8) (N := 44) hx hb hts hin_X8 hown hK hP 0 rfl rfl 4 (by decide) (w_RX8_112) (fun _ h9 => h9) rfl dX8_secret_10 ?_
    refine lv_iconst (v := 1) hx hb dX8_secret_13 (by decide) ?_
    refine lv_isub hx hb dX8_secret_14 ?_
    refine rq_call1 (v := .int (bI (0 ≤ i ∧ i ≤ (m4 - 1)))) (rn_S (As := [.int i, .int 0, .int (m4 - 1)]) (rest := []) ⟨hx, hb, hml, hown, hts⟩ (c_X8_in l D cA i 0 (m4 - 1)) (va_cwS 3 hts gX8_secret_X8_in rfl rfl rfl (by decide +kernel) ⟨Nat.le_of_ble_eq_true rfl, Nat.le_of_ble_eq_true rfl⟩) hK hP [] rfl rfl hl.1 rfl (Nat.le_of_ble_eq_true rfl) dX8_secret_15 ⟨Nat.le_of_ble_eq_true rfl, Nat.le_of_ble_eq_true rfl⟩) ?_
    refine lv_if_eq (tgt := 37) hx hb dX8_secret_18 (by decide) (fun c_18 => ?_) (fun c_18 => ?_)
    · skip
      refine lv_iconst (v := 0) hx hb dX8_secret_37 (by decide) ?_
      exact W.zret (v := 0) hx hb hr rfl (fun t ht hW => ⟨congrArg (fun z => Outcome.returned (some (Value.int z))) (rfl), ht⟩) (fun _ h => by cases h) dX8_secret_38
    · skip
      refine lv_aload_n hx hb dX8_secret_21 rfl (lv_at hl 0 rfl) ?_
      refine lv_iload_n hx hb dX8_secret_22 rfl (lv_at hl 2 rfl) ?_
      refine rq_call1 (v := .int (bI (0 ≤ v ∧ v ≤ m1 - 1))) (rn_V (As := [.int v]) (rest := []) (ci := 7) (fs := [.int m0, .int m1, .int m2, .int m3, .int m4, .ref m5, .int m6, .int m7, .int m8, .ref m9, .ref m10, .ref m11, .int m12, .ref m13, .ref m14, .ref m15, .ref m16, .int m17, .ref m18, .ref m19, .ref m20, .ref m21, .ref m22, .ref m23, .ref m24, .ref m25, .int m26, .int m27, .int m28, .int m29, .int m30, .int m31, .ref m32, .ref m33, .ref m34, .ref m35, .int m36, .ref m37, .int m38, .ref m39, .ref m40, .ref m41, .ref m42, .ref m43]) ⟨hx, hb, hml, hown, hts⟩ (c_X8_isExponent l D cA h0 m0 m1 m2 m3 m4 m5 m6 m7 m8 m9 m10 m11 m12 m13 m14 m15 m16 m17 m18 m19 m20 m21 m22 m23 m24 m25 m26 m27 m28 m29 m30 m31 m32 m33 m34 m35 m36 m37 m38 m39 m40 m41 m42 m43 v) rfl (cwV 1 hts gX8_secret_X8_isExponent rfl rfl rfl (by decide +kernel) ⟨Nat.le_of_ble_eq_true rfl, Nat.le_of_ble_eq_true rfl⟩) hK hP [0] rfl rfl rfl hl.1 rfl (Nat.le_of_ble_eq_true rfl) dX8_secret_23 ⟨Nat.le_of_ble_eq_true rfl, Nat.le_of_ble_eq_true rfl⟩) ?_
      refine lv_if_eq (tgt := 37) hx hb dX8_secret_26 (by decide) (fun c_26 => ?_) (fun c_26 => ?_)
      · skip
        refine lv_iconst (v := 0) hx hb dX8_secret_37 (by decide) ?_
        exact W.zret (v := 0) hx hb hr rfl (fun t ht hW => ⟨congrArg (fun z => Outcome.returned (some (Value.int z))) (rfl), ht⟩) (fun _ h => by cases h) dX8_secret_38
      · skip
        refine lv_iload_n hx hb dX8_secret_29 rfl (lv_at hl 1 rfl) ?_
        refine lv_if_ne (tgt := 39) hx hb dX8_secret_30 (by decide) (fun c_30 => ?_) (fun c_30 => ?_)
        · skip
          exact absurd ⟨(bI_1 c_18).1, (le_1 htk (by omega) (by omega)).mp (bI_1 c_18).2, ⟨(bI_1 c_26).1, (le_1 hgq (by omega) (by omega)).mp (bI_1 c_26).2⟩, fun h => c_30 h.1⟩ hs
        · skip
          refine lv_iload_n hx hb dX8_secret_33 rfl (lv_at hl 2 rfl) ?_
          refine lv_if_ne (tgt := 39) hx hb dX8_secret_34 (by decide) (fun c_34 => ?_) (fun c_34 => ?_)
          · skip
            exact absurd ⟨(bI_1 c_18).1, (le_1 htk (by omega) (by omega)).mp (bI_1 c_18).2, ⟨(bI_1 c_26).1, (le_1 hgq (by omega) (by omega)).mp (bI_1 c_26).2⟩, fun h => c_34 h.2⟩ hs
          · skip
            refine lv_iconst (v := 0) hx hb dX8_secret_37 (by decide) ?_
            exact W.zret (v := 0) hx hb hr rfl (fun t ht hW => ⟨congrArg (fun z => Outcome.returned (some (Value.int z))) (rfl), ht⟩) (fun _ h => by cases h) dX8_secret_38

set_option maxHeartbeats 4000000 in
set_option maxRecDepth 100000 in
theorem c_X8_secret_ok (l : Launch) (D : va_G) (cA : Nat → ClassId) (h0 : Nat) (m0 : Int32) (m1 : Int32) (m2 : Int32) (m3 : Int32) (m4 : Int32) (m5 : Nat) (m6 : Int32) (m7 : Int32) (m8 : Int32) (m9 : Nat) (m10 : Nat) (m11 : Nat) (m12 : Int32) (m13 : Nat) (m14 : Nat) (m15 : Nat) (m16 : Nat) (m17 : Int32) (m18 : Nat) (m19 : Nat) (m20 : Nat) (m21 : Nat) (m22 : Nat) (m23 : Nat) (m24 : Nat) (m25 : Nat) (m26 : Int32) (m27 : Int32) (m28 : Int32) (m29 : Int32) (m30 : Int32) (m31 : Int32) (m32 : Nat) (m33 : Nat) (m34 : Nat) (m35 : Nat) (m36 : Int32) (m37 : Nat) (m38 : Int32) (m39 : Nat) (m40 : Nat) (m41 : Nat) (m42 : Nat) (m43 : Nat) (i : Int32) (v : Int32) (k0 : Nat) (q0 : Nat) (sf : Nat → Int32) (hst : m6 = 0) (htk : m4 = nI k0) (hk1 : 1 ≤ k0 ∧ k0 ≤ 5) (hgq : m1 = nI q0) (hq1 : 1 ≤ q0 ∧ q0 < 1000000) (hs : scC i v m4 m1) : Met l yX8_secret wsX8_secret ({ frames := 2, cells := 0, slots := 0, locals := 43 }) (wPc vwCl D cA [(h0, .inr (7, [.int m0, .int m1, .int m2, .int m3, .int m4, .ref m5, .int m6, .int m7, .int m8, .ref m9, .ref m10, .ref m11, .int m12, .ref m13, .ref m14, .ref m15, .ref m16, .int m17, .ref m18, .ref m19, .ref m20, .ref m21, .ref m22, .ref m23, .ref m24, .ref m25, .int m26, .int m27, .int m28, .int m29, .int m30, .int m31, .ref m32, .ref m33, .ref m34, .ref m35, .int m36, .ref m37, .int m38, .ref m39, .ref m40, .ref m41, .ref m42, .ref m43])), (m5, .inl (cA 0, 5, .inl sf))] [.ref h0, .int i, .int v]) (wq_x vwCl D [(h0, .inr (7, [.int m0, .int m1, .int m2, .int m3, .int m4, .ref m5, .int m6, .int m7, .int m8, .ref m9, .ref m10, .ref m11, .int m12, .ref m13, .ref m14, .ref m15, .ref m16, .int m17, .ref m18, .ref m19, .ref m20, .ref m21, .ref m22, .ref m23, .ref m24, .ref m25, .int m26, .int m27, .int m28, .int m29, .int m30, .int m31, .ref m32, .ref m33, .ref m34, .ref m35, .int m36, .ref m37, .int m38, .ref m39, .ref m40, .ref m41, .ref m42, .ref m43])), (m5, .inl (cA 0, 5, .inl (upd sf i.toNatClampNeg v)))] (some (.int 1)) (wA [(h0, .inr (7, [.int m0, .int m1, .int m2, .int m3, .int m4, .ref m5, .int m6, .int m7, .int m8, .ref m9, .ref m10, .ref m11, .int m12, .ref m13, .ref m14, .ref m15, .ref m16, .int m17, .ref m18, .ref m19, .ref m20, .ref m21, .ref m22, .ref m23, .ref m24, .ref m25, .int m26, .int m27, .int m28, .int m29, .int m30, .int m31, .ref m32, .ref m33, .ref m34, .ref m35, .int m36, .ref m37, .int m38, .ref m39, .ref m40, .ref m41, .ref m42, .ref m43])), (m5, .inl (cA 0, 5, .inl sf))])) 0 0 (wA [(h0, .inr (7, [.int m0, .int m1, .int m2, .int m3, .int m4, .ref m5, .int m6, .int m7, .int m8, .ref m9, .ref m10, .ref m11, .int m12, .ref m13, .ref m14, .ref m15, .ref m16, .int m17, .ref m18, .ref m19, .ref m20, .ref m21, .ref m22, .ref m23, .ref m24, .ref m25, .int m26, .int m27, .int m28, .int m29, .int m30, .int m31, .ref m32, .ref m33, .ref m34, .ref m35, .int m36, .ref m37, .int m38, .ref m39, .ref m40, .ref m41, .ref m42, .ref m43])), (m5, .inl (cA 0, 5, .inl sf))]) := by
  refine Met.ofW (cc := cX8_secret) (maxL := 3) (ret := (some .boolean)) (by decide) rfl ?_
  intro p e s m args below meth c s₁ B hml hv
  obtain ⟨rfl, hP, hK, hD0⟩ := hv
  have hx := B.exec
  have hb := B.bytes
  have hr := B.returns
  have hts := atoms_spec (ws := wsX8_secret) B.pre
  have hown : s.vm.findClass RX8 = some m.cls := findClass_of_methodNamed B.named
  have hlocks := B.notSynchronized
  have hin_X8 : ∀ w ∈ wsX80, w ∈ wsX8_secret := fun w h => List.mem_cons_of_mem _ (List.mem_append_right _ h)
  have w_RX8_140 := hts (.fieldLink RX8 140 "MixElectionModel" "stage" "I") (by decide +kernel)
  have w_RX8_112 := hts (.fieldLink RX8 112 "MixElectionModel" "threshold" "I") (by decide +kernel)
  have w_RX8_7 := hts (.fieldLink RX8 7 "MixElectionModel" "secret" "[I") (by decide +kernel)
  have hD : va_D (wA [(h0, .inr (7, [.int m0, .int m1, .int m2, .int m3, .int m4, .ref m5, .int m6, .int m7, .int m8, .ref m9, .ref m10, .ref m11, .int m12, .ref m13, .ref m14, .ref m15, .ref m16, .int m17, .ref m18, .ref m19, .ref m20, .ref m21, .ref m22, .ref m23, .ref m24, .ref m25, .int m26, .int m27, .int m28, .int m29, .int m30, .int m31, .ref m32, .ref m33, .ref m34, .ref m35, .int m36, .ref m37, .int m38, .ref m39, .ref m40, .ref m41, .ref m42, .ref m43])), (m5, .inl (cA 0, 5, .inl sf))]) [(h0, .inr (7, [.int m0, .int m1, .int m2, .int m3, .int m4, .ref m5, .int m6, .int m7, .int m8, .ref m9, .ref m10, .ref m11, .int m12, .ref m13, .ref m14, .ref m15, .ref m16, .int m17, .ref m18, .ref m19, .ref m20, .ref m21, .ref m22, .ref m23, .ref m24, .ref m25, .int m26, .int m27, .int m28, .int m29, .int m30, .int m31, .ref m32, .ref m33, .ref m34, .ref m35, .int m36, .ref m37, .int m38, .ref m39, .ref m40, .ref m41, .ref m42, .ref m43])), (m5, .inl (cA 0, 5, .inl sf))] := ⟨hD0.1, fun k q h => List.mem_map.mpr ⟨q, List.mem_of_getElem? h, rfl⟩⟩
  have hS : va_S (wA [(h0, .inr (7, [.int m0, .int m1, .int m2, .int m3, .int m4, .ref m5, .int m6, .int m7, .int m8, .ref m9, .ref m10, .ref m11, .int m12, .ref m13, .ref m14, .ref m15, .ref m16, .int m17, .ref m18, .ref m19, .ref m20, .ref m21, .ref m22, .ref m23, .ref m24, .ref m25, .int m26, .int m27, .int m28, .int m29, .int m30, .int m31, .ref m32, .ref m33, .ref m34, .ref m35, .int m36, .ref m37, .int m38, .ref m39, .ref m40, .ref m41, .ref m42, .ref m43])), (m5, .inl (cA 0, 5, .inl sf))]) s.heap s.heap [] := va_S.rf
  generalize hAe : wA [(h0, .inr (7, [.int m0, .int m1, .int m2, .int m3, .int m4, .ref m5, .int m6, .int m7, .int m8, .ref m9, .ref m10, .ref m11, .int m12, .ref m13, .ref m14, .ref m15, .ref m16, .int m17, .ref m18, .ref m19, .ref m20, .ref m21, .ref m22, .ref m23, .ref m24, .ref m25, .int m26, .int m27, .int m28, .int m29, .int m30, .int m31, .ref m32, .ref m33, .ref m34, .ref m35, .int m36, .ref m37, .int m38, .ref m39, .ref m40, .ref m41, .ref m42, .ref m43])), (m5, .inl (cA 0, 5, .inl sf))] = A at hD hS ⊢
  have hP : va_P D vwCl [(h0, .inr (7, [.int m0, .int m1, .int m2, .int m3, .int m4, .ref m5, .int m6, .int m7, .int m8, .ref m9, .ref m10, .ref m11, .int m12, .ref m13, .ref m14, .ref m15, .ref m16, .int m17, .ref m18, .ref m19, .ref m20, .ref m21, .ref m22, .ref m23, .ref m24, .ref m25, .int m26, .int m27, .int m28, .int m29, .int m30, .int m31, .ref m32, .ref m33, .ref m34, .ref m35, .int m36, .ref m37, .int m38, .ref m39, .ref m40, .ref m41, .ref m42, .ref m43])), (m5, .inl (cA 0, 5, .inl sf))] s.heap := hP
  have hl := lv_entry ([.ref h0, .int i, .int v]) (n := 3) (Nat.le_of_ble_eq_true rfl)
  rw [lg_entry_eq]
  generalize (lg_sl ([.ref h0, .int i, .int v]) ++ List.replicate (3 - (lg_sl ([.ref h0, .int i, .int v])).length) Slot.unset).toArray = ls at hl ⊢
  have hl : lv_has ls 3 [(0, .ref h0), (1, .int i), (2, .int v)] := hl
  refine lv_aload_n hx hb dX8_secret_0 rfl (lv_at hl 0 rfl) ?_
  refine va_get (D := D) (ci := 7) (v := .int m6) (C := RX8) (T := TX8) (N := 44) hx hb hts hin_X8 hown hK hP 0 rfl rfl 6 (by decide) (w_RX8_140) (fun _ h9 => h9) rfl dX8_secret_1 ?_
  refine lv_if_ne (tgt := 37) hx hb dX8_secret_4 (by decide) (fun c_4 => ?_) (fun c_4 => ?_)
  · exact absurd hst c_4
  · skip
    refine lv_iload_n hx hb dX8_secret_7 rfl (lv_at hl 1 rfl) ?_
    refine lv_iconst (v := 0) hx hb dX8_secret_8 (by decide) ?_
    refine lv_aload_n hx hb dX8_secret_9 rfl (lv_at hl 0 rfl) ?_
    refine va_get (D := D) (ci := 7) (v := .int m4) (C := RX8) (T := TX8) (N := 44) hx hb hts hin_X8 hown hK hP 0 rfl rfl 4 (by decide) (w_RX8_112) (fun _ h9 => h9) rfl dX8_secret_10 ?_
    refine lv_iconst (v := 1) hx hb dX8_secret_13 (by decide) ?_
    refine lv_isub hx hb dX8_secret_14 ?_
    refine rq_call1 (v := .int (bI (0 ≤ i ∧ i ≤ (m4 - 1)))) (rn_S (As := [.int i, .int 0, .int (m4 - 1)]) (rest := []) ⟨hx, hb, hml, hown, hts⟩ (c_X8_in l D cA i 0 (m4 - 1)) (va_cwS 3 hts gX8_secret_X8_in rfl rfl rfl (by decide +kernel) ⟨Nat.le_of_ble_eq_true rfl, Nat.le_of_ble_eq_true rfl⟩) hK hP [] rfl rfl hl.1 rfl (Nat.le_of_ble_eq_true rfl) dX8_secret_15 ⟨Nat.le_of_ble_eq_true rfl, Nat.le_of_ble_eq_true rfl⟩) ?_
    refine lv_if_eq (tgt := 37) hx hb dX8_secret_18 (by decide) (fun c_18 => ?_) (fun c_18 => ?_)
    · skip
      exact absurd ⟨hs.1, (le_1 htk (by omega) (by omega)).mpr hs.2.1⟩ (bI_0 c_18)
    · skip
      refine lv_aload_n hx hb dX8_secret_21 rfl (lv_at hl 0 rfl) ?_
      refine lv_iload_n hx hb dX8_secret_22 rfl (lv_at hl 2 rfl) ?_
      refine rq_call1 (v := .int (bI (0 ≤ v ∧ v ≤ m1 - 1))) (rn_V (As := [.int v]) (rest := []) (ci := 7) (fs := [.int m0, .int m1, .int m2, .int m3, .int m4, .ref m5, .int m6, .int m7, .int m8, .ref m9, .ref m10, .ref m11, .int m12, .ref m13, .ref m14, .ref m15, .ref m16, .int m17, .ref m18, .ref m19, .ref m20, .ref m21, .ref m22, .ref m23, .ref m24, .ref m25, .int m26, .int m27, .int m28, .int m29, .int m30, .int m31, .ref m32, .ref m33, .ref m34, .ref m35, .int m36, .ref m37, .int m38, .ref m39, .ref m40, .ref m41, .ref m42, .ref m43]) ⟨hx, hb, hml, hown, hts⟩ (c_X8_isExponent l D cA h0 m0 m1 m2 m3 m4 m5 m6 m7 m8 m9 m10 m11 m12 m13 m14 m15 m16 m17 m18 m19 m20 m21 m22 m23 m24 m25 m26 m27 m28 m29 m30 m31 m32 m33 m34 m35 m36 m37 m38 m39 m40 m41 m42 m43 v) rfl (cwV 1 hts gX8_secret_X8_isExponent rfl rfl rfl (by decide +kernel) ⟨Nat.le_of_ble_eq_true rfl, Nat.le_of_ble_eq_true rfl⟩) hK hP [0] rfl rfl rfl hl.1 rfl (Nat.le_of_ble_eq_true rfl) dX8_secret_23 ⟨Nat.le_of_ble_eq_true rfl, Nat.le_of_ble_eq_true rfl⟩) ?_
      refine lv_if_eq (tgt := 37) hx hb dX8_secret_26 (by decide) (fun c_26 => ?_) (fun c_26 => ?_)
      · skip
        exact absurd ⟨hs.2.2.1.1, (le_1 hgq (by omega) (by omega)).mpr hs.2.2.1.2⟩ (bI_0 c_26)
      · skip
        refine lv_iload_n hx hb dX8_secret_29 rfl (lv_at hl 1 rfl) ?_
        refine lv_if_ne (tgt := 39) hx hb dX8_secret_30 (by decide) (fun c_30 => ?_) (fun c_30 => ?_)
        · skip
          refine lv_aload_n hx hb dX8_secret_39 rfl (lv_at hl 0 rfl) ?_
          refine va_get (D := D) (ci := 7) (v := .ref m5) (C := RX8) (T := TX8) (N := 44) hx hb hts hin_X8 hown hK hP 0 rfl rfl 5 (by decide) (w_RX8_7) (fun _ h9 => h9) rfl dX8_secret_40 ?_
          refine lv_iload_n hx hb dX8_secret_43 rfl (lv_at hl 1 rfl) ?_
          refine lv_iload_n hx hb dX8_secret_44 rfl (lv_at hl 2 rfl) ?_
          refine va_iast hx hb hK hP hD hS 1 0 rfl rfl (ix_in ⟨hs.1, hs.2.1⟩ htk hk1.2) dX8_secret_45 (fun H locs hP hD hS => ?_)
          have hP : va_P D vwCl [(h0, .inr (7, [.int m0, .int m1, .int m2, .int m3, .int m4, .ref m5, .int m6, .int m7, .int m8, .ref m9, .ref m10, .ref m11, .int m12, .ref m13, .ref m14, .ref m15, .ref m16, .int m17, .ref m18, .ref m19, .ref m20, .ref m21, .ref m22, .ref m23, .ref m24, .ref m25, .int m26, .int m27, .int m28, .int m29, .int m30, .int m31, .ref m32, .ref m33, .ref m34, .ref m35, .int m36, .ref m37, .int m38, .ref m39, .ref m40, .ref m41, .ref m42, .ref m43])), (m5, .inl (cA 0, 5, .inl (upd sf i.toNatClampNeg v)))] H := hP
          have hD : va_D A [(h0, .inr (7, [.int m0, .int m1, .int m2, .int m3, .int m4, .ref m5, .int m6, .int m7, .int m8, .ref m9, .ref m10, .ref m11, .int m12, .ref m13, .ref m14, .ref m15, .ref m16, .int m17, .ref m18, .ref m19, .ref m20, .ref m21, .ref m22, .ref m23, .ref m24, .ref m25, .int m26, .int m27, .int m28, .int m29, .int m30, .int m31, .ref m32, .ref m33, .ref m34, .ref m35, .int m36, .ref m37, .int m38, .ref m39, .ref m40, .ref m41, .ref m42, .ref m43])), (m5, .inl (cA 0, 5, .inl (upd sf i.toNatClampNeg v)))] := hD
          refine lv_iconst (v := 1) hx hb dX8_secret_46 (by decide) ?_
          have hP9 : va_P D vwCl [(h0, .inr (7, [.int m0, .int m1, .int m2, .int m3, .int m4, .ref m5, .int m6, .int m7, .int m8, .ref m9, .ref m10, .ref m11, .int m12, .ref m13, .ref m14, .ref m15, .ref m16, .int m17, .ref m18, .ref m19, .ref m20, .ref m21, .ref m22, .ref m23, .ref m24, .ref m25, .int m26, .int m27, .int m28, .int m29, .int m30, .int m31, .ref m32, .ref m33, .ref m34, .ref m35, .int m36, .ref m37, .int m38, .ref m39, .ref m40, .ref m41, .ref m42, .ref m43])), (m5, .inl (cA 0, 5, .inl (upd sf i.toNatClampNeg v)))] H := hP
          exact W.zret (v := 1) hx hb hr rfl (fun t ht hW => ⟨congrArg (fun z => Outcome.returned (some (Value.int z))) (rfl), by rw [ht]; exact hP9, hS.F ht⟩) hS.2.2 dX8_secret_47
        · skip
          refine lv_iload_n hx hb dX8_secret_33 rfl (lv_at hl 2 rfl) ?_
          refine lv_if_ne (tgt := 39) hx hb dX8_secret_34 (by decide) (fun c_34 => ?_) (fun c_34 => ?_)
          · skip
            refine lv_aload_n hx hb dX8_secret_39 rfl (lv_at hl 0 rfl) ?_
            refine va_get (D := D) (ci := 7) (v := .ref m5) (C := RX8) (T := TX8) (N := 44) hx hb hts hin_X8 hown hK hP 0 rfl rfl 5 (by decide) (w_RX8_7) (fun _ h9 => h9) rfl dX8_secret_40 ?_
            refine lv_iload_n hx hb dX8_secret_43 rfl (lv_at hl 1 rfl) ?_
            refine lv_iload_n hx hb dX8_secret_44 rfl (lv_at hl 2 rfl) ?_
            refine va_iast hx hb hK hP hD hS 1 0 rfl rfl (ix_in ⟨hs.1, hs.2.1⟩ htk hk1.2) dX8_secret_45 (fun H locs hP hD hS => ?_)
            have hP : va_P D vwCl [(h0, .inr (7, [.int m0, .int m1, .int m2, .int m3, .int m4, .ref m5, .int m6, .int m7, .int m8, .ref m9, .ref m10, .ref m11, .int m12, .ref m13, .ref m14, .ref m15, .ref m16, .int m17, .ref m18, .ref m19, .ref m20, .ref m21, .ref m22, .ref m23, .ref m24, .ref m25, .int m26, .int m27, .int m28, .int m29, .int m30, .int m31, .ref m32, .ref m33, .ref m34, .ref m35, .int m36, .ref m37, .int m38, .ref m39, .ref m40, .ref m41, .ref m42, .ref m43])), (m5, .inl (cA 0, 5, .inl (upd sf i.toNatClampNeg v)))] H := hP
            have hD : va_D A [(h0, .inr (7, [.int m0, .int m1, .int m2, .int m3, .int m4, .ref m5, .int m6, .int m7, .int m8, .ref m9, .ref m10, .ref m11, .int m12, .ref m13, .ref m14, .ref m15, .ref m16, .int m17, .ref m18, .ref m19, .ref m20, .ref m21, .ref m22, .ref m23, .ref m24, .ref m25, .int m26, .int m27, .int m28, .int m29, .int m30, .int m31, .ref m32, .ref m33, .ref m34, .ref m35, .int m36, .ref m37, .int m38, .ref m39, .ref m40, .ref m41, .ref m42, .ref m43])), (m5, .inl (cA 0, 5, .inl (upd sf i.toNatClampNeg v)))] := hD
            refine lv_iconst (v := 1) hx hb dX8_secret_46 (by decide) ?_
            have hP9 : va_P D vwCl [(h0, .inr (7, [.int m0, .int m1, .int m2, .int m3, .int m4, .ref m5, .int m6, .int m7, .int m8, .ref m9, .ref m10, .ref m11, .int m12, .ref m13, .ref m14, .ref m15, .ref m16, .int m17, .ref m18, .ref m19, .ref m20, .ref m21, .ref m22, .ref m23, .ref m24, .ref m25, .int m26, .int m27, .int m28, .int m29, .int m30, .int m31, .ref m32, .ref m33, .ref m34, .ref m35, .int m36, .ref m37, .int m38, .ref m39, .ref m40, .ref m41, .ref m42, .ref m43])), (m5, .inl (cA 0, 5, .inl (upd sf i.toNatClampNeg v)))] H := hP
            exact W.zret (v := 1) hx hb hr rfl (fun t ht hW => ⟨congrArg (fun z => Outcome.returned (some (Value.int z))) (rfl), by rw [ht]; exact hP9, hS.F ht⟩) hS.2.2 dX8_secret_47
          · skip
            exact absurd ⟨c_30, c_34⟩ hs.2.2.2

set_option maxHeartbeats 4000000 in
set_option maxRecDepth 100000 in
theorem c_X8_enter (l : Launch) (D : va_G) (cA : Nat → ClassId) (h0 : Nat) (m0 : Int32) (m1 : Int32) (m2 : Int32) (m3 : Int32) (m4 : Int32) (m5 : Nat) (m6 : Int32) (m7 : Int32) (m8 : Int32) (m9 : Nat) (m10 : Nat) (m11 : Nat) (m12 : Int32) (m13 : Nat) (m14 : Nat) (m15 : Nat) (m16 : Nat) (m17 : Int32) (m18 : Nat) (m19 : Nat) (m20 : Nat) (m21 : Nat) (m22 : Nat) (m23 : Nat) (m24 : Nat) (m25 : Nat) (m26 : Int32) (m27 : Int32) (m28 : Int32) (m29 : Int32) (m30 : Int32) (m31 : Int32) (m32 : Nat) (m33 : Nat) (m34 : Nat) (m35 : Nat) (m36 : Int32) (m37 : Nat) (m38 : Int32) (m39 : Nat) (m40 : Nat) (m41 : Nat) (m42 : Nat) (m43 : Nat) (kf : Nat → Int32) (xf : Nat → Int64) (yf : Nat → Int64) (zf : Nat → Int64) (cf : Nat → Int64) (kd : Int32) (x : Int64) (y : Int64) (z : Int64) (n0 : Nat) (hn : m38 = nI n0) (h6 : n0 < 600) : Met l yX8_enter wsX8_enter ({ frames := 1, cells := 0, slots := 0, locals := 23 }) (wPc vwCl D cA [(h0, .inr (7, [.int m0, .int m1, .int m2, .int m3, .int m4, .ref m5, .int m6, .int m7, .int m8, .ref m9, .ref m10, .ref m11, .int m12, .ref m13, .ref m14, .ref m15, .ref m16, .int m17, .ref m18, .ref m19, .ref m20, .ref m21, .ref m22, .ref m23, .ref m24, .ref m25, .int m26, .int m27, .int m28, .int m29, .int m30, .int m31, .ref m32, .ref m33, .ref m34, .ref m35, .int m36, .ref m37, .int m38, .ref m39, .ref m40, .ref m41, .ref m42, .ref m43])), (m39, .inl (cA 0, 600, .inl kf)), (m40, .inl (cA 2, 600, .inr (.inl xf))), (m41, .inl (cA 2, 600, .inr (.inl yf))), (m42, .inl (cA 2, 600, .inr (.inl zf))), (m43, .inl (cA 2, 600, .inr (.inl cf)))] [.ref h0, .int kd, .long x, .long y, .long z]) (wq_x vwCl D [(h0, .inr (7, [.int m0, .int m1, .int m2, .int m3, .int m4, .ref m5, .int m6, .int m7, .int m8, .ref m9, .ref m10, .ref m11, .int m12, .ref m13, .ref m14, .ref m15, .ref m16, .int m17, .ref m18, .ref m19, .ref m20, .ref m21, .ref m22, .ref m23, .ref m24, .ref m25, .int m26, .int m27, .int m28, .int m29, .int m30, .int m31, .ref m32, .ref m33, .ref m34, .ref m35, .int m36, .ref m37, .int (m38 + 1), .ref m39, .ref m40, .ref m41, .ref m42, .ref m43])), (m39, .inl (cA 0, 600, .inl (upd kf m38.toNatClampNeg kd))), (m40, .inl (cA 2, 600, .inr (.inl (vp_updL xf m38.toNatClampNeg x)))), (m41, .inl (cA 2, 600, .inr (.inl (vp_updL yf m38.toNatClampNeg y)))), (m42, .inl (cA 2, 600, .inr (.inl (vp_updL zf m38.toNatClampNeg z)))), (m43, .inl (cA 2, 600, .inr (.inl (vp_updL cf m38.toNatClampNeg (dg (dg (dg (dg (ech cf m38) (kd.toInt64)) x) y) z)))))] (some (.long (dg (dg (dg (dg (ech cf m38) (kd.toInt64)) x) y) z))) (wA [(h0, .inr (7, [.int m0, .int m1, .int m2, .int m3, .int m4, .ref m5, .int m6, .int m7, .int m8, .ref m9, .ref m10, .ref m11, .int m12, .ref m13, .ref m14, .ref m15, .ref m16, .int m17, .ref m18, .ref m19, .ref m20, .ref m21, .ref m22, .ref m23, .ref m24, .ref m25, .int m26, .int m27, .int m28, .int m29, .int m30, .int m31, .ref m32, .ref m33, .ref m34, .ref m35, .int m36, .ref m37, .int m38, .ref m39, .ref m40, .ref m41, .ref m42, .ref m43])), (m39, .inl (cA 0, 600, .inl kf)), (m40, .inl (cA 2, 600, .inr (.inl xf))), (m41, .inl (cA 2, 600, .inr (.inl yf))), (m42, .inl (cA 2, 600, .inr (.inl zf))), (m43, .inl (cA 2, 600, .inr (.inl cf)))])) 0 0 (wA [(h0, .inr (7, [.int m0, .int m1, .int m2, .int m3, .int m4, .ref m5, .int m6, .int m7, .int m8, .ref m9, .ref m10, .ref m11, .int m12, .ref m13, .ref m14, .ref m15, .ref m16, .int m17, .ref m18, .ref m19, .ref m20, .ref m21, .ref m22, .ref m23, .ref m24, .ref m25, .int m26, .int m27, .int m28, .int m29, .int m30, .int m31, .ref m32, .ref m33, .ref m34, .ref m35, .int m36, .ref m37, .int m38, .ref m39, .ref m40, .ref m41, .ref m42, .ref m43])), (m39, .inl (cA 0, 600, .inl kf)), (m40, .inl (cA 2, 600, .inr (.inl xf))), (m41, .inl (cA 2, 600, .inr (.inl yf))), (m42, .inl (cA 2, 600, .inr (.inl zf))), (m43, .inl (cA 2, 600, .inr (.inl cf)))]) := by
  refine Met.ofW (cc := cX8_enter) (maxL := 10) (ret := (some .long)) (by decide) rfl ?_
  intro p e s m args below meth c s₁ B hml hv
  obtain ⟨rfl, hP, hK, hD0⟩ := hv
  have hx := B.exec
  have hb := B.bytes
  have hr := B.returns
  have hts := atoms_spec (ws := wsX8_enter) B.pre
  have hown : s.vm.findClass RX8 = some m.cls := findClass_of_methodNamed B.named
  have hlocks := B.notSynchronized
  have hin_X8 : ∀ w ∈ wsX80, w ∈ wsX8_enter := fun w h => List.mem_cons_of_mem _ (List.mem_append_right _ h)
  have w_RX8_74 := hts (.fieldLink RX8 74 "MixElectionModel" "entryKind" "[I") (by decide +kernel)
  have w_RX8_135 := hts (.fieldLink RX8 135 "MixElectionModel" "entries" "I") (by decide +kernel)
  have w_RX8_77 := hts (.fieldLink RX8 77 "MixElectionModel" "entryX" "[J") (by decide +kernel)
  have w_RX8_81 := hts (.fieldLink RX8 81 "MixElectionModel" "entryY" "[J") (by decide +kernel)
  have w_RX8_84 := hts (.fieldLink RX8 84 "MixElectionModel" "entryZ" "[J") (by decide +kernel)
  have w_RX8_87 := hts (.fieldLink RX8 87 "MixElectionModel" "chain" "[J") (by decide +kernel)
  have hD : va_D (wA [(h0, .inr (7, [.int m0, .int m1, .int m2, .int m3, .int m4, .ref m5, .int m6, .int m7, .int m8, .ref m9, .ref m10, .ref m11, .int m12, .ref m13, .ref m14, .ref m15, .ref m16, .int m17, .ref m18, .ref m19, .ref m20, .ref m21, .ref m22, .ref m23, .ref m24, .ref m25, .int m26, .int m27, .int m28, .int m29, .int m30, .int m31, .ref m32, .ref m33, .ref m34, .ref m35, .int m36, .ref m37, .int m38, .ref m39, .ref m40, .ref m41, .ref m42, .ref m43])), (m39, .inl (cA 0, 600, .inl kf)), (m40, .inl (cA 2, 600, .inr (.inl xf))), (m41, .inl (cA 2, 600, .inr (.inl yf))), (m42, .inl (cA 2, 600, .inr (.inl zf))), (m43, .inl (cA 2, 600, .inr (.inl cf)))]) [(h0, .inr (7, [.int m0, .int m1, .int m2, .int m3, .int m4, .ref m5, .int m6, .int m7, .int m8, .ref m9, .ref m10, .ref m11, .int m12, .ref m13, .ref m14, .ref m15, .ref m16, .int m17, .ref m18, .ref m19, .ref m20, .ref m21, .ref m22, .ref m23, .ref m24, .ref m25, .int m26, .int m27, .int m28, .int m29, .int m30, .int m31, .ref m32, .ref m33, .ref m34, .ref m35, .int m36, .ref m37, .int m38, .ref m39, .ref m40, .ref m41, .ref m42, .ref m43])), (m39, .inl (cA 0, 600, .inl kf)), (m40, .inl (cA 2, 600, .inr (.inl xf))), (m41, .inl (cA 2, 600, .inr (.inl yf))), (m42, .inl (cA 2, 600, .inr (.inl zf))), (m43, .inl (cA 2, 600, .inr (.inl cf)))] := ⟨hD0.1, fun k q h => List.mem_map.mpr ⟨q, List.mem_of_getElem? h, rfl⟩⟩
  have hS : va_S (wA [(h0, .inr (7, [.int m0, .int m1, .int m2, .int m3, .int m4, .ref m5, .int m6, .int m7, .int m8, .ref m9, .ref m10, .ref m11, .int m12, .ref m13, .ref m14, .ref m15, .ref m16, .int m17, .ref m18, .ref m19, .ref m20, .ref m21, .ref m22, .ref m23, .ref m24, .ref m25, .int m26, .int m27, .int m28, .int m29, .int m30, .int m31, .ref m32, .ref m33, .ref m34, .ref m35, .int m36, .ref m37, .int m38, .ref m39, .ref m40, .ref m41, .ref m42, .ref m43])), (m39, .inl (cA 0, 600, .inl kf)), (m40, .inl (cA 2, 600, .inr (.inl xf))), (m41, .inl (cA 2, 600, .inr (.inl yf))), (m42, .inl (cA 2, 600, .inr (.inl zf))), (m43, .inl (cA 2, 600, .inr (.inl cf)))]) s.heap s.heap [] := va_S.rf
  generalize hAe : wA [(h0, .inr (7, [.int m0, .int m1, .int m2, .int m3, .int m4, .ref m5, .int m6, .int m7, .int m8, .ref m9, .ref m10, .ref m11, .int m12, .ref m13, .ref m14, .ref m15, .ref m16, .int m17, .ref m18, .ref m19, .ref m20, .ref m21, .ref m22, .ref m23, .ref m24, .ref m25, .int m26, .int m27, .int m28, .int m29, .int m30, .int m31, .ref m32, .ref m33, .ref m34, .ref m35, .int m36, .ref m37, .int m38, .ref m39, .ref m40, .ref m41, .ref m42, .ref m43])), (m39, .inl (cA 0, 600, .inl kf)), (m40, .inl (cA 2, 600, .inr (.inl xf))), (m41, .inl (cA 2, 600, .inr (.inl yf))), (m42, .inl (cA 2, 600, .inr (.inl zf))), (m43, .inl (cA 2, 600, .inr (.inl cf)))] = A at hD hS ⊢
  have hP : va_P D vwCl [(h0, .inr (7, [.int m0, .int m1, .int m2, .int m3, .int m4, .ref m5, .int m6, .int m7, .int m8, .ref m9, .ref m10, .ref m11, .int m12, .ref m13, .ref m14, .ref m15, .ref m16, .int m17, .ref m18, .ref m19, .ref m20, .ref m21, .ref m22, .ref m23, .ref m24, .ref m25, .int m26, .int m27, .int m28, .int m29, .int m30, .int m31, .ref m32, .ref m33, .ref m34, .ref m35, .int m36, .ref m37, .int m38, .ref m39, .ref m40, .ref m41, .ref m42, .ref m43])), (m39, .inl (cA 0, 600, .inl kf)), (m40, .inl (cA 2, 600, .inr (.inl xf))), (m41, .inl (cA 2, 600, .inr (.inl yf))), (m42, .inl (cA 2, 600, .inr (.inl zf))), (m43, .inl (cA 2, 600, .inr (.inl cf)))] s.heap := hP
  have hl := lv_entry ([.ref h0, .int kd, .long x, .long y, .long z]) (n := 10) (Nat.le_of_ble_eq_true rfl)
  rw [lg_entry_eq]
  generalize (lg_sl ([.ref h0, .int kd, .long x, .long y, .long z]) ++ List.replicate (10 - (lg_sl ([.ref h0, .int kd, .long x, .long y, .long z])).length) Slot.unset).toArray = ls at hl ⊢
  have hl : lv_has ls 10 [(0, .ref h0), (1, .int kd), (2, .long x), (4, .long y), (6, .long z)] := hl
  refine lv_aload_n hx hb dX8_enter_0 rfl (lv_at hl 0 rfl) ?_
  refine va_get (D := D) (ci := 7) (v := .ref m39) (C := RX8) (T := TX8) (N := 44) hx hb hts hin_X8 hown hK hP 0 rfl rfl 39 (by decide) (w_RX8_74) (fun _ h9 => h9) rfl dX8_enter_1 ?_
  refine lv_aload_n hx hb dX8_enter_4 rfl (lv_at hl 0 rfl) ?_
  refine va_get (D := D) (ci := 7) (v := .int m38) (C := RX8) (T := TX8) (N := 44) hx hb hts hin_X8 hown hK hP 0 rfl rfl 38 (by decide) (w_RX8_135) (fun _ h9 => h9) rfl dX8_enter_5 ?_
  refine lv_iload_n hx hb dX8_enter_8 rfl (lv_at hl 1 rfl) ?_
  refine va_iast hx hb hK hP hD hS 1 0 rfl rfl (ad_in hn h6) dX8_enter_9 (fun H locs hP hD hS => ?_)
  have hP : va_P D vwCl [(h0, .inr (7, [.int m0, .int m1, .int m2, .int m3, .int m4, .ref m5, .int m6, .int m7, .int m8, .ref m9, .ref m10, .ref m11, .int m12, .ref m13, .ref m14, .ref m15, .ref m16, .int m17, .ref m18, .ref m19, .ref m20, .ref m21, .ref m22, .ref m23, .ref m24, .ref m25, .int m26, .int m27, .int m28, .int m29, .int m30, .int m31, .ref m32, .ref m33, .ref m34, .ref m35, .int m36, .ref m37, .int m38, .ref m39, .ref m40, .ref m41, .ref m42, .ref m43])), (m39, .inl (cA 0, 600, .inl (upd kf m38.toNatClampNeg kd))), (m40, .inl (cA 2, 600, .inr (.inl xf))), (m41, .inl (cA 2, 600, .inr (.inl yf))), (m42, .inl (cA 2, 600, .inr (.inl zf))), (m43, .inl (cA 2, 600, .inr (.inl cf)))] H := hP
  have hD : va_D A [(h0, .inr (7, [.int m0, .int m1, .int m2, .int m3, .int m4, .ref m5, .int m6, .int m7, .int m8, .ref m9, .ref m10, .ref m11, .int m12, .ref m13, .ref m14, .ref m15, .ref m16, .int m17, .ref m18, .ref m19, .ref m20, .ref m21, .ref m22, .ref m23, .ref m24, .ref m25, .int m26, .int m27, .int m28, .int m29, .int m30, .int m31, .ref m32, .ref m33, .ref m34, .ref m35, .int m36, .ref m37, .int m38, .ref m39, .ref m40, .ref m41, .ref m42, .ref m43])), (m39, .inl (cA 0, 600, .inl (upd kf m38.toNatClampNeg kd))), (m40, .inl (cA 2, 600, .inr (.inl xf))), (m41, .inl (cA 2, 600, .inr (.inl yf))), (m42, .inl (cA 2, 600, .inr (.inl zf))), (m43, .inl (cA 2, 600, .inr (.inl cf)))] := hD
  refine lv_aload_n hx hb dX8_enter_10 rfl (lv_at hl 0 rfl) ?_
  refine va_get (D := D) (ci := 7) (v := .ref m40) (C := RX8) (T := TX8) (N := 44) hx hb hts hin_X8 hown hK hP 0 rfl rfl 40 (by decide) (w_RX8_77) (fun _ h9 => h9) rfl dX8_enter_11 ?_
  refine lv_aload_n hx hb dX8_enter_14 rfl (lv_at hl 0 rfl) ?_
  refine va_get (D := D) (ci := 7) (v := .int m38) (C := RX8) (T := TX8) (N := 44) hx hb hts hin_X8 hown hK hP 0 rfl rfl 38 (by decide) (w_RX8_135) (fun _ h9 => h9) rfl dX8_enter_15 ?_
  refine lv_lload_n hx hb dX8_enter_18 rfl (lv_at hl 2 rfl) ?_
  refine va_last hx hb hK hP hD hS 2 2 rfl rfl (ad_in hn h6) dX8_enter_19 (fun H locs hP hD hS => ?_)
  have hP : va_P D vwCl [(h0, .inr (7, [.int m0, .int m1, .int m2, .int m3, .int m4, .ref m5, .int m6, .int m7, .int m8, .ref m9, .ref m10, .ref m11, .int m12, .ref m13, .ref m14, .ref m15, .ref m16, .int m17, .ref m18, .ref m19, .ref m20, .ref m21, .ref m22, .ref m23, .ref m24, .ref m25, .int m26, .int m27, .int m28, .int m29, .int m30, .int m31, .ref m32, .ref m33, .ref m34, .ref m35, .int m36, .ref m37, .int m38, .ref m39, .ref m40, .ref m41, .ref m42, .ref m43])), (m39, .inl (cA 0, 600, .inl (upd kf m38.toNatClampNeg kd))), (m40, .inl (cA 2, 600, .inr (.inl (vp_updL xf m38.toNatClampNeg x)))), (m41, .inl (cA 2, 600, .inr (.inl yf))), (m42, .inl (cA 2, 600, .inr (.inl zf))), (m43, .inl (cA 2, 600, .inr (.inl cf)))] H := hP
  have hD : va_D A [(h0, .inr (7, [.int m0, .int m1, .int m2, .int m3, .int m4, .ref m5, .int m6, .int m7, .int m8, .ref m9, .ref m10, .ref m11, .int m12, .ref m13, .ref m14, .ref m15, .ref m16, .int m17, .ref m18, .ref m19, .ref m20, .ref m21, .ref m22, .ref m23, .ref m24, .ref m25, .int m26, .int m27, .int m28, .int m29, .int m30, .int m31, .ref m32, .ref m33, .ref m34, .ref m35, .int m36, .ref m37, .int m38, .ref m39, .ref m40, .ref m41, .ref m42, .ref m43])), (m39, .inl (cA 0, 600, .inl (upd kf m38.toNatClampNeg kd))), (m40, .inl (cA 2, 600, .inr (.inl (vp_updL xf m38.toNatClampNeg x)))), (m41, .inl (cA 2, 600, .inr (.inl yf))), (m42, .inl (cA 2, 600, .inr (.inl zf))), (m43, .inl (cA 2, 600, .inr (.inl cf)))] := hD
  refine lv_aload_n hx hb dX8_enter_20 rfl (lv_at hl 0 rfl) ?_
  refine va_get (D := D) (ci := 7) (v := .ref m41) (C := RX8) (T := TX8) (N := 44) hx hb hts hin_X8 hown hK hP 0 rfl rfl 41 (by decide) (w_RX8_81) (fun _ h9 => h9) rfl dX8_enter_21 ?_
  refine lv_aload_n hx hb dX8_enter_24 rfl (lv_at hl 0 rfl) ?_
  refine va_get (D := D) (ci := 7) (v := .int m38) (C := RX8) (T := TX8) (N := 44) hx hb hts hin_X8 hown hK hP 0 rfl rfl 38 (by decide) (w_RX8_135) (fun _ h9 => h9) rfl dX8_enter_25 ?_
  refine lv_lload hx hb dX8_enter_28 (lv_at hl 3 rfl) ?_
  refine va_last hx hb hK hP hD hS 3 2 rfl rfl (ad_in hn h6) dX8_enter_30 (fun H locs hP hD hS => ?_)
  have hP : va_P D vwCl [(h0, .inr (7, [.int m0, .int m1, .int m2, .int m3, .int m4, .ref m5, .int m6, .int m7, .int m8, .ref m9, .ref m10, .ref m11, .int m12, .ref m13, .ref m14, .ref m15, .ref m16, .int m17, .ref m18, .ref m19, .ref m20, .ref m21, .ref m22, .ref m23, .ref m24, .ref m25, .int m26, .int m27, .int m28, .int m29, .int m30, .int m31, .ref m32, .ref m33, .ref m34, .ref m35, .int m36, .ref m37, .int m38, .ref m39, .ref m40, .ref m41, .ref m42, .ref m43])), (m39, .inl (cA 0, 600, .inl (upd kf m38.toNatClampNeg kd))), (m40, .inl (cA 2, 600, .inr (.inl (vp_updL xf m38.toNatClampNeg x)))), (m41, .inl (cA 2, 600, .inr (.inl (vp_updL yf m38.toNatClampNeg y)))), (m42, .inl (cA 2, 600, .inr (.inl zf))), (m43, .inl (cA 2, 600, .inr (.inl cf)))] H := hP
  have hD : va_D A [(h0, .inr (7, [.int m0, .int m1, .int m2, .int m3, .int m4, .ref m5, .int m6, .int m7, .int m8, .ref m9, .ref m10, .ref m11, .int m12, .ref m13, .ref m14, .ref m15, .ref m16, .int m17, .ref m18, .ref m19, .ref m20, .ref m21, .ref m22, .ref m23, .ref m24, .ref m25, .int m26, .int m27, .int m28, .int m29, .int m30, .int m31, .ref m32, .ref m33, .ref m34, .ref m35, .int m36, .ref m37, .int m38, .ref m39, .ref m40, .ref m41, .ref m42, .ref m43])), (m39, .inl (cA 0, 600, .inl (upd kf m38.toNatClampNeg kd))), (m40, .inl (cA 2, 600, .inr (.inl (vp_updL xf m38.toNatClampNeg x)))), (m41, .inl (cA 2, 600, .inr (.inl (vp_updL yf m38.toNatClampNeg y)))), (m42, .inl (cA 2, 600, .inr (.inl zf))), (m43, .inl (cA 2, 600, .inr (.inl cf)))] := hD
  refine lv_aload_n hx hb dX8_enter_31 rfl (lv_at hl 0 rfl) ?_
  refine va_get (D := D) (ci := 7) (v := .ref m42) (C := RX8) (T := TX8) (N := 44) hx hb hts hin_X8 hown hK hP 0 rfl rfl 42 (by decide) (w_RX8_84) (fun _ h9 => h9) rfl dX8_enter_32 ?_
  refine lv_aload_n hx hb dX8_enter_35 rfl (lv_at hl 0 rfl) ?_
  refine va_get (D := D) (ci := 7) (v := .int m38) (C := RX8) (T := TX8) (N := 44) hx hb hts hin_X8 hown hK hP 0 rfl rfl 38 (by decide) (w_RX8_135) (fun _ h9 => h9) rfl dX8_enter_36 ?_
  refine lv_lload hx hb dX8_enter_39 (lv_at hl 4 rfl) ?_
  refine va_last hx hb hK hP hD hS 4 2 rfl rfl (ad_in hn h6) dX8_enter_41 (fun H locs hP hD hS => ?_)
  have hP : va_P D vwCl [(h0, .inr (7, [.int m0, .int m1, .int m2, .int m3, .int m4, .ref m5, .int m6, .int m7, .int m8, .ref m9, .ref m10, .ref m11, .int m12, .ref m13, .ref m14, .ref m15, .ref m16, .int m17, .ref m18, .ref m19, .ref m20, .ref m21, .ref m22, .ref m23, .ref m24, .ref m25, .int m26, .int m27, .int m28, .int m29, .int m30, .int m31, .ref m32, .ref m33, .ref m34, .ref m35, .int m36, .ref m37, .int m38, .ref m39, .ref m40, .ref m41, .ref m42, .ref m43])), (m39, .inl (cA 0, 600, .inl (upd kf m38.toNatClampNeg kd))), (m40, .inl (cA 2, 600, .inr (.inl (vp_updL xf m38.toNatClampNeg x)))), (m41, .inl (cA 2, 600, .inr (.inl (vp_updL yf m38.toNatClampNeg y)))), (m42, .inl (cA 2, 600, .inr (.inl (vp_updL zf m38.toNatClampNeg z)))), (m43, .inl (cA 2, 600, .inr (.inl cf)))] H := hP
  have hD : va_D A [(h0, .inr (7, [.int m0, .int m1, .int m2, .int m3, .int m4, .ref m5, .int m6, .int m7, .int m8, .ref m9, .ref m10, .ref m11, .int m12, .ref m13, .ref m14, .ref m15, .ref m16, .int m17, .ref m18, .ref m19, .ref m20, .ref m21, .ref m22, .ref m23, .ref m24, .ref m25, .int m26, .int m27, .int m28, .int m29, .int m30, .int m31, .ref m32, .ref m33, .ref m34, .ref m35, .int m36, .ref m37, .int m38, .ref m39, .ref m40, .ref m41, .ref m42, .ref m43])), (m39, .inl (cA 0, 600, .inl (upd kf m38.toNatClampNeg kd))), (m40, .inl (cA 2, 600, .inr (.inl (vp_updL xf m38.toNatClampNeg x)))), (m41, .inl (cA 2, 600, .inr (.inl (vp_updL yf m38.toNatClampNeg y)))), (m42, .inl (cA 2, 600, .inr (.inl (vp_updL zf m38.toNatClampNeg z)))), (m43, .inl (cA 2, 600, .inr (.inl cf)))] := hD
  refine lv_aload_n hx hb dX8_enter_42 rfl (lv_at hl 0 rfl) ?_
  refine va_get (D := D) (ci := 7) (v := .int m38) (C := RX8) (T := TX8) (N := 44) hx hb hts hin_X8 hown hK hP 0 rfl rfl 38 (by decide) (w_RX8_135) (fun _ h9 => h9) rfl dX8_enter_43 ?_
  refine lv_if_ne (tgt := 55) hx hb dX8_enter_46 (by decide) (fun c_46 => ?_) (fun c_46 => ?_)
  · skip
    refine lv_aload_n hx hb dX8_enter_55 rfl (lv_at hl 0 rfl) ?_
    refine va_get (D := D) (ci := 7) (v := .ref m43) (C := RX8) (T := TX8) (N := 44) hx hb hts hin_X8 hown hK hP 0 rfl rfl 43 (by decide) (w_RX8_87) (fun _ h9 => h9) rfl dX8_enter_56 ?_
    refine lv_aload_n hx hb dX8_enter_59 rfl (lv_at hl 0 rfl) ?_
    refine va_get (D := D) (ci := 7) (v := .int m38) (C := RX8) (T := TX8) (N := 44) hx hb hts hin_X8 hown hK hP 0 rfl rfl 38 (by decide) (w_RX8_135) (fun _ h9 => h9) rfl dX8_enter_60 ?_
    refine lv_iconst (v := 1) hx hb dX8_enter_63 (by decide) ?_
    refine lv_isub hx hb dX8_enter_64 ?_
    refine va_lald hx hb hK hP 5 2 rfl rfl (en_in hn h6 c_46) dX8_enter_65 ?_
    refine lv_topl (fun d8 e8 => ?_)
    have e9 : d8 = ech cf m38 := by rw [e8, ech, if_neg c_46]
    subst e9
    refine lv_lstore (lv' := [(8, .long (ech cf m38)), (0, .ref h0), (1, .int kd), (2, .long x), (4, .long y), (6, .long z)]) hx hb dX8_enter_66 hl (by decide) rfl (fun ls hl => ?_)
    refine lv_aload_n hx hb dX8_enter_68 rfl (lv_at hl 1 rfl) ?_
    refine va_get (D := D) (ci := 7) (v := .ref m43) (C := RX8) (T := TX8) (N := 44) hx hb hts hin_X8 hown hK hP 0 rfl rfl 43 (by decide) (w_RX8_87) (fun _ h9 => h9) rfl dX8_enter_69 ?_
    refine lv_aload_n hx hb dX8_enter_72 rfl (lv_at hl 1 rfl) ?_
    refine va_get (D := D) (ci := 7) (v := .int m38) (C := RX8) (T := TX8) (N := 44) hx hb hts hin_X8 hown hK hP 0 rfl rfl 38 (by decide) (w_RX8_135) (fun _ h9 => h9) rfl dX8_enter_73 ?_
    refine lv_lload hx hb dX8_enter_76 (lv_at hl 0 rfl) ?_
    refine lv_iload_n hx hb dX8_enter_78 rfl (lv_at hl 2 rfl) ?_
    refine lv_i2l hx hb dX8_enter_79 rfl ?_
    refine rq_call1 (v := .long (dg (ech cf m38) kd.toInt64)) (rn_S (As := [.long (ech cf m38), .long kd.toInt64]) (rest := [.int m38, .ref m43]) ⟨hx, hb, hml, hown, hts⟩ (c_X8_on l D cA (ech cf m38) kd.toInt64) (va_cwS 2 hts gX8_enter_X8_on rfl rfl rfl (by decide +kernel) ⟨Nat.le_of_ble_eq_true rfl, Nat.le_of_ble_eq_true rfl⟩) hK hP [] rfl rfl hl.1 rfl (Nat.le_of_ble_eq_true rfl) dX8_enter_80 ⟨Nat.le_of_ble_eq_true rfl, Nat.le_of_ble_eq_true rfl⟩) ?_
    refine lv_lload_n hx hb dX8_enter_83 rfl (lv_at hl 3 rfl) ?_
    refine rq_call1 (v := .long (dg (dg (ech cf m38) kd.toInt64) x)) (rn_S (As := [.long (dg (ech cf m38) kd.toInt64), .long x]) (rest := [.int m38, .ref m43]) ⟨hx, hb, hml, hown, hts⟩ (c_X8_on l D cA (dg (ech cf m38) kd.toInt64) x) (va_cwS 2 hts gX8_enter_X8_on rfl rfl rfl (by decide +kernel) ⟨Nat.le_of_ble_eq_true rfl, Nat.le_of_ble_eq_true rfl⟩) hK hP [] rfl rfl hl.1 rfl (Nat.le_of_ble_eq_true rfl) dX8_enter_84 ⟨Nat.le_of_ble_eq_true rfl, Nat.le_of_ble_eq_true rfl⟩) ?_
    refine lv_lload hx hb dX8_enter_87 (lv_at hl 4 rfl) ?_
    refine rq_call1 (v := .long (dg (dg (dg (ech cf m38) kd.toInt64) x) y)) (rn_S (As := [.long (dg (dg (ech cf m38) kd.toInt64) x), .long y]) (rest := [.int m38, .ref m43]) ⟨hx, hb, hml, hown, hts⟩ (c_X8_on l D cA (dg (dg (ech cf m38) kd.toInt64) x) y) (va_cwS 2 hts gX8_enter_X8_on rfl rfl rfl (by decide +kernel) ⟨Nat.le_of_ble_eq_true rfl, Nat.le_of_ble_eq_true rfl⟩) hK hP [] rfl rfl hl.1 rfl (Nat.le_of_ble_eq_true rfl) dX8_enter_89 ⟨Nat.le_of_ble_eq_true rfl, Nat.le_of_ble_eq_true rfl⟩) ?_
    refine lv_lload hx hb dX8_enter_92 (lv_at hl 5 rfl) ?_
    refine rq_call1 (v := .long (dg (dg (dg (dg (ech cf m38) kd.toInt64) x) y) z)) (rn_S (As := [.long (dg (dg (dg (ech cf m38) kd.toInt64) x) y), .long z]) (rest := [.int m38, .ref m43]) ⟨hx, hb, hml, hown, hts⟩ (c_X8_on l D cA (dg (dg (dg (ech cf m38) kd.toInt64) x) y) z) (va_cwS 2 hts gX8_enter_X8_on rfl rfl rfl (by decide +kernel) ⟨Nat.le_of_ble_eq_true rfl, Nat.le_of_ble_eq_true rfl⟩) hK hP [] rfl rfl hl.1 rfl (Nat.le_of_ble_eq_true rfl) dX8_enter_94 ⟨Nat.le_of_ble_eq_true rfl, Nat.le_of_ble_eq_true rfl⟩) ?_
    refine va_last hx hb hK hP hD hS 5 2 rfl rfl (ad_in hn h6) dX8_enter_97 (fun H locs hP hD hS => ?_)
    have hP : va_P D vwCl [(h0, .inr (7, [.int m0, .int m1, .int m2, .int m3, .int m4, .ref m5, .int m6, .int m7, .int m8, .ref m9, .ref m10, .ref m11, .int m12, .ref m13, .ref m14, .ref m15, .ref m16, .int m17, .ref m18, .ref m19, .ref m20, .ref m21, .ref m22, .ref m23, .ref m24, .ref m25, .int m26, .int m27, .int m28, .int m29, .int m30, .int m31, .ref m32, .ref m33, .ref m34, .ref m35, .int m36, .ref m37, .int m38, .ref m39, .ref m40, .ref m41, .ref m42, .ref m43])), (m39, .inl (cA 0, 600, .inl (upd kf m38.toNatClampNeg kd))), (m40, .inl (cA 2, 600, .inr (.inl (vp_updL xf m38.toNatClampNeg x)))), (m41, .inl (cA 2, 600, .inr (.inl (vp_updL yf m38.toNatClampNeg y)))), (m42, .inl (cA 2, 600, .inr (.inl (vp_updL zf m38.toNatClampNeg z)))), (m43, .inl (cA 2, 600, .inr (.inl (vp_updL cf m38.toNatClampNeg (dg (dg (dg (dg (ech cf m38) kd.toInt64) x) y) z)))))] H := hP
    have hD : va_D A [(h0, .inr (7, [.int m0, .int m1, .int m2, .int m3, .int m4, .ref m5, .int m6, .int m7, .int m8, .ref m9, .ref m10, .ref m11, .int m12, .ref m13, .ref m14, .ref m15, .ref m16, .int m17, .ref m18, .ref m19, .ref m20, .ref m21, .ref m22, .ref m23, .ref m24, .ref m25, .int m26, .int m27, .int m28, .int m29, .int m30, .int m31, .ref m32, .ref m33, .ref m34, .ref m35, .int m36, .ref m37, .int m38, .ref m39, .ref m40, .ref m41, .ref m42, .ref m43])), (m39, .inl (cA 0, 600, .inl (upd kf m38.toNatClampNeg kd))), (m40, .inl (cA 2, 600, .inr (.inl (vp_updL xf m38.toNatClampNeg x)))), (m41, .inl (cA 2, 600, .inr (.inl (vp_updL yf m38.toNatClampNeg y)))), (m42, .inl (cA 2, 600, .inr (.inl (vp_updL zf m38.toNatClampNeg z)))), (m43, .inl (cA 2, 600, .inr (.inl (vp_updL cf m38.toNatClampNeg (dg (dg (dg (dg (ech cf m38) kd.toInt64) x) y) z)))))] := hD
    refine lv_aload_n hx hb dX8_enter_98 rfl (lv_at hl 1 rfl) ?_
    refine lv_dup hx hb dX8_enter_99 rfl ?_
    refine va_get (D := D) (ci := 7) (v := .int m38) (C := RX8) (T := TX8) (N := 44) hx hb hts hin_X8 hown hK hP 0 rfl rfl 38 (by decide) (w_RX8_135) (fun _ h9 => h9) rfl dX8_enter_100 ?_
    refine lv_iconst (v := 1) hx hb dX8_enter_103 (by decide) ?_
    refine lv_iadd hx hb dX8_enter_104 ?_
    refine va_put (D := D) (ci := 7) (v := .int (m38 + 1)) (ty := .int) (C := RX8) (T := TX8) (N := 44) hx hb hts hin_X8 tyX8 tyX8_ok nmX8 hown hK hP hD hS 0 rfl rfl 38 (by decide) (w_RX8_135) (fun _ h9 => h9) rfl (by decide +kernel) rfl rfl (Nat.le_of_ble_eq_true rfl) dX8_enter_105 (fun H locs hP hD hS => ?_)
    have hP : va_P D vwCl [(h0, .inr (7, [.int m0, .int m1, .int m2, .int m3, .int m4, .ref m5, .int m6, .int m7, .int m8, .ref m9, .ref m10, .ref m11, .int m12, .ref m13, .ref m14, .ref m15, .ref m16, .int m17, .ref m18, .ref m19, .ref m20, .ref m21, .ref m22, .ref m23, .ref m24, .ref m25, .int m26, .int m27, .int m28, .int m29, .int m30, .int m31, .ref m32, .ref m33, .ref m34, .ref m35, .int m36, .ref m37, .int (m38 + 1), .ref m39, .ref m40, .ref m41, .ref m42, .ref m43])), (m39, .inl (cA 0, 600, .inl (upd kf m38.toNatClampNeg kd))), (m40, .inl (cA 2, 600, .inr (.inl (vp_updL xf m38.toNatClampNeg x)))), (m41, .inl (cA 2, 600, .inr (.inl (vp_updL yf m38.toNatClampNeg y)))), (m42, .inl (cA 2, 600, .inr (.inl (vp_updL zf m38.toNatClampNeg z)))), (m43, .inl (cA 2, 600, .inr (.inl (vp_updL cf m38.toNatClampNeg (dg (dg (dg (dg (ech cf m38) kd.toInt64) x) y) z)))))] H := hP
    have hD : va_D A [(h0, .inr (7, [.int m0, .int m1, .int m2, .int m3, .int m4, .ref m5, .int m6, .int m7, .int m8, .ref m9, .ref m10, .ref m11, .int m12, .ref m13, .ref m14, .ref m15, .ref m16, .int m17, .ref m18, .ref m19, .ref m20, .ref m21, .ref m22, .ref m23, .ref m24, .ref m25, .int m26, .int m27, .int m28, .int m29, .int m30, .int m31, .ref m32, .ref m33, .ref m34, .ref m35, .int m36, .ref m37, .int (m38 + 1), .ref m39, .ref m40, .ref m41, .ref m42, .ref m43])), (m39, .inl (cA 0, 600, .inl (upd kf m38.toNatClampNeg kd))), (m40, .inl (cA 2, 600, .inr (.inl (vp_updL xf m38.toNatClampNeg x)))), (m41, .inl (cA 2, 600, .inr (.inl (vp_updL yf m38.toNatClampNeg y)))), (m42, .inl (cA 2, 600, .inr (.inl (vp_updL zf m38.toNatClampNeg z)))), (m43, .inl (cA 2, 600, .inr (.inl (vp_updL cf m38.toNatClampNeg (dg (dg (dg (dg (ech cf m38) kd.toInt64) x) y) z)))))] := hD
    refine lv_aload_n hx hb dX8_enter_108 rfl (lv_at hl 1 rfl) ?_
    refine va_get (D := D) (ci := 7) (v := .ref m43) (C := RX8) (T := TX8) (N := 44) hx hb hts hin_X8 hown hK hP 0 rfl rfl 43 (by decide) (w_RX8_87) (fun _ h9 => h9) rfl dX8_enter_109 ?_
    refine lv_aload_n hx hb dX8_enter_112 rfl (lv_at hl 1 rfl) ?_
    refine va_get (D := D) (ci := 7) (v := .int (m38 + 1)) (C := RX8) (T := TX8) (N := 44) hx hb hts hin_X8 hown hK hP 0 rfl rfl 38 (by decide) (w_RX8_135) (fun _ h9 => h9) rfl dX8_enter_113 ?_
    refine lv_iconst (v := 1) hx hb dX8_enter_116 (by decide) ?_
    refine lv_isub hx hb dX8_enter_117 ?_
    refine va_lald hx hb hK hP 5 2 rfl rfl (en_in1 hn h6) dX8_enter_118 ?_
    have hP9 : va_P D vwCl [(h0, .inr (7, [.int m0, .int m1, .int m2, .int m3, .int m4, .ref m5, .int m6, .int m7, .int m8, .ref m9, .ref m10, .ref m11, .int m12, .ref m13, .ref m14, .ref m15, .ref m16, .int m17, .ref m18, .ref m19, .ref m20, .ref m21, .ref m22, .ref m23, .ref m24, .ref m25, .int m26, .int m27, .int m28, .int m29, .int m30, .int m31, .ref m32, .ref m33, .ref m34, .ref m35, .int m36, .ref m37, .int (m38 + 1), .ref m39, .ref m40, .ref m41, .ref m42, .ref m43])), (m39, .inl (cA 0, 600, .inl (upd kf m38.toNatClampNeg kd))), (m40, .inl (cA 2, 600, .inr (.inl (vp_updL xf m38.toNatClampNeg x)))), (m41, .inl (cA 2, 600, .inr (.inl (vp_updL yf m38.toNatClampNeg y)))), (m42, .inl (cA 2, 600, .inr (.inl (vp_updL zf m38.toNatClampNeg z)))), (m43, .inl (cA 2, 600, .inr (.inl (vp_updL cf m38.toNatClampNeg (dg (dg (dg (dg (ech cf m38) (kd.toInt64)) x) y) z)))))] H := hP
    exact W.lret (v := ((vp_updL cf m38.toNatClampNeg (dg (dg (dg (dg (ech cf m38) kd.toInt64) x) y) z)) ((m38 + 1) - 1).toNatClampNeg)) hx hb hr (fun t ht hW => ⟨congrArg (fun z => Outcome.returned (some (Value.long z))) (en_ret hn h6), by rw [ht]; exact hP9, hS.F ht⟩) hS.2.2 dX8_enter_119
  · skip
    refine lv_ldc2 (v := (-3750763034362895579)) hx hb hown (hts (.constantLong RX8 138 (-3750763034362895579)) (by decide +kernel)) dX8_enter_49 ?_
    refine lv_goto (tgt := 66) hx hb dX8_enter_52 (by decide) ?_
    refine lv_topl (fun d8 e8 => ?_)
    have e9 : d8 = ech cf m38 := by rw [e8, ech, if_pos c_46]
    subst e9
    refine lv_lstore (lv' := [(8, .long (ech cf m38)), (0, .ref h0), (1, .int kd), (2, .long x), (4, .long y), (6, .long z)]) hx hb dX8_enter_66 hl (by decide) rfl (fun ls hl => ?_)
    refine lv_aload_n hx hb dX8_enter_68 rfl (lv_at hl 1 rfl) ?_
    refine va_get (D := D) (ci := 7) (v := .ref m43) (C := RX8) (T := TX8) (N := 44) hx hb hts hin_X8 hown hK hP 0 rfl rfl 43 (by decide) (w_RX8_87) (fun _ h9 => h9) rfl dX8_enter_69 ?_
    refine lv_aload_n hx hb dX8_enter_72 rfl (lv_at hl 1 rfl) ?_
    refine va_get (D := D) (ci := 7) (v := .int m38) (C := RX8) (T := TX8) (N := 44) hx hb hts hin_X8 hown hK hP 0 rfl rfl 38 (by decide) (w_RX8_135) (fun _ h9 => h9) rfl dX8_enter_73 ?_
    refine lv_lload hx hb dX8_enter_76 (lv_at hl 0 rfl) ?_
    refine lv_iload_n hx hb dX8_enter_78 rfl (lv_at hl 2 rfl) ?_
    refine lv_i2l hx hb dX8_enter_79 rfl ?_
    refine rq_call1 (v := .long (dg (ech cf m38) kd.toInt64)) (rn_S (As := [.long (ech cf m38), .long kd.toInt64]) (rest := [.int m38, .ref m43]) ⟨hx, hb, hml, hown, hts⟩ (c_X8_on l D cA (ech cf m38) kd.toInt64) (va_cwS 2 hts gX8_enter_X8_on rfl rfl rfl (by decide +kernel) ⟨Nat.le_of_ble_eq_true rfl, Nat.le_of_ble_eq_true rfl⟩) hK hP [] rfl rfl hl.1 rfl (Nat.le_of_ble_eq_true rfl) dX8_enter_80 ⟨Nat.le_of_ble_eq_true rfl, Nat.le_of_ble_eq_true rfl⟩) ?_
    refine lv_lload_n hx hb dX8_enter_83 rfl (lv_at hl 3 rfl) ?_
    refine rq_call1 (v := .long (dg (dg (ech cf m38) kd.toInt64) x)) (rn_S (As := [.long (dg (ech cf m38) kd.toInt64), .long x]) (rest := [.int m38, .ref m43]) ⟨hx, hb, hml, hown, hts⟩ (c_X8_on l D cA (dg (ech cf m38) kd.toInt64) x) (va_cwS 2 hts gX8_enter_X8_on rfl rfl rfl (by decide +kernel) ⟨Nat.le_of_ble_eq_true rfl, Nat.le_of_ble_eq_true rfl⟩) hK hP [] rfl rfl hl.1 rfl (Nat.le_of_ble_eq_true rfl) dX8_enter_84 ⟨Nat.le_of_ble_eq_true rfl, Nat.le_of_ble_eq_true rfl⟩) ?_
    refine lv_lload hx hb dX8_enter_87 (lv_at hl 4 rfl) ?_
    refine rq_call1 (v := .long (dg (dg (dg (ech cf m38) kd.toInt64) x) y)) (rn_S (As := [.long (dg (dg (ech cf m38) kd.toInt64) x), .long y]) (rest := [.int m38, .ref m43]) ⟨hx, hb, hml, hown, hts⟩ (c_X8_on l D cA (dg (dg (ech cf m38) kd.toInt64) x) y) (va_cwS 2 hts gX8_enter_X8_on rfl rfl rfl (by decide +kernel) ⟨Nat.le_of_ble_eq_true rfl, Nat.le_of_ble_eq_true rfl⟩) hK hP [] rfl rfl hl.1 rfl (Nat.le_of_ble_eq_true rfl) dX8_enter_89 ⟨Nat.le_of_ble_eq_true rfl, Nat.le_of_ble_eq_true rfl⟩) ?_
    refine lv_lload hx hb dX8_enter_92 (lv_at hl 5 rfl) ?_
    refine rq_call1 (v := .long (dg (dg (dg (dg (ech cf m38) kd.toInt64) x) y) z)) (rn_S (As := [.long (dg (dg (dg (ech cf m38) kd.toInt64) x) y), .long z]) (rest := [.int m38, .ref m43]) ⟨hx, hb, hml, hown, hts⟩ (c_X8_on l D cA (dg (dg (dg (ech cf m38) kd.toInt64) x) y) z) (va_cwS 2 hts gX8_enter_X8_on rfl rfl rfl (by decide +kernel) ⟨Nat.le_of_ble_eq_true rfl, Nat.le_of_ble_eq_true rfl⟩) hK hP [] rfl rfl hl.1 rfl (Nat.le_of_ble_eq_true rfl) dX8_enter_94 ⟨Nat.le_of_ble_eq_true rfl, Nat.le_of_ble_eq_true rfl⟩) ?_
    refine va_last hx hb hK hP hD hS 5 2 rfl rfl (ad_in hn h6) dX8_enter_97 (fun H locs hP hD hS => ?_)
    have hP : va_P D vwCl [(h0, .inr (7, [.int m0, .int m1, .int m2, .int m3, .int m4, .ref m5, .int m6, .int m7, .int m8, .ref m9, .ref m10, .ref m11, .int m12, .ref m13, .ref m14, .ref m15, .ref m16, .int m17, .ref m18, .ref m19, .ref m20, .ref m21, .ref m22, .ref m23, .ref m24, .ref m25, .int m26, .int m27, .int m28, .int m29, .int m30, .int m31, .ref m32, .ref m33, .ref m34, .ref m35, .int m36, .ref m37, .int m38, .ref m39, .ref m40, .ref m41, .ref m42, .ref m43])), (m39, .inl (cA 0, 600, .inl (upd kf m38.toNatClampNeg kd))), (m40, .inl (cA 2, 600, .inr (.inl (vp_updL xf m38.toNatClampNeg x)))), (m41, .inl (cA 2, 600, .inr (.inl (vp_updL yf m38.toNatClampNeg y)))), (m42, .inl (cA 2, 600, .inr (.inl (vp_updL zf m38.toNatClampNeg z)))), (m43, .inl (cA 2, 600, .inr (.inl (vp_updL cf m38.toNatClampNeg (dg (dg (dg (dg (ech cf m38) kd.toInt64) x) y) z)))))] H := hP
    have hD : va_D A [(h0, .inr (7, [.int m0, .int m1, .int m2, .int m3, .int m4, .ref m5, .int m6, .int m7, .int m8, .ref m9, .ref m10, .ref m11, .int m12, .ref m13, .ref m14, .ref m15, .ref m16, .int m17, .ref m18, .ref m19, .ref m20, .ref m21, .ref m22, .ref m23, .ref m24, .ref m25, .int m26, .int m27, .int m28, .int m29, .int m30, .int m31, .ref m32, .ref m33, .ref m34, .ref m35, .int m36, .ref m37, .int m38, .ref m39, .ref m40, .ref m41, .ref m42, .ref m43])), (m39, .inl (cA 0, 600, .inl (upd kf m38.toNatClampNeg kd))), (m40, .inl (cA 2, 600, .inr (.inl (vp_updL xf m38.toNatClampNeg x)))), (m41, .inl (cA 2, 600, .inr (.inl (vp_updL yf m38.toNatClampNeg y)))), (m42, .inl (cA 2, 600, .inr (.inl (vp_updL zf m38.toNatClampNeg z)))), (m43, .inl (cA 2, 600, .inr (.inl (vp_updL cf m38.toNatClampNeg (dg (dg (dg (dg (ech cf m38) kd.toInt64) x) y) z)))))] := hD
    refine lv_aload_n hx hb dX8_enter_98 rfl (lv_at hl 1 rfl) ?_
    refine lv_dup hx hb dX8_enter_99 rfl ?_
    refine va_get (D := D) (ci := 7) (v := .int m38) (C := RX8) (T := TX8) (N := 44) hx hb hts hin_X8 hown hK hP 0 rfl rfl 38 (by decide) (w_RX8_135) (fun _ h9 => h9) rfl dX8_enter_100 ?_
    refine lv_iconst (v := 1) hx hb dX8_enter_103 (by decide) ?_
    refine lv_iadd hx hb dX8_enter_104 ?_
    refine va_put (D := D) (ci := 7) (v := .int (m38 + 1)) (ty := .int) (C := RX8) (T := TX8) (N := 44) hx hb hts hin_X8 tyX8 tyX8_ok nmX8 hown hK hP hD hS 0 rfl rfl 38 (by decide) (w_RX8_135) (fun _ h9 => h9) rfl (by decide +kernel) rfl rfl (Nat.le_of_ble_eq_true rfl) dX8_enter_105 (fun H locs hP hD hS => ?_)
    have hP : va_P D vwCl [(h0, .inr (7, [.int m0, .int m1, .int m2, .int m3, .int m4, .ref m5, .int m6, .int m7, .int m8, .ref m9, .ref m10, .ref m11, .int m12, .ref m13, .ref m14, .ref m15, .ref m16, .int m17, .ref m18, .ref m19, .ref m20, .ref m21, .ref m22, .ref m23, .ref m24, .ref m25, .int m26, .int m27, .int m28, .int m29, .int m30, .int m31, .ref m32, .ref m33, .ref m34, .ref m35, .int m36, .ref m37, .int (m38 + 1), .ref m39, .ref m40, .ref m41, .ref m42, .ref m43])), (m39, .inl (cA 0, 600, .inl (upd kf m38.toNatClampNeg kd))), (m40, .inl (cA 2, 600, .inr (.inl (vp_updL xf m38.toNatClampNeg x)))), (m41, .inl (cA 2, 600, .inr (.inl (vp_updL yf m38.toNatClampNeg y)))), (m42, .inl (cA 2, 600, .inr (.inl (vp_updL zf m38.toNatClampNeg z)))), (m43, .inl (cA 2, 600, .inr (.inl (vp_updL cf m38.toNatClampNeg (dg (dg (dg (dg (ech cf m38) kd.toInt64) x) y) z)))))] H := hP
    have hD : va_D A [(h0, .inr (7, [.int m0, .int m1, .int m2, .int m3, .int m4, .ref m5, .int m6, .int m7, .int m8, .ref m9, .ref m10, .ref m11, .int m12, .ref m13, .ref m14, .ref m15, .ref m16, .int m17, .ref m18, .ref m19, .ref m20, .ref m21, .ref m22, .ref m23, .ref m24, .ref m25, .int m26, .int m27, .int m28, .int m29, .int m30, .int m31, .ref m32, .ref m33, .ref m34, .ref m35, .int m36, .ref m37, .int (m38 + 1), .ref m39, .ref m40, .ref m41, .ref m42, .ref m43])), (m39, .inl (cA 0, 600, .inl (upd kf m38.toNatClampNeg kd))), (m40, .inl (cA 2, 600, .inr (.inl (vp_updL xf m38.toNatClampNeg x)))), (m41, .inl (cA 2, 600, .inr (.inl (vp_updL yf m38.toNatClampNeg y)))), (m42, .inl (cA 2, 600, .inr (.inl (vp_updL zf m38.toNatClampNeg z)))), (m43, .inl (cA 2, 600, .inr (.inl (vp_updL cf m38.toNatClampNeg (dg (dg (dg (dg (ech cf m38) kd.toInt64) x) y) z)))))] := hD
    refine lv_aload_n hx hb dX8_enter_108 rfl (lv_at hl 1 rfl) ?_
    refine va_get (D := D) (ci := 7) (v := .ref m43) (C := RX8) (T := TX8) (N := 44) hx hb hts hin_X8 hown hK hP 0 rfl rfl 43 (by decide) (w_RX8_87) (fun _ h9 => h9) rfl dX8_enter_109 ?_
    refine lv_aload_n hx hb dX8_enter_112 rfl (lv_at hl 1 rfl) ?_
    refine va_get (D := D) (ci := 7) (v := .int (m38 + 1)) (C := RX8) (T := TX8) (N := 44) hx hb hts hin_X8 hown hK hP 0 rfl rfl 38 (by decide) (w_RX8_135) (fun _ h9 => h9) rfl dX8_enter_113 ?_
    refine lv_iconst (v := 1) hx hb dX8_enter_116 (by decide) ?_
    refine lv_isub hx hb dX8_enter_117 ?_
    refine va_lald hx hb hK hP 5 2 rfl rfl (en_in1 hn h6) dX8_enter_118 ?_
    have hP9 : va_P D vwCl [(h0, .inr (7, [.int m0, .int m1, .int m2, .int m3, .int m4, .ref m5, .int m6, .int m7, .int m8, .ref m9, .ref m10, .ref m11, .int m12, .ref m13, .ref m14, .ref m15, .ref m16, .int m17, .ref m18, .ref m19, .ref m20, .ref m21, .ref m22, .ref m23, .ref m24, .ref m25, .int m26, .int m27, .int m28, .int m29, .int m30, .int m31, .ref m32, .ref m33, .ref m34, .ref m35, .int m36, .ref m37, .int (m38 + 1), .ref m39, .ref m40, .ref m41, .ref m42, .ref m43])), (m39, .inl (cA 0, 600, .inl (upd kf m38.toNatClampNeg kd))), (m40, .inl (cA 2, 600, .inr (.inl (vp_updL xf m38.toNatClampNeg x)))), (m41, .inl (cA 2, 600, .inr (.inl (vp_updL yf m38.toNatClampNeg y)))), (m42, .inl (cA 2, 600, .inr (.inl (vp_updL zf m38.toNatClampNeg z)))), (m43, .inl (cA 2, 600, .inr (.inl (vp_updL cf m38.toNatClampNeg (dg (dg (dg (dg (ech cf m38) (kd.toInt64)) x) y) z)))))] H := hP
    exact W.lret (v := ((vp_updL cf m38.toNatClampNeg (dg (dg (dg (dg (ech cf m38) kd.toInt64) x) y) z)) ((m38 + 1) - 1).toNatClampNeg)) hx hb hr (fun t ht hW => ⟨congrArg (fun z => Outcome.returned (some (Value.long z))) (en_ret hn h6), by rw [ht]; exact hP9, hS.F ht⟩) hS.2.2 dX8_enter_119

set_option maxHeartbeats 4000000 in
set_option maxRecDepth 100000 in
theorem c_X8_key (l : Launch) (D : va_G) (cA : Nat → ClassId) (h0 : Nat) (m0 : Int32) (m1 : Int32) (m2 : Int32) (m3 : Int32) (m4 : Int32) (m5 : Nat) (m6 : Int32) (m7 : Int32) (m8 : Int32) (m9 : Nat) (m10 : Nat) (m11 : Nat) (m12 : Int32) (m13 : Nat) (m14 : Nat) (m15 : Nat) (m16 : Nat) (m17 : Int32) (m18 : Nat) (m19 : Nat) (m20 : Nat) (m21 : Nat) (m22 : Nat) (m23 : Nat) (m24 : Nat) (m25 : Nat) (m26 : Int32) (m27 : Int32) (m28 : Int32) (m29 : Int32) (m30 : Int32) (m31 : Int32) (m32 : Nat) (m33 : Nat) (m34 : Nat) (m35 : Nat) (m36 : Int32) (m37 : Nat) (m38 : Int32) (m39 : Nat) (m40 : Nat) (m41 : Nat) (m42 : Nat) (m43 : Nat) (kf : Nat → Int32) (xf : Nat → Int64) (yf : Nat → Int64) (zf : Nat → Int64) (cf : Nat → Int64) (sf : Nat → Int32) (s0 : Nat) (n0 : Nat) (hst : m6 = 0) (hs0 : sf (0 : Int32).toNatClampNeg = nI s0) (hs1 : s0 < 2 ^ 31) (hp0 : 0 < m0) (hbn : m38 = nI n0) (h6 : n0 < 600) : Met l yX8_key wsX8_key ({ frames := 2, cells := 0, slots := 0, locals := 52 }) (wPc vwCl D cA [(h0, .inr (7, [.int m0, .int m1, .int m2, .int m3, .int m4, .ref m5, .int m6, .int m7, .int m8, .ref m9, .ref m10, .ref m11, .int m12, .ref m13, .ref m14, .ref m15, .ref m16, .int m17, .ref m18, .ref m19, .ref m20, .ref m21, .ref m22, .ref m23, .ref m24, .ref m25, .int m26, .int m27, .int m28, .int m29, .int m30, .int m31, .ref m32, .ref m33, .ref m34, .ref m35, .int m36, .ref m37, .int m38, .ref m39, .ref m40, .ref m41, .ref m42, .ref m43])), (m5, .inl (cA 0, 5, .inl sf)), (m39, .inl (cA 0, 600, .inl kf)), (m40, .inl (cA 2, 600, .inr (.inl xf))), (m41, .inl (cA 2, 600, .inr (.inl yf))), (m42, .inl (cA 2, 600, .inr (.inl zf))), (m43, .inl (cA 2, 600, .inr (.inl cf)))] [.ref h0]) (wq_x vwCl D [(h0, .inr (7, [.int m0, .int m1, .int m2, .int m3, .int m4, .ref m5, .int 1, .int (pw m0 32 s0 1 4), .int m8, .ref m9, .ref m10, .ref m11, .int m12, .ref m13, .ref m14, .ref m15, .ref m16, .int m17, .ref m18, .ref m19, .ref m20, .ref m21, .ref m22, .ref m23, .ref m24, .ref m25, .int m26, .int m27, .int m28, .int m29, .int m30, .int m31, .ref m32, .ref m33, .ref m34, .ref m35, .int m36, .ref m37, .int (m38 + 1), .ref m39, .ref m40, .ref m41, .ref m42, .ref m43])), (m5, .inl (cA 0, 5, .inl sf)), (m39, .inl (cA 0, 600, .inl (upd kf m38.toNatClampNeg 1))), (m40, .inl (cA 2, 600, .inr (.inl (vp_updL xf m38.toNatClampNeg ((pw m0 32 s0 1 4).toInt64))))), (m41, .inl (cA 2, 600, .inr (.inl (vp_updL yf m38.toNatClampNeg m3.toInt64)))), (m42, .inl (cA 2, 600, .inr (.inl (vp_updL zf m38.toNatClampNeg m4.toInt64)))), (m43, .inl (cA 2, 600, .inr (.inl (vp_updL cf m38.toNatClampNeg (dg (dg (dg (dg (ech cf m38) ((1 : Int32).toInt64)) ((pw m0 32 s0 1 4).toInt64)) m3.toInt64) m4.toInt64)))))] (some (.int (pw m0 32 s0 1 4))) (wA [(h0, .inr (7, [.int m0, .int m1, .int m2, .int m3, .int m4, .ref m5, .int m6, .int m7, .int m8, .ref m9, .ref m10, .ref m11, .int m12, .ref m13, .ref m14, .ref m15, .ref m16, .int m17, .ref m18, .ref m19, .ref m20, .ref m21, .ref m22, .ref m23, .ref m24, .ref m25, .int m26, .int m27, .int m28, .int m29, .int m30, .int m31, .ref m32, .ref m33, .ref m34, .ref m35, .int m36, .ref m37, .int m38, .ref m39, .ref m40, .ref m41, .ref m42, .ref m43])), (m5, .inl (cA 0, 5, .inl sf)), (m39, .inl (cA 0, 600, .inl kf)), (m40, .inl (cA 2, 600, .inr (.inl xf))), (m41, .inl (cA 2, 600, .inr (.inl yf))), (m42, .inl (cA 2, 600, .inr (.inl zf))), (m43, .inl (cA 2, 600, .inr (.inl cf)))])) 0 0 (wA [(h0, .inr (7, [.int m0, .int m1, .int m2, .int m3, .int m4, .ref m5, .int m6, .int m7, .int m8, .ref m9, .ref m10, .ref m11, .int m12, .ref m13, .ref m14, .ref m15, .ref m16, .int m17, .ref m18, .ref m19, .ref m20, .ref m21, .ref m22, .ref m23, .ref m24, .ref m25, .int m26, .int m27, .int m28, .int m29, .int m30, .int m31, .ref m32, .ref m33, .ref m34, .ref m35, .int m36, .ref m37, .int m38, .ref m39, .ref m40, .ref m41, .ref m42, .ref m43])), (m5, .inl (cA 0, 5, .inl sf)), (m39, .inl (cA 0, 600, .inl kf)), (m40, .inl (cA 2, 600, .inr (.inl xf))), (m41, .inl (cA 2, 600, .inr (.inl yf))), (m42, .inl (cA 2, 600, .inr (.inl zf))), (m43, .inl (cA 2, 600, .inr (.inl cf)))]) := by
  refine Met.ofW (cc := cX8_key) (maxL := 3) (ret := (some .int)) (by decide) rfl ?_
  intro p e s m args below meth c s₁ B hml hv
  obtain ⟨rfl, hP, hK, hD0⟩ := hv
  have hx := B.exec
  have hb := B.bytes
  have hr := B.returns
  have hts := atoms_spec (ws := wsX8_key) B.pre
  have hown : s.vm.findClass RX8 = some m.cls := findClass_of_methodNamed B.named
  have hlocks := B.notSynchronized
  have hin_X8 : ∀ w ∈ wsX80, w ∈ wsX8_key := fun w h => List.mem_cons_of_mem _ (List.mem_append_right _ h)
  have w_RX8_140 := hts (.fieldLink RX8 140 "MixElectionModel" "stage" "I") (by decide +kernel)
  have w_RX8_7 := hts (.fieldLink RX8 7 "MixElectionModel" "secret" "[I") (by decide +kernel)
  have w_RX8_146 := hts (.fieldLink RX8 146 "MixElectionModel" "h" "I") (by decide +kernel)
  have w_RX8_109 := hts (.fieldLink RX8 109 "MixElectionModel" "trustees" "I") (by decide +kernel)
  have w_RX8_112 := hts (.fieldLink RX8 112 "MixElectionModel" "threshold" "I") (by decide +kernel)
  have hD : va_D (wA [(h0, .inr (7, [.int m0, .int m1, .int m2, .int m3, .int m4, .ref m5, .int m6, .int m7, .int m8, .ref m9, .ref m10, .ref m11, .int m12, .ref m13, .ref m14, .ref m15, .ref m16, .int m17, .ref m18, .ref m19, .ref m20, .ref m21, .ref m22, .ref m23, .ref m24, .ref m25, .int m26, .int m27, .int m28, .int m29, .int m30, .int m31, .ref m32, .ref m33, .ref m34, .ref m35, .int m36, .ref m37, .int m38, .ref m39, .ref m40, .ref m41, .ref m42, .ref m43])), (m5, .inl (cA 0, 5, .inl sf)), (m39, .inl (cA 0, 600, .inl kf)), (m40, .inl (cA 2, 600, .inr (.inl xf))), (m41, .inl (cA 2, 600, .inr (.inl yf))), (m42, .inl (cA 2, 600, .inr (.inl zf))), (m43, .inl (cA 2, 600, .inr (.inl cf)))]) [(h0, .inr (7, [.int m0, .int m1, .int m2, .int m3, .int m4, .ref m5, .int m6, .int m7, .int m8, .ref m9, .ref m10, .ref m11, .int m12, .ref m13, .ref m14, .ref m15, .ref m16, .int m17, .ref m18, .ref m19, .ref m20, .ref m21, .ref m22, .ref m23, .ref m24, .ref m25, .int m26, .int m27, .int m28, .int m29, .int m30, .int m31, .ref m32, .ref m33, .ref m34, .ref m35, .int m36, .ref m37, .int m38, .ref m39, .ref m40, .ref m41, .ref m42, .ref m43])), (m5, .inl (cA 0, 5, .inl sf)), (m39, .inl (cA 0, 600, .inl kf)), (m40, .inl (cA 2, 600, .inr (.inl xf))), (m41, .inl (cA 2, 600, .inr (.inl yf))), (m42, .inl (cA 2, 600, .inr (.inl zf))), (m43, .inl (cA 2, 600, .inr (.inl cf)))] := ⟨hD0.1, fun k q h => List.mem_map.mpr ⟨q, List.mem_of_getElem? h, rfl⟩⟩
  have hS : va_S (wA [(h0, .inr (7, [.int m0, .int m1, .int m2, .int m3, .int m4, .ref m5, .int m6, .int m7, .int m8, .ref m9, .ref m10, .ref m11, .int m12, .ref m13, .ref m14, .ref m15, .ref m16, .int m17, .ref m18, .ref m19, .ref m20, .ref m21, .ref m22, .ref m23, .ref m24, .ref m25, .int m26, .int m27, .int m28, .int m29, .int m30, .int m31, .ref m32, .ref m33, .ref m34, .ref m35, .int m36, .ref m37, .int m38, .ref m39, .ref m40, .ref m41, .ref m42, .ref m43])), (m5, .inl (cA 0, 5, .inl sf)), (m39, .inl (cA 0, 600, .inl kf)), (m40, .inl (cA 2, 600, .inr (.inl xf))), (m41, .inl (cA 2, 600, .inr (.inl yf))), (m42, .inl (cA 2, 600, .inr (.inl zf))), (m43, .inl (cA 2, 600, .inr (.inl cf)))]) s.heap s.heap [] := va_S.rf
  generalize hAe : wA [(h0, .inr (7, [.int m0, .int m1, .int m2, .int m3, .int m4, .ref m5, .int m6, .int m7, .int m8, .ref m9, .ref m10, .ref m11, .int m12, .ref m13, .ref m14, .ref m15, .ref m16, .int m17, .ref m18, .ref m19, .ref m20, .ref m21, .ref m22, .ref m23, .ref m24, .ref m25, .int m26, .int m27, .int m28, .int m29, .int m30, .int m31, .ref m32, .ref m33, .ref m34, .ref m35, .int m36, .ref m37, .int m38, .ref m39, .ref m40, .ref m41, .ref m42, .ref m43])), (m5, .inl (cA 0, 5, .inl sf)), (m39, .inl (cA 0, 600, .inl kf)), (m40, .inl (cA 2, 600, .inr (.inl xf))), (m41, .inl (cA 2, 600, .inr (.inl yf))), (m42, .inl (cA 2, 600, .inr (.inl zf))), (m43, .inl (cA 2, 600, .inr (.inl cf)))] = A at hD hS ⊢
  have hP : va_P D vwCl [(h0, .inr (7, [.int m0, .int m1, .int m2, .int m3, .int m4, .ref m5, .int m6, .int m7, .int m8, .ref m9, .ref m10, .ref m11, .int m12, .ref m13, .ref m14, .ref m15, .ref m16, .int m17, .ref m18, .ref m19, .ref m20, .ref m21, .ref m22, .ref m23, .ref m24, .ref m25, .int m26, .int m27, .int m28, .int m29, .int m30, .int m31, .ref m32, .ref m33, .ref m34, .ref m35, .int m36, .ref m37, .int m38, .ref m39, .ref m40, .ref m41, .ref m42, .ref m43])), (m5, .inl (cA 0, 5, .inl sf)), (m39, .inl (cA 0, 600, .inl kf)), (m40, .inl (cA 2, 600, .inr (.inl xf))), (m41, .inl (cA 2, 600, .inr (.inl yf))), (m42, .inl (cA 2, 600, .inr (.inl zf))), (m43, .inl (cA 2, 600, .inr (.inl cf)))] s.heap := hP
  have hl := lv_entry ([.ref h0]) (n := 3) (Nat.le_of_ble_eq_true rfl)
  rw [lg_entry_eq]
  generalize (lg_sl ([.ref h0]) ++ List.replicate (3 - (lg_sl ([.ref h0])).length) Slot.unset).toArray = ls at hl ⊢
  have hl : lv_has ls 3 [(0, .ref h0)] := hl
  refine lv_aload_n hx hb dX8_key_0 rfl (lv_at hl 0 rfl) ?_
  refine va_get (D := D) (ci := 7) (v := .int m6) (C := RX8) (T := TX8) (N := 44) hx hb hts hin_X8 hown hK hP 0 rfl rfl 6 (by decide) (w_RX8_140) (fun _ h9 => h9) rfl dX8_key_1 ?_
  refine lv_if_eq (tgt := 9) hx hb dX8_key_4 (by decide) (fun c_4 => ?_) (fun c_4 => ?_)
  · skip
    refine lv_aload_n hx hb dX8_key_9 rfl (lv_at hl 0 rfl) ?_
    refine lv_aload_n hx hb dX8_key_10 rfl (lv_at hl 0 rfl) ?_
    refine lv_iconst (v := 4) hx hb dX8_key_11 (by decide) ?_
    refine lv_aload_n hx hb dX8_key_12 rfl (lv_at hl 0 rfl) ?_
    refine va_get (D := D) (ci := 7) (v := .ref m5) (C := RX8) (T := TX8) (N := 44) hx hb hts hin_X8 hown hK hP 0 rfl rfl 5 (by decide) (w_RX8_7) (fun _ h9 => h9) rfl dX8_key_13 ?_
    refine lv_iconst (v := 0) hx hb dX8_key_16 (by decide) ?_
    refine va_iald hx hb hK hP 1 0 rfl rfl (vp_in_nI (n := 0) (by decide) (by decide)) dX8_key_17 ?_
    refine rq_call1 (v := .int (pw m0 32 s0 1 4)) (rn_V (As := [.int 4, .int (sf (0 : Int32).toNatClampNeg)]) (rest := [.ref h0]) (ci := 7) (fs := [.int m0, .int m1, .int m2, .int m3, .int m4, .ref m5, .int m6, .int m7, .int m8, .ref m9, .ref m10, .ref m11, .int m12, .ref m13, .ref m14, .ref m15, .ref m16, .int m17, .ref m18, .ref m19, .ref m20, .ref m21, .ref m22, .ref m23, .ref m24, .ref m25, .int m26, .int m27, .int m28, .int m29, .int m30, .int m31, .ref m32, .ref m33, .ref m34, .ref m35, .int m36, .ref m37, .int m38, .ref m39, .ref m40, .ref m41, .ref m42, .ref m43]) ⟨hx, hb, hml, hown, hts⟩ (c_X8_power l D cA h0 m0 m1 m2 m3 m4 m5 m6 m7 m8 m9 m10 m11 m12 m13 m14 m15 m16 m17 m18 m19 m20 m21 m22 m23 m24 m25 m26 m27 m28 m29 m30 m31 m32 m33 m34 m35 m36 m37 m38 m39 m40 m41 m42 m43 4 (sf (0 : Int32).toNatClampNeg) s0 hs0 hs1 hp0) rfl (cwV 2 hts gX8_key_X8_power rfl rfl rfl (by decide +kernel) ⟨Nat.le_of_ble_eq_true rfl, Nat.le_of_ble_eq_true rfl⟩) hK hP [0] rfl rfl rfl hl.1 rfl (Nat.le_of_ble_eq_true rfl) dX8_key_18 ⟨Nat.le_of_ble_eq_true rfl, Nat.le_of_ble_eq_true rfl⟩) ?_
    refine va_put (D := D) (ci := 7) (v := .int (pw m0 32 s0 1 4)) (ty := .int) (C := RX8) (T := TX8) (N := 44) hx hb hts hin_X8 tyX8 tyX8_ok nmX8 hown hK hP hD hS 0 rfl rfl 7 (by decide) (w_RX8_146) (fun _ h9 => h9) rfl (by decide +kernel) rfl rfl (Nat.le_of_ble_eq_true rfl) dX8_key_21 (fun H locs hP hD hS => ?_)
    have hP : va_P D vwCl [(h0, .inr (7, [.int m0, .int m1, .int m2, .int m3, .int m4, .ref m5, .int m6, .int (pw m0 32 s0 1 4), .int m8, .ref m9, .ref m10, .ref m11, .int m12, .ref m13, .ref m14, .ref m15, .ref m16, .int m17, .ref m18, .ref m19, .ref m20, .ref m21, .ref m22, .ref m23, .ref m24, .ref m25, .int m26, .int m27, .int m28, .int m29, .int m30, .int m31, .ref m32, .ref m33, .ref m34, .ref m35, .int m36, .ref m37, .int m38, .ref m39, .ref m40, .ref m41, .ref m42, .ref m43])), (m5, .inl (cA 0, 5, .inl sf)), (m39, .inl (cA 0, 600, .inl kf)), (m40, .inl (cA 2, 600, .inr (.inl xf))), (m41, .inl (cA 2, 600, .inr (.inl yf))), (m42, .inl (cA 2, 600, .inr (.inl zf))), (m43, .inl (cA 2, 600, .inr (.inl cf)))] H := hP
    have hD : va_D A [(h0, .inr (7, [.int m0, .int m1, .int m2, .int m3, .int m4, .ref m5, .int m6, .int (pw m0 32 s0 1 4), .int m8, .ref m9, .ref m10, .ref m11, .int m12, .ref m13, .ref m14, .ref m15, .ref m16, .int m17, .ref m18, .ref m19, .ref m20, .ref m21, .ref m22, .ref m23, .ref m24, .ref m25, .int m26, .int m27, .int m28, .int m29, .int m30, .int m31, .ref m32, .ref m33, .ref m34, .ref m35, .int m36, .ref m37, .int m38, .ref m39, .ref m40, .ref m41, .ref m42, .ref m43])), (m5, .inl (cA 0, 5, .inl sf)), (m39, .inl (cA 0, 600, .inl kf)), (m40, .inl (cA 2, 600, .inr (.inl xf))), (m41, .inl (cA 2, 600, .inr (.inl yf))), (m42, .inl (cA 2, 600, .inr (.inl zf))), (m43, .inl (cA 2, 600, .inr (.inl cf)))] := hD
    refine lv_aload_n hx hb dX8_key_24 rfl (lv_at hl 0 rfl) ?_
    refine lv_iconst (v := 1) hx hb dX8_key_25 (by decide) ?_
    refine va_put (D := D) (ci := 7) (v := .int 1) (ty := .int) (C := RX8) (T := TX8) (N := 44) hx hb hts hin_X8 tyX8 tyX8_ok nmX8 hown hK hP hD hS 0 rfl rfl 6 (by decide) (w_RX8_140) (fun _ h9 => h9) rfl (by decide +kernel) rfl rfl (Nat.le_of_ble_eq_true rfl) dX8_key_26 (fun H locs hP hD hS => ?_)
    have hP : va_P D vwCl [(h0, .inr (7, [.int m0, .int m1, .int m2, .int m3, .int m4, .ref m5, .int 1, .int (pw m0 32 s0 1 4), .int m8, .ref m9, .ref m10, .ref m11, .int m12, .ref m13, .ref m14, .ref m15, .ref m16, .int m17, .ref m18, .ref m19, .ref m20, .ref m21, .ref m22, .ref m23, .ref m24, .ref m25, .int m26, .int m27, .int m28, .int m29, .int m30, .int m31, .ref m32, .ref m33, .ref m34, .ref m35, .int m36, .ref m37, .int m38, .ref m39, .ref m40, .ref m41, .ref m42, .ref m43])), (m5, .inl (cA 0, 5, .inl sf)), (m39, .inl (cA 0, 600, .inl kf)), (m40, .inl (cA 2, 600, .inr (.inl xf))), (m41, .inl (cA 2, 600, .inr (.inl yf))), (m42, .inl (cA 2, 600, .inr (.inl zf))), (m43, .inl (cA 2, 600, .inr (.inl cf)))] H := hP
    have hD : va_D A [(h0, .inr (7, [.int m0, .int m1, .int m2, .int m3, .int m4, .ref m5, .int 1, .int (pw m0 32 s0 1 4), .int m8, .ref m9, .ref m10, .ref m11, .int m12, .ref m13, .ref m14, .ref m15, .ref m16, .int m17, .ref m18, .ref m19, .ref m20, .ref m21, .ref m22, .ref m23, .ref m24, .ref m25, .int m26, .int m27, .int m28, .int m29, .int m30, .int m31, .ref m32, .ref m33, .ref m34, .ref m35, .int m36, .ref m37, .int m38, .ref m39, .ref m40, .ref m41, .ref m42, .ref m43])), (m5, .inl (cA 0, 5, .inl sf)), (m39, .inl (cA 0, 600, .inl kf)), (m40, .inl (cA 2, 600, .inr (.inl xf))), (m41, .inl (cA 2, 600, .inr (.inl yf))), (m42, .inl (cA 2, 600, .inr (.inl zf))), (m43, .inl (cA 2, 600, .inr (.inl cf)))] := hD
    refine lv_aload_n hx hb dX8_key_29 rfl (lv_at hl 0 rfl) ?_
    refine lv_iconst (v := 1) hx hb dX8_key_30 (by decide) ?_
    refine lv_aload_n hx hb dX8_key_31 rfl (lv_at hl 0 rfl) ?_
    refine va_get (D := D) (ci := 7) (v := .int (pw m0 32 s0 1 4)) (C := RX8) (T := TX8) (N := 44) hx hb hts hin_X8 hown hK hP 0 rfl rfl 7 (by decide) (w_RX8_146) (fun _ h9 => h9) rfl dX8_key_32 ?_
    refine lv_i2l hx hb dX8_key_35 rfl ?_
    refine lv_aload_n hx hb dX8_key_36 rfl (lv_at hl 0 rfl) ?_
    refine va_get (D := D) (ci := 7) (v := .int m3) (C := RX8) (T := TX8) (N := 44) hx hb hts hin_X8 hown hK hP 0 rfl rfl 3 (by decide) (w_RX8_109) (fun _ h9 => h9) rfl dX8_key_37 ?_
    refine lv_i2l hx hb dX8_key_40 rfl ?_
    refine lv_aload_n hx hb dX8_key_41 rfl (lv_at hl 0 rfl) ?_
    refine va_get (D := D) (ci := 7) (v := .int m4) (C := RX8) (T := TX8) (N := 44) hx hb hts hin_X8 hown hK hP 0 rfl rfl 4 (by decide) (w_RX8_112) (fun _ h9 => h9) rfl dX8_key_42 ?_
    refine lv_i2l hx hb dX8_key_45 rfl ?_
    refine wq_call1 (v := .long (dg (dg (dg (dg (ech cf m38) ((1 : Int32).toInt64)) ((pw m0 32 s0 1 4).toInt64)) m3.toInt64) m4.toInt64)) (wc := [(h0, .inr (7, [.int m0, .int m1, .int m2, .int m3, .int m4, .ref m5, .int 1, .int (pw m0 32 s0 1 4), .int m8, .ref m9, .ref m10, .ref m11, .int m12, .ref m13, .ref m14, .ref m15, .ref m16, .int m17, .ref m18, .ref m19, .ref m20, .ref m21, .ref m22, .ref m23, .ref m24, .ref m25, .int m26, .int m27, .int m28, .int m29, .int m30, .int m31, .ref m32, .ref m33, .ref m34, .ref m35, .int m36, .ref m37, .int m38, .ref m39, .ref m40, .ref m41, .ref m42, .ref m43])), (m39, .inl (cA 0, 600, .inl kf)), (m40, .inl (cA 2, 600, .inr (.inl xf))), (m41, .inl (cA 2, 600, .inr (.inl yf))), (m42, .inl (cA 2, 600, .inr (.inl zf))), (m43, .inl (cA 2, 600, .inr (.inl cf)))]) (w1 := [(h0, .inr (7, [.int m0, .int m1, .int m2, .int m3, .int m4, .ref m5, .int 1, .int (pw m0 32 s0 1 4), .int m8, .ref m9, .ref m10, .ref m11, .int m12, .ref m13, .ref m14, .ref m15, .ref m16, .int m17, .ref m18, .ref m19, .ref m20, .ref m21, .ref m22, .ref m23, .ref m24, .ref m25, .int m26, .int m27, .int m28, .int m29, .int m30, .int m31, .ref m32, .ref m33, .ref m34, .ref m35, .int m36, .ref m37, .int (m38 + 1), .ref m39, .ref m40, .ref m41, .ref m42, .ref m43])), (m39, .inl (cA 0, 600, .inl (upd kf m38.toNatClampNeg 1))), (m40, .inl (cA 2, 600, .inr (.inl (vp_updL xf m38.toNatClampNeg ((pw m0 32 s0 1 4).toInt64))))), (m41, .inl (cA 2, 600, .inr (.inl (vp_updL yf m38.toNatClampNeg m3.toInt64)))), (m42, .inl (cA 2, 600, .inr (.inl (vp_updL zf m38.toNatClampNeg m4.toInt64)))), (m43, .inl (cA 2, 600, .inr (.inl (vp_updL cf m38.toNatClampNeg (dg (dg (dg (dg (ech cf m38) ((1 : Int32).toInt64)) ((pw m0 32 s0 1 4).toInt64)) m3.toInt64) m4.toInt64)))))]) (ws' := [(h0, .inr (7, [.int m0, .int m1, .int m2, .int m3, .int m4, .ref m5, .int 1, .int (pw m0 32 s0 1 4), .int m8, .ref m9, .ref m10, .ref m11, .int m12, .ref m13, .ref m14, .ref m15, .ref m16, .int m17, .ref m18, .ref m19, .ref m20, .ref m21, .ref m22, .ref m23, .ref m24, .ref m25, .int m26, .int m27, .int m28, .int m29, .int m30, .int m31, .ref m32, .ref m33, .ref m34, .ref m35, .int m36, .ref m37, .int (m38 + 1), .ref m39, .ref m40, .ref m41, .ref m42, .ref m43])), (m5, .inl (cA 0, 5, .inl sf)), (m39, .inl (cA 0, 600, .inl (upd kf m38.toNatClampNeg 1))), (m40, .inl (cA 2, 600, .inr (.inl (vp_updL xf m38.toNatClampNeg ((pw m0 32 s0 1 4).toInt64))))), (m41, .inl (cA 2, 600, .inr (.inl (vp_updL yf m38.toNatClampNeg m3.toInt64)))), (m42, .inl (cA 2, 600, .inr (.inl (vp_updL zf m38.toNatClampNeg m4.toInt64)))), (m43, .inl (cA 2, 600, .inr (.inl (vp_updL cf m38.toNatClampNeg (dg (dg (dg (dg (ech cf m38) ((1 : Int32).toInt64)) ((pw m0 32 s0 1 4).toInt64)) m3.toInt64) m4.toInt64)))))]) (wn_V (As := [.int 1, .long (pw m0 32 s0 1 4).toInt64, .long m3.toInt64, .long m4.toInt64]) (rest := []) (ci := 7) (fs := [.int m0, .int m1, .int m2, .int m3, .int m4, .ref m5, .int 1, .int (pw m0 32 s0 1 4), .int m8, .ref m9, .ref m10, .ref m11, .int m12, .ref m13, .ref m14, .ref m15, .ref m16, .int m17, .ref m18, .ref m19, .ref m20, .ref m21, .ref m22, .ref m23, .ref m24, .ref m25, .int m26, .int m27, .int m28, .int m29, .int m30, .int m31, .ref m32, .ref m33, .ref m34, .ref m35, .int m36, .ref m37, .int m38, .ref m39, .ref m40, .ref m41, .ref m42, .ref m43]) ⟨hx, hb, hml, hown, hts⟩ (c_X8_enter l D cA h0 m0 m1 m2 m3 m4 m5 1 (pw m0 32 s0 1 4) m8 m9 m10 m11 m12 m13 m14 m15 m16 m17 m18 m19 m20 m21 m22 m23 m24 m25 m26 m27 m28 m29 m30 m31 m32 m33 m34 m35 m36 m37 m38 m39 m40 m41 m42 m43 kf xf yf zf cf 1 ((pw m0 32 s0 1 4).toInt64) m3.toInt64 m4.toInt64 n0 hbn h6) rfl (cwV 4 hts gX8_key_X8_enter rfl rfl rfl (by decide +kernel) ⟨Nat.le_of_ble_eq_true rfl, Nat.le_of_ble_eq_true rfl⟩) hK hP hD [0, 2, 3, 4, 5, 6] rfl (by decide) rfl rfl rfl hl.1 rfl (Nat.le_of_ble_eq_true rfl) dX8_key_46 ⟨Nat.le_of_ble_eq_true rfl, Nat.le_of_ble_eq_true rfl⟩) hP hD hS [0, 2, 3, 4, 5, 6] [1] rfl rfl rfl rfl rfl rfl (fun H locs hP hD hS => ?_)
    refine lv_lstore_n (lv' := [(1, .long (dg (dg (dg (dg (ech cf m38) ((1 : Int32).toInt64)) ((pw m0 32 s0 1 4).toInt64)) m3.toInt64) m4.toInt64)), (0, .ref h0)]) hx hb dX8_key_49 rfl hl (by decide) rfl (fun ls hl => ?_)
    refine lv_aload_n hx hb dX8_key_50 rfl (lv_at hl 1 rfl) ?_
    refine va_get (D := D) (ci := 7) (v := .int (pw m0 32 s0 1 4)) (C := RX8) (T := TX8) (N := 44) hx hb hts hin_X8 hown hK hP 0 rfl rfl 7 (by decide) (w_RX8_146) (fun _ h9 => h9) rfl dX8_key_51 ?_
    have hP9 : va_P D vwCl [(h0, .inr (7, [.int m0, .int m1, .int m2, .int m3, .int m4, .ref m5, .int 1, .int (pw m0 32 s0 1 4), .int m8, .ref m9, .ref m10, .ref m11, .int m12, .ref m13, .ref m14, .ref m15, .ref m16, .int m17, .ref m18, .ref m19, .ref m20, .ref m21, .ref m22, .ref m23, .ref m24, .ref m25, .int m26, .int m27, .int m28, .int m29, .int m30, .int m31, .ref m32, .ref m33, .ref m34, .ref m35, .int m36, .ref m37, .int (m38 + 1), .ref m39, .ref m40, .ref m41, .ref m42, .ref m43])), (m5, .inl (cA 0, 5, .inl sf)), (m39, .inl (cA 0, 600, .inl (upd kf m38.toNatClampNeg 1))), (m40, .inl (cA 2, 600, .inr (.inl (vp_updL xf m38.toNatClampNeg ((pw m0 32 s0 1 4).toInt64))))), (m41, .inl (cA 2, 600, .inr (.inl (vp_updL yf m38.toNatClampNeg m3.toInt64)))), (m42, .inl (cA 2, 600, .inr (.inl (vp_updL zf m38.toNatClampNeg m4.toInt64)))), (m43, .inl (cA 2, 600, .inr (.inl (vp_updL cf m38.toNatClampNeg (dg (dg (dg (dg (ech cf m38) ((1 : Int32).toInt64)) ((pw m0 32 s0 1 4).toInt64)) m3.toInt64) m4.toInt64)))))] H := hP
    exact W.iret (v := (pw m0 32 s0 1 4)) hx hb hr (fun t ht hW => ⟨congrArg (fun z => Outcome.returned (some (Value.int z))) (rfl), by rw [ht]; exact hP9, hS.F ht⟩) hS.2.2 dX8_key_54
  · exact absurd hst c_4

set_option maxHeartbeats 4000000 in
set_option maxRecDepth 100000 in
theorem c_X8_voter (l : Launch) (D : va_G) (cA : Nat → ClassId) (h0 : Nat) (m0 : Int32) (m1 : Int32) (m2 : Int32) (m3 : Int32) (m4 : Int32) (m5 : Nat) (m6 : Int32) (m7 : Int32) (m8 : Int32) (m9 : Nat) (m10 : Nat) (m11 : Nat) (m12 : Int32) (m13 : Nat) (m14 : Nat) (m15 : Nat) (m16 : Nat) (m17 : Int32) (m18 : Nat) (m19 : Nat) (m20 : Nat) (m21 : Nat) (m22 : Nat) (m23 : Nat) (m24 : Nat) (m25 : Nat) (m26 : Int32) (m27 : Int32) (m28 : Int32) (m29 : Int32) (m30 : Int32) (m31 : Int32) (m32 : Nat) (m33 : Nat) (m34 : Nat) (m35 : Nat) (m36 : Int32) (m37 : Nat) (m38 : Int32) (m39 : Nat) (m40 : Nat) (m41 : Nat) (m42 : Nat) (m43 : Nat) (hst : m6 ≤ 1) (hv : ¬ m8 = 40) : Met l yX8_voter wsX8_voter ({ frames := 0, cells := 0, slots := 0, locals := 0 }) (wPc vwCl D cA [(h0, .inr (7, [.int m0, .int m1, .int m2, .int m3, .int m4, .ref m5, .int m6, .int m7, .int m8, .ref m9, .ref m10, .ref m11, .int m12, .ref m13, .ref m14, .ref m15, .ref m16, .int m17, .ref m18, .ref m19, .ref m20, .ref m21, .ref m22, .ref m23, .ref m24, .ref m25, .int m26, .int m27, .int m28, .int m29, .int m30, .int m31, .ref m32, .ref m33, .ref m34, .ref m35, .int m36, .ref m37, .int m38, .ref m39, .ref m40, .ref m41, .ref m42, .ref m43]))] [.ref h0]) (wq_x vwCl D [(h0, .inr (7, [.int m0, .int m1, .int m2, .int m3, .int m4, .ref m5, .int m6, .int m7, .int (m8 + 1), .ref m9, .ref m10, .ref m11, .int m12, .ref m13, .ref m14, .ref m15, .ref m16, .int m17, .ref m18, .ref m19, .ref m20, .ref m21, .ref m22, .ref m23, .ref m24, .ref m25, .int m26, .int m27, .int m28, .int m29, .int m30, .int m31, .ref m32, .ref m33, .ref m34, .ref m35, .int m36, .ref m37, .int m38, .ref m39, .ref m40, .ref m41, .ref m42, .ref m43]))] (some (.int ((m8 + 1) - 1))) (wA [(h0, .inr (7, [.int m0, .int m1, .int m2, .int m3, .int m4, .ref m5, .int m6, .int m7, .int m8, .ref m9, .ref m10, .ref m11, .int m12, .ref m13, .ref m14, .ref m15, .ref m16, .int m17, .ref m18, .ref m19, .ref m20, .ref m21, .ref m22, .ref m23, .ref m24, .ref m25, .int m26, .int m27, .int m28, .int m29, .int m30, .int m31, .ref m32, .ref m33, .ref m34, .ref m35, .int m36, .ref m37, .int m38, .ref m39, .ref m40, .ref m41, .ref m42, .ref m43]))])) 0 0 (wA [(h0, .inr (7, [.int m0, .int m1, .int m2, .int m3, .int m4, .ref m5, .int m6, .int m7, .int m8, .ref m9, .ref m10, .ref m11, .int m12, .ref m13, .ref m14, .ref m15, .ref m16, .int m17, .ref m18, .ref m19, .ref m20, .ref m21, .ref m22, .ref m23, .ref m24, .ref m25, .int m26, .int m27, .int m28, .int m29, .int m30, .int m31, .ref m32, .ref m33, .ref m34, .ref m35, .int m36, .ref m37, .int m38, .ref m39, .ref m40, .ref m41, .ref m42, .ref m43]))]) := by
  refine Met.ofW (cc := cX8_voter) (maxL := 1) (ret := (some .int)) (by decide) rfl ?_
  intro p e s m args below meth c s₁ B hml hv
  obtain ⟨rfl, hP, hK, hD0⟩ := hv
  have hx := B.exec
  have hb := B.bytes
  have hr := B.returns
  have hts := atoms_spec (ws := wsX8_voter) B.pre
  have hown : s.vm.findClass RX8 = some m.cls := findClass_of_methodNamed B.named
  have hlocks := B.notSynchronized
  have hin_X8 : ∀ w ∈ wsX80, w ∈ wsX8_voter := fun w h => List.mem_cons_of_mem _ (List.mem_append_right _ h)
  have w_RX8_153 := hts (.fieldLink RX8 153 "MixElectionModel" "voters" "I") (by decide +kernel)
  have w_RX8_140 := hts (.fieldLink RX8 140 "MixElectionModel" "stage" "I") (by decide +kernel)
  have hD : va_D (wA [(h0, .inr (7, [.int m0, .int m1, .int m2, .int m3, .int m4, .ref m5, .int m6, .int m7, .int m8, .ref m9, .ref m10, .ref m11, .int m12, .ref m13, .ref m14, .ref m15, .ref m16, .int m17, .ref m18, .ref m19, .ref m20, .ref m21, .ref m22, .ref m23, .ref m24, .ref m25, .int m26, .int m27, .int m28, .int m29, .int m30, .int m31, .ref m32, .ref m33, .ref m34, .ref m35, .int m36, .ref m37, .int m38, .ref m39, .ref m40, .ref m41, .ref m42, .ref m43]))]) [(h0, .inr (7, [.int m0, .int m1, .int m2, .int m3, .int m4, .ref m5, .int m6, .int m7, .int m8, .ref m9, .ref m10, .ref m11, .int m12, .ref m13, .ref m14, .ref m15, .ref m16, .int m17, .ref m18, .ref m19, .ref m20, .ref m21, .ref m22, .ref m23, .ref m24, .ref m25, .int m26, .int m27, .int m28, .int m29, .int m30, .int m31, .ref m32, .ref m33, .ref m34, .ref m35, .int m36, .ref m37, .int m38, .ref m39, .ref m40, .ref m41, .ref m42, .ref m43]))] := ⟨hD0.1, fun k q h => List.mem_map.mpr ⟨q, List.mem_of_getElem? h, rfl⟩⟩
  have hS : va_S (wA [(h0, .inr (7, [.int m0, .int m1, .int m2, .int m3, .int m4, .ref m5, .int m6, .int m7, .int m8, .ref m9, .ref m10, .ref m11, .int m12, .ref m13, .ref m14, .ref m15, .ref m16, .int m17, .ref m18, .ref m19, .ref m20, .ref m21, .ref m22, .ref m23, .ref m24, .ref m25, .int m26, .int m27, .int m28, .int m29, .int m30, .int m31, .ref m32, .ref m33, .ref m34, .ref m35, .int m36, .ref m37, .int m38, .ref m39, .ref m40, .ref m41, .ref m42, .ref m43]))]) s.heap s.heap [] := va_S.rf
  generalize hAe : wA [(h0, .inr (7, [.int m0, .int m1, .int m2, .int m3, .int m4, .ref m5, .int m6, .int m7, .int m8, .ref m9, .ref m10, .ref m11, .int m12, .ref m13, .ref m14, .ref m15, .ref m16, .int m17, .ref m18, .ref m19, .ref m20, .ref m21, .ref m22, .ref m23, .ref m24, .ref m25, .int m26, .int m27, .int m28, .int m29, .int m30, .int m31, .ref m32, .ref m33, .ref m34, .ref m35, .int m36, .ref m37, .int m38, .ref m39, .ref m40, .ref m41, .ref m42, .ref m43]))] = A at hD hS ⊢
  have hP : va_P D vwCl [(h0, .inr (7, [.int m0, .int m1, .int m2, .int m3, .int m4, .ref m5, .int m6, .int m7, .int m8, .ref m9, .ref m10, .ref m11, .int m12, .ref m13, .ref m14, .ref m15, .ref m16, .int m17, .ref m18, .ref m19, .ref m20, .ref m21, .ref m22, .ref m23, .ref m24, .ref m25, .int m26, .int m27, .int m28, .int m29, .int m30, .int m31, .ref m32, .ref m33, .ref m34, .ref m35, .int m36, .ref m37, .int m38, .ref m39, .ref m40, .ref m41, .ref m42, .ref m43]))] s.heap := hP
  have hl := lv_entry ([.ref h0]) (n := 1) (Nat.le_of_ble_eq_true rfl)
  rw [lg_entry_eq]
  generalize (lg_sl ([.ref h0]) ++ List.replicate (1 - (lg_sl ([.ref h0])).length) Slot.unset).toArray = ls at hl ⊢
  have hl : lv_has ls 1 [(0, .ref h0)] := hl
  refine lv_aload_n hx hb dX8_voter_0 rfl (lv_at hl 0 rfl) ?_
  refine va_get (D := D) (ci := 7) (v := .int m8) (C := RX8) (T := TX8) (N := 44) hx hb hts hin_X8 hown hK hP 0 rfl rfl 8 (by decide) (w_RX8_153) (fun _ h9 => h9) rfl dX8_voter_1 ?_
  refine lv_bipush (v := 40) hx hb dX8_voter_4 (by decide) ?_
  refine lv_icmp_eq (tgt := 17) hx hb dX8_voter_6 (by decide) (fun c_6 => ?_) (fun c_6 => ?_)
  · exact absurd c_6 hv
  · skip
    refine lv_aload_n hx hb dX8_voter_9 rfl (lv_at hl 0 rfl) ?_
    refine va_get (D := D) (ci := 7) (v := .int m6) (C := RX8) (T := TX8) (N := 44) hx hb hts hin_X8 hown hK hP 0 rfl rfl 6 (by decide) (w_RX8_140) (fun _ h9 => h9) rfl dX8_voter_10 ?_
    refine lv_iconst (v := 1) hx hb dX8_voter_13 (by decide) ?_
    refine lv_icmp_le (tgt := 19) hx hb dX8_voter_14 (by decide) (fun c_14 => ?_) (fun c_14 => ?_)
    · skip
      refine lv_aload_n hx hb dX8_voter_19 rfl (lv_at hl 0 rfl) ?_
      refine lv_dup hx hb dX8_voter_20 rfl ?_
      refine va_get (D := D) (ci := 7) (v := .int m8) (C := RX8) (T := TX8) (N := 44) hx hb hts hin_X8 hown hK hP 0 rfl rfl 8 (by decide) (w_RX8_153) (fun _ h9 => h9) rfl dX8_voter_21 ?_
      refine lv_iconst (v := 1) hx hb dX8_voter_24 (by decide) ?_
      refine lv_iadd hx hb dX8_voter_25 ?_
      refine va_put (D := D) (ci := 7) (v := .int (m8 + 1)) (ty := .int) (C := RX8) (T := TX8) (N := 44) hx hb hts hin_X8 tyX8 tyX8_ok nmX8 hown hK hP hD hS 0 rfl rfl 8 (by decide) (w_RX8_153) (fun _ h9 => h9) rfl (by decide +kernel) rfl rfl (Nat.le_of_ble_eq_true rfl) dX8_voter_26 (fun H locs hP hD hS => ?_)
      have hP : va_P D vwCl [(h0, .inr (7, [.int m0, .int m1, .int m2, .int m3, .int m4, .ref m5, .int m6, .int m7, .int (m8 + 1), .ref m9, .ref m10, .ref m11, .int m12, .ref m13, .ref m14, .ref m15, .ref m16, .int m17, .ref m18, .ref m19, .ref m20, .ref m21, .ref m22, .ref m23, .ref m24, .ref m25, .int m26, .int m27, .int m28, .int m29, .int m30, .int m31, .ref m32, .ref m33, .ref m34, .ref m35, .int m36, .ref m37, .int m38, .ref m39, .ref m40, .ref m41, .ref m42, .ref m43]))] H := hP
      have hD : va_D A [(h0, .inr (7, [.int m0, .int m1, .int m2, .int m3, .int m4, .ref m5, .int m6, .int m7, .int (m8 + 1), .ref m9, .ref m10, .ref m11, .int m12, .ref m13, .ref m14, .ref m15, .ref m16, .int m17, .ref m18, .ref m19, .ref m20, .ref m21, .ref m22, .ref m23, .ref m24, .ref m25, .int m26, .int m27, .int m28, .int m29, .int m30, .int m31, .ref m32, .ref m33, .ref m34, .ref m35, .int m36, .ref m37, .int m38, .ref m39, .ref m40, .ref m41, .ref m42, .ref m43]))] := hD
      refine lv_aload_n hx hb dX8_voter_29 rfl (lv_at hl 0 rfl) ?_
      refine va_get (D := D) (ci := 7) (v := .int (m8 + 1)) (C := RX8) (T := TX8) (N := 44) hx hb hts hin_X8 hown hK hP 0 rfl rfl 8 (by decide) (w_RX8_153) (fun _ h9 => h9) rfl dX8_voter_30 ?_
      refine lv_iconst (v := 1) hx hb dX8_voter_33 (by decide) ?_
      refine lv_isub hx hb dX8_voter_34 ?_
      have hP9 : va_P D vwCl [(h0, .inr (7, [.int m0, .int m1, .int m2, .int m3, .int m4, .ref m5, .int m6, .int m7, .int (m8 + 1), .ref m9, .ref m10, .ref m11, .int m12, .ref m13, .ref m14, .ref m15, .ref m16, .int m17, .ref m18, .ref m19, .ref m20, .ref m21, .ref m22, .ref m23, .ref m24, .ref m25, .int m26, .int m27, .int m28, .int m29, .int m30, .int m31, .ref m32, .ref m33, .ref m34, .ref m35, .int m36, .ref m37, .int m38, .ref m39, .ref m40, .ref m41, .ref m42, .ref m43]))] H := hP
      exact W.iret (v := ((m8 + 1) - 1)) hx hb hr (fun t ht hW => ⟨congrArg (fun z => Outcome.returned (some (Value.int z))) (rfl), by rw [ht]; exact hP9, hS.F ht⟩) hS.2.2 dX8_voter_35
    · exact absurd hst c_14

set_option maxHeartbeats 4000000 in
set_option maxRecDepth 100000 in
theorem c_X8_mayCast_st (l : Launch) (D : va_G) (cA : Nat → ClassId) (h0 : Nat) (m0 : Int32) (m1 : Int32) (m2 : Int32) (m3 : Int32) (m4 : Int32) (m5 : Nat) (m6 : Int32) (m7 : Int32) (m8 : Int32) (m9 : Nat) (m10 : Nat) (m11 : Nat) (m12 : Int32) (m13 : Nat) (m14 : Nat) (m15 : Nat) (m16 : Nat) (m17 : Int32) (m18 : Nat) (m19 : Nat) (m20 : Nat) (m21 : Nat) (m22 : Nat) (m23 : Nat) (m24 : Nat) (m25 : Nat) (m26 : Int32) (m27 : Int32) (m28 : Int32) (m29 : Int32) (m30 : Int32) (m31 : Int32) (m32 : Nat) (m33 : Nat) (m34 : Nat) (m35 : Nat) (m36 : Int32) (m37 : Nat) (m38 : Int32) (m39 : Nat) (m40 : Nat) (m41 : Nat) (m42 : Nat) (m43 : Nat) (v : Int32) (hst : ¬ m6 = 1) : Met l yX8_mayCast wsX8_mayCast ({ frames := 0, cells := 0, slots := 0, locals := 0 }) (rPc vwCl D cA [(h0, .inr (7, [.int m0, .int m1, .int m2, .int m3, .int m4, .ref m5, .int m6, .int m7, .int m8, .ref m9, .ref m10, .ref m11, .int m12, .ref m13, .ref m14, .ref m15, .ref m16, .int m17, .ref m18, .ref m19, .ref m20, .ref m21, .ref m22, .ref m23, .ref m24, .ref m25, .int m26, .int m27, .int m28, .int m29, .int m30, .int m31, .ref m32, .ref m33, .ref m34, .ref m35, .int m36, .ref m37, .int m38, .ref m39, .ref m40, .ref m41, .ref m42, .ref m43]))] [.ref h0, .int v]) (rq_x (some (.int 0))) 0 0 (fun _ => False) := by
  refine Met.ofW (cc := cX8_mayCast) (maxL := 2) (ret := (some .boolean)) (by decide) rfl ?_
  intro p e s m args below meth c s₁ B hml hv
  obtain ⟨rfl, hP, hK⟩ := hv
  have hx := B.exec
  have hb := B.bytes
  have hr := B.returns
  have hts := atoms_spec (ws := wsX8_mayCast) B.pre
  have hown : s.vm.findClass RX8 = some m.cls := findClass_of_methodNamed B.named
  have hlocks := B.notSynchronized
  have hin_X8 : ∀ w ∈ wsX80, w ∈ wsX8_mayCast := fun w h => List.mem_cons_of_mem _ (List.mem_append_right _ h)
  have w_RX8_140 := hts (.fieldLink RX8 140 "MixElectionModel" "stage" "I") (by decide +kernel)
  have hl := lv_entry ([.ref h0, .int v]) (n := 2) (Nat.le_of_ble_eq_true rfl)
  rw [lg_entry_eq]
  generalize (lg_sl ([.ref h0, .int v]) ++ List.replicate (2 - (lg_sl ([.ref h0, .int v])).length) Slot.unset).toArray = ls at hl ⊢
  have hl : lv_has ls 2 [(0, .ref h0), (1, .int v)] := hl
  refine lv_aload_n hx hb dX8_mayCast_0 rfl (lv_at hl 0 rfl) ?_
  refine va_get (D := D) (ci := 7) (v := .int m6) (C := RX8) (T := TX8) (N := 44) hx hb hts hin_X8 hown hK hP 0 rfl rfl 6 (by decide) (w_RX8_140) (fun _ h9 => h9) rfl dX8_mayCast_1 ?_
  refine lv_iconst (v := 1) hx hb dX8_mayCast_4 (by decide) ?_
  refine lv_icmp_ne (tgt := 36) hx hb dX8_mayCast_5 (by decide) (fun c_5 => ?_) (fun c_5 => ?_)
  · skip
    refine lv_iconst (v := 0) hx hb dX8_mayCast_36 (by decide) ?_
    exact W.zret (v := 0) hx hb hr rfl (fun t ht hW => ⟨congrArg (fun z => Outcome.returned (some (Value.int z))) (rfl), ht⟩) (fun _ h => by cases h) dX8_mayCast_37
  · exact absurd c_5 hst

set_option maxHeartbeats 4000000 in
set_option maxRecDepth 100000 in
theorem c_X8_cast_st (l : Launch) (D : va_G) (cA : Nat → ClassId) (h0 : Nat) (m0 : Int32) (m1 : Int32) (m2 : Int32) (m3 : Int32) (m4 : Int32) (m5 : Nat) (m6 : Int32) (m7 : Int32) (m8 : Int32) (m9 : Nat) (m10 : Nat) (m11 : Nat) (m12 : Int32) (m13 : Nat) (m14 : Nat) (m15 : Nat) (m16 : Nat) (m17 : Int32) (m18 : Nat) (m19 : Nat) (m20 : Nat) (m21 : Nat) (m22 : Nat) (m23 : Nat) (m24 : Nat) (m25 : Nat) (m26 : Int32) (m27 : Int32) (m28 : Int32) (m29 : Int32) (m30 : Int32) (m31 : Int32) (m32 : Nat) (m33 : Nat) (m34 : Nat) (m35 : Nat) (m36 : Int32) (m37 : Nat) (m38 : Int32) (m39 : Nat) (m40 : Nat) (m41 : Nat) (m42 : Nat) (m43 : Nat) (v : Int32) (w : Int32) (r : Int32) (hst : ¬ m6 = 1) : Met l yX8_cast wsX8_cast ({ frames := 1, cells := 0, slots := 0, locals := 21 }) (rPc vwCl D cA [(h0, .inr (7, [.int m0, .int m1, .int m2, .int m3, .int m4, .ref m5, .int m6, .int m7, .int m8, .ref m9, .ref m10, .ref m11, .int m12, .ref m13, .ref m14, .ref m15, .ref m16, .int m17, .ref m18, .ref m19, .ref m20, .ref m21, .ref m22, .ref m23, .ref m24, .ref m25, .int m26, .int m27, .int m28, .int m29, .int m30, .int m31, .ref m32, .ref m33, .ref m34, .ref m35, .int m36, .ref m37, .int m38, .ref m39, .ref m40, .ref m41, .ref m42, .ref m43]))] [.ref h0, .int v, .int w, .int r]) (rq_x (some (.long 0))) 0 0 (fun _ => False) := by
  refine Met.ofW (cc := cX8_cast) (maxL := 4) (ret := (some .long)) (by decide) rfl ?_
  intro p e s m args below meth c s₁ B hml hv
  obtain ⟨rfl, hP, hK⟩ := hv
  have hx := B.exec
  have hb := B.bytes
  have hr := B.returns
  have hts := atoms_spec (ws := wsX8_cast) B.pre
  have hown : s.vm.findClass RX8 = some m.cls := findClass_of_methodNamed B.named
  have hlocks := B.notSynchronized
  have hl := lv_entry ([.ref h0, .int v, .int w, .int r]) (n := 4) (Nat.le_of_ble_eq_true rfl)
  rw [lg_entry_eq]
  generalize (lg_sl ([.ref h0, .int v, .int w, .int r]) ++ List.replicate (4 - (lg_sl ([.ref h0, .int v, .int w, .int r])).length) Slot.unset).toArray = ls at hl ⊢
  have hl : lv_has ls 4 [(0, .ref h0), (1, .int v), (2, .int w), (3, .int r)] := hl
  refine lv_aload_n hx hb dX8_cast_0 rfl (lv_at hl 0 rfl) ?_
  refine lv_iload_n hx hb dX8_cast_1 rfl (lv_at hl 1 rfl) ?_
  refine rq_call1 (v := .int 0) (rn_V (As := [.int v]) (rest := []) (ci := 7) (fs := [.int m0, .int m1, .int m2, .int m3, .int m4, .ref m5, .int m6, .int m7, .int m8, .ref m9, .ref m10, .ref m11, .int m12, .ref m13, .ref m14, .ref m15, .ref m16, .int m17, .ref m18, .ref m19, .ref m20, .ref m21, .ref m22, .ref m23, .ref m24, .ref m25, .int m26, .int m27, .int m28, .int m29, .int m30, .int m31, .ref m32, .ref m33, .ref m34, .ref m35, .int m36, .ref m37, .int m38, .ref m39, .ref m40, .ref m41, .ref m42, .ref m43]) ⟨hx, hb, hml, hown, hts⟩ (c_X8_mayCast_st l D cA h0 m0 m1 m2 m3 m4 m5 m6 m7 m8 m9 m10 m11 m12 m13 m14 m15 m16 m17 m18 m19 m20 m21 m22 m23 m24 m25 m26 m27 m28 m29 m30 m31 m32 m33 m34 m35 m36 m37 m38 m39 m40 m41 m42 m43 v (by assumption)) rfl (cwV 1 hts gX8_cast_X8_mayCast rfl rfl rfl (by decide +kernel) ⟨Nat.le_of_ble_eq_true rfl, Nat.le_of_ble_eq_true rfl⟩) hK hP [0] rfl rfl rfl hl.1 rfl (Nat.le_of_ble_eq_true rfl) dX8_cast_2 ⟨Nat.le_of_ble_eq_true rfl, Nat.le_of_ble_eq_true rfl⟩) ?_
  refine lv_if_eq (tgt := 30) hx hb dX8_cast_5 (by decide) (fun c_5 => ?_) (fun c_5 => ?_)
  · skip
    refine lv_lconst (v := 0) hx hb dX8_cast_30 (by decide) ?_
    exact W.lret (v := 0) hx hb hr (fun t ht hW => ⟨congrArg (fun z => Outcome.returned (some (Value.long z))) (rfl), ht⟩) (fun _ h => by cases h) dX8_cast_31
  · exact absurd rfl c_5

set_option maxHeartbeats 4000000 in
set_option maxRecDepth 100000 in
theorem c_X8_castPair_st (l : Launch) (D : va_G) (cA : Nat → ClassId) (h0 : Nat) (m0 : Int32) (m1 : Int32) (m2 : Int32) (m3 : Int32) (m4 : Int32) (m5 : Nat) (m6 : Int32) (m7 : Int32) (m8 : Int32) (m9 : Nat) (m10 : Nat) (m11 : Nat) (m12 : Int32) (m13 : Nat) (m14 : Nat) (m15 : Nat) (m16 : Nat) (m17 : Int32) (m18 : Nat) (m19 : Nat) (m20 : Nat) (m21 : Nat) (m22 : Nat) (m23 : Nat) (m24 : Nat) (m25 : Nat) (m26 : Int32) (m27 : Int32) (m28 : Int32) (m29 : Int32) (m30 : Int32) (m31 : Int32) (m32 : Nat) (m33 : Nat) (m34 : Nat) (m35 : Nat) (m36 : Int32) (m37 : Nat) (m38 : Int32) (m39 : Nat) (m40 : Nat) (m41 : Nat) (m42 : Nat) (m43 : Nat) (v : Int32) (w : Int32) (r : Int32) (hst : ¬ m6 = 1) : Met l yX8_castPair wsX8_castPair ({ frames := 1, cells := 0, slots := 0, locals := 21 }) (rPc vwCl D cA [(h0, .inr (7, [.int m0, .int m1, .int m2, .int m3, .int m4, .ref m5, .int m6, .int m7, .int m8, .ref m9, .ref m10, .ref m11, .int m12, .ref m13, .ref m14, .ref m15, .ref m16, .int m17, .ref m18, .ref m19, .ref m20, .ref m21, .ref m22, .ref m23, .ref m24, .ref m25, .int m26, .int m27, .int m28, .int m29, .int m30, .int m31, .ref m32, .ref m33, .ref m34, .ref m35, .int m36, .ref m37, .int m38, .ref m39, .ref m40, .ref m41, .ref m42, .ref m43]))] [.ref h0, .int v, .int w, .int r]) (rq_x (some (.long 0))) 0 0 (fun _ => False) := by
  refine Met.ofW (cc := cX8_castPair) (maxL := 4) (ret := (some .long)) (by decide) rfl ?_
  intro p e s m args below meth c s₁ B hml hv
  obtain ⟨rfl, hP, hK⟩ := hv
  have hx := B.exec
  have hb := B.bytes
  have hr := B.returns
  have hts := atoms_spec (ws := wsX8_castPair) B.pre
  have hown : s.vm.findClass RX8 = some m.cls := findClass_of_methodNamed B.named
  have hlocks := B.notSynchronized
  have hl := lv_entry ([.ref h0, .int v, .int w, .int r]) (n := 4) (Nat.le_of_ble_eq_true rfl)
  rw [lg_entry_eq]
  generalize (lg_sl ([.ref h0, .int v, .int w, .int r]) ++ List.replicate (4 - (lg_sl ([.ref h0, .int v, .int w, .int r])).length) Slot.unset).toArray = ls at hl ⊢
  have hl : lv_has ls 4 [(0, .ref h0), (1, .int v), (2, .int w), (3, .int r)] := hl
  refine lv_aload_n hx hb dX8_castPair_0 rfl (lv_at hl 0 rfl) ?_
  refine lv_iload_n hx hb dX8_castPair_1 rfl (lv_at hl 1 rfl) ?_
  refine rq_call1 (v := .int 0) (rn_V (As := [.int v]) (rest := []) (ci := 7) (fs := [.int m0, .int m1, .int m2, .int m3, .int m4, .ref m5, .int m6, .int m7, .int m8, .ref m9, .ref m10, .ref m11, .int m12, .ref m13, .ref m14, .ref m15, .ref m16, .int m17, .ref m18, .ref m19, .ref m20, .ref m21, .ref m22, .ref m23, .ref m24, .ref m25, .int m26, .int m27, .int m28, .int m29, .int m30, .int m31, .ref m32, .ref m33, .ref m34, .ref m35, .int m36, .ref m37, .int m38, .ref m39, .ref m40, .ref m41, .ref m42, .ref m43]) ⟨hx, hb, hml, hown, hts⟩ (c_X8_mayCast_st l D cA h0 m0 m1 m2 m3 m4 m5 m6 m7 m8 m9 m10 m11 m12 m13 m14 m15 m16 m17 m18 m19 m20 m21 m22 m23 m24 m25 m26 m27 m28 m29 m30 m31 m32 m33 m34 m35 m36 m37 m38 m39 m40 m41 m42 m43 v (by assumption)) rfl (cwV 1 hts gX8_castPair_X8_mayCast rfl rfl rfl (by decide +kernel) ⟨Nat.le_of_ble_eq_true rfl, Nat.le_of_ble_eq_true rfl⟩) hK hP [0] rfl rfl rfl hl.1 rfl (Nat.le_of_ble_eq_true rfl) dX8_castPair_2 ⟨Nat.le_of_ble_eq_true rfl, Nat.le_of_ble_eq_true rfl⟩) ?_
  refine lv_if_eq (tgt := 34) hx hb dX8_castPair_5 (by decide) (fun c_5 => ?_) (fun c_5 => ?_)
  · skip
    refine lv_lconst (v := 0) hx hb dX8_castPair_34 (by decide) ?_
    exact W.lret (v := 0) hx hb hr (fun t ht hW => ⟨congrArg (fun z => Outcome.returned (some (Value.long z))) (rfl), ht⟩) (fun _ h => by cases h) dX8_castPair_35
  · exact absurd rfl c_5

set_option maxHeartbeats 4000000 in
set_option maxRecDepth 100000 in
theorem c_X8_close_st (l : Launch) (D : va_G) (cA : Nat → ClassId) (h0 : Nat) (m0 : Int32) (m1 : Int32) (m2 : Int32) (m3 : Int32) (m4 : Int32) (m5 : Nat) (m6 : Int32) (m7 : Int32) (m8 : Int32) (m9 : Nat) (m10 : Nat) (m11 : Nat) (m12 : Int32) (m13 : Nat) (m14 : Nat) (m15 : Nat) (m16 : Nat) (m17 : Int32) (m18 : Nat) (m19 : Nat) (m20 : Nat) (m21 : Nat) (m22 : Nat) (m23 : Nat) (m24 : Nat) (m25 : Nat) (m26 : Int32) (m27 : Int32) (m28 : Int32) (m29 : Int32) (m30 : Int32) (m31 : Int32) (m32 : Nat) (m33 : Nat) (m34 : Nat) (m35 : Nat) (m36 : Int32) (m37 : Nat) (m38 : Int32) (m39 : Nat) (m40 : Nat) (m41 : Nat) (m42 : Nat) (m43 : Nat) (hst : ¬ m6 = 1) : Met l yX8_close wsX8_close ({ frames := 0, cells := 0, slots := 0, locals := 0 }) (rPc vwCl D cA [(h0, .inr (7, [.int m0, .int m1, .int m2, .int m3, .int m4, .ref m5, .int m6, .int m7, .int m8, .ref m9, .ref m10, .ref m11, .int m12, .ref m13, .ref m14, .ref m15, .ref m16, .int m17, .ref m18, .ref m19, .ref m20, .ref m21, .ref m22, .ref m23, .ref m24, .ref m25, .int m26, .int m27, .int m28, .int m29, .int m30, .int m31, .ref m32, .ref m33, .ref m34, .ref m35, .int m36, .ref m37, .int m38, .ref m39, .ref m40, .ref m41, .ref m42, .ref m43]))] [.ref h0]) (rq_x (some (.int (-1)))) 0 0 (fun _ => False) := by
  refine Met.ofW (cc := cX8_close) (maxL := 3) (ret := (some .int)) (by decide) rfl ?_
  intro p e s m args below meth c s₁ B hml hv
  obtain ⟨rfl, hP, hK⟩ := hv
  have hx := B.exec
  have hb := B.bytes
  have hr := B.returns
  have hts := atoms_spec (ws := wsX8_close) B.pre
  have hown : s.vm.findClass RX8 = some m.cls := findClass_of_methodNamed B.named
  have hlocks := B.notSynchronized
  have hin_X8 : ∀ w ∈ wsX80, w ∈ wsX8_close := fun w h => List.mem_cons_of_mem _ (List.mem_append_right _ h)
  have w_RX8_140 := hts (.fieldLink RX8 140 "MixElectionModel" "stage" "I") (by decide +kernel)
  have hl := lv_entry ([.ref h0]) (n := 3) (Nat.le_of_ble_eq_true rfl)
  rw [lg_entry_eq]
  generalize (lg_sl ([.ref h0]) ++ List.replicate (3 - (lg_sl ([.ref h0])).length) Slot.unset).toArray = ls at hl ⊢
  have hl : lv_has ls 3 [(0, .ref h0)] := hl
  refine lv_aload_n hx hb dX8_close_0 rfl (lv_at hl 0 rfl) ?_
  refine va_get (D := D) (ci := 7) (v := .int m6) (C := RX8) (T := TX8) (N := 44) hx hb hts hin_X8 hown hK hP 0 rfl rfl 6 (by decide) (w_RX8_140) (fun _ h9 => h9) rfl dX8_close_1 ?_
  refine lv_iconst (v := 1) hx hb dX8_close_4 (by decide) ?_
  refine lv_icmp_eq (tgt := 10) hx hb dX8_close_5 (by decide) (fun c_5 => ?_) (fun c_5 => ?_)
  · exact absurd c_5 hst
  · skip
    refine lv_iconst (v := (-1)) hx hb dX8_close_8 (by decide) ?_
    exact W.iret (v := (-1)) hx hb hr (fun t ht hW => ⟨congrArg (fun z => Outcome.returned (some (Value.int z))) (rfl), ht⟩) (fun _ h => by cases h) dX8_close_9

set_option maxHeartbeats 4000000 in
set_option maxRecDepth 100000 in
theorem c_X8_place_st (l : Launch) (D : va_G) (cA : Nat → ClassId) (h0 : Nat) (m0 : Int32) (m1 : Int32) (m2 : Int32) (m3 : Int32) (m4 : Int32) (m5 : Nat) (m6 : Int32) (m7 : Int32) (m8 : Int32) (m9 : Nat) (m10 : Nat) (m11 : Nat) (m12 : Int32) (m13 : Nat) (m14 : Nat) (m15 : Nat) (m16 : Nat) (m17 : Int32) (m18 : Nat) (m19 : Nat) (m20 : Nat) (m21 : Nat) (m22 : Nat) (m23 : Nat) (m24 : Nat) (m25 : Nat) (m26 : Int32) (m27 : Int32) (m28 : Int32) (m29 : Int32) (m30 : Int32) (m31 : Int32) (m32 : Nat) (m33 : Nat) (m34 : Nat) (m35 : Nat) (m36 : Int32) (m37 : Nat) (m38 : Int32) (m39 : Nat) (m40 : Nat) (m41 : Nat) (m42 : Nat) (m43 : Nat) (v : Int32) (w : Int32) (r : Int32) (hst : ¬ m6 = 2) : Met l yX8_place wsX8_place ({ frames := 0, cells := 0, slots := 0, locals := 0 }) (rPc vwCl D cA [(h0, .inr (7, [.int m0, .int m1, .int m2, .int m3, .int m4, .ref m5, .int m6, .int m7, .int m8, .ref m9, .ref m10, .ref m11, .int m12, .ref m13, .ref m14, .ref m15, .ref m16, .int m17, .ref m18, .ref m19, .ref m20, .ref m21, .ref m22, .ref m23, .ref m24, .ref m25, .int m26, .int m27, .int m28, .int m29, .int m30, .int m31, .ref m32, .ref m33, .ref m34, .ref m35, .int m36, .ref m37, .int m38, .ref m39, .ref m40, .ref m41, .ref m42, .ref m43]))] [.ref h0, .int v, .int w, .int r]) (rq_x (some (.int 0))) 0 0 (fun _ => False) := by
  refine Met.ofW (cc := cX8_place) (maxL := 4) (ret := (some .boolean)) (by decide) rfl ?_
  intro p e s m args below meth c s₁ B hml hv
  obtain ⟨rfl, hP, hK⟩ := hv
  have hx := B.exec
  have hb := B.bytes
  have hr := B.returns
  have hts := atoms_spec (ws := wsX8_place) B.pre
  have hown : s.vm.findClass RX8 = some m.cls := findClass_of_methodNamed B.named
  have hlocks := B.notSynchronized
  have hin_X8 : ∀ w ∈ wsX80, w ∈ wsX8_place := fun w h => List.mem_cons_of_mem _ (List.mem_append_right _ h)
  have w_RX8_140 := hts (.fieldLink RX8 140 "MixElectionModel" "stage" "I") (by decide +kernel)
  have hl := lv_entry ([.ref h0, .int v, .int w, .int r]) (n := 4) (Nat.le_of_ble_eq_true rfl)
  rw [lg_entry_eq]
  generalize (lg_sl ([.ref h0, .int v, .int w, .int r]) ++ List.replicate (4 - (lg_sl ([.ref h0, .int v, .int w, .int r])).length) Slot.unset).toArray = ls at hl ⊢
  have hl : lv_has ls 4 [(0, .ref h0), (1, .int v), (2, .int w), (3, .int r)] := hl
  refine lv_aload_n hx hb dX8_place_0 rfl (lv_at hl 0 rfl) ?_
  refine va_get (D := D) (ci := 7) (v := .int m6) (C := RX8) (T := TX8) (N := 44) hx hb hts hin_X8 hown hK hP 0 rfl rfl 6 (by decide) (w_RX8_140) (fun _ h9 => h9) rfl dX8_place_1 ?_
  refine lv_iconst (v := 2) hx hb dX8_place_4 (by decide) ?_
  refine lv_icmp_ne (tgt := 44) hx hb dX8_place_5 (by decide) (fun c_5 => ?_) (fun c_5 => ?_)
  · skip
    refine lv_iconst (v := 0) hx hb dX8_place_44 (by decide) ?_
    exact W.zret (v := 0) hx hb hr rfl (fun t ht hW => ⟨congrArg (fun z => Outcome.returned (some (Value.int z))) (rfl), ht⟩) (fun _ h => by cases h) dX8_place_45
  · exact absurd c_5 hst

set_option maxHeartbeats 4000000 in
set_option maxRecDepth 100000 in
theorem c_X8_forge_st (l : Launch) (D : va_G) (cA : Nat → ClassId) (h0 : Nat) (m0 : Int32) (m1 : Int32) (m2 : Int32) (m3 : Int32) (m4 : Int32) (m5 : Nat) (m6 : Int32) (m7 : Int32) (m8 : Int32) (m9 : Nat) (m10 : Nat) (m11 : Nat) (m12 : Int32) (m13 : Nat) (m14 : Nat) (m15 : Nat) (m16 : Nat) (m17 : Int32) (m18 : Nat) (m19 : Nat) (m20 : Nat) (m21 : Nat) (m22 : Nat) (m23 : Nat) (m24 : Nat) (m25 : Nat) (m26 : Int32) (m27 : Int32) (m28 : Int32) (m29 : Int32) (m30 : Int32) (m31 : Int32) (m32 : Nat) (m33 : Nat) (m34 : Nat) (m35 : Nat) (m36 : Int32) (m37 : Nat) (m38 : Int32) (m39 : Nat) (m40 : Nat) (m41 : Nat) (m42 : Nat) (m43 : Nat) (v : Int32) (w : Int32) (r : Int32) (hst : ¬ m6 = 2) : Met l yX8_forge wsX8_forge ({ frames := 0, cells := 0, slots := 0, locals := 0 }) (rPc vwCl D cA [(h0, .inr (7, [.int m0, .int m1, .int m2, .int m3, .int m4, .ref m5, .int m6, .int m7, .int m8, .ref m9, .ref m10, .ref m11, .int m12, .ref m13, .ref m14, .ref m15, .ref m16, .int m17, .ref m18, .ref m19, .ref m20, .ref m21, .ref m22, .ref m23, .ref m24, .ref m25, .int m26, .int m27, .int m28, .int m29, .int m30, .int m31, .ref m32, .ref m33, .ref m34, .ref m35, .int m36, .ref m37, .int m38, .ref m39, .ref m40, .ref m41, .ref m42, .ref m43]))] [.ref h0, .int v, .int w, .int r]) (rq_x (some (.int 0))) 0 0 (fun _ => False) := by
  refine Met.ofW (cc := cX8_forge) (maxL := 4) (ret := (some .boolean)) (by decide) rfl ?_
  intro p e s m args below meth c s₁ B hml hv
  obtain ⟨rfl, hP, hK⟩ := hv
  have hx := B.exec
  have hb := B.bytes
  have hr := B.returns
  have hts := atoms_spec (ws := wsX8_forge) B.pre
  have hown : s.vm.findClass RX8 = some m.cls := findClass_of_methodNamed B.named
  have hlocks := B.notSynchronized
  have hin_X8 : ∀ w ∈ wsX80, w ∈ wsX8_forge := fun w h => List.mem_cons_of_mem _ (List.mem_append_right _ h)
  have w_RX8_140 := hts (.fieldLink RX8 140 "MixElectionModel" "stage" "I") (by decide +kernel)
  have hl := lv_entry ([.ref h0, .int v, .int w, .int r]) (n := 4) (Nat.le_of_ble_eq_true rfl)
  rw [lg_entry_eq]
  generalize (lg_sl ([.ref h0, .int v, .int w, .int r]) ++ List.replicate (4 - (lg_sl ([.ref h0, .int v, .int w, .int r])).length) Slot.unset).toArray = ls at hl ⊢
  have hl : lv_has ls 4 [(0, .ref h0), (1, .int v), (2, .int w), (3, .int r)] := hl
  refine lv_aload_n hx hb dX8_forge_0 rfl (lv_at hl 0 rfl) ?_
  refine va_get (D := D) (ci := 7) (v := .int m6) (C := RX8) (T := TX8) (N := 44) hx hb hts hin_X8 hown hK hP 0 rfl rfl 6 (by decide) (w_RX8_140) (fun _ h9 => h9) rfl dX8_forge_1 ?_
  refine lv_iconst (v := 2) hx hb dX8_forge_4 (by decide) ?_
  refine lv_icmp_ne (tgt := 38) hx hb dX8_forge_5 (by decide) (fun c_5 => ?_) (fun c_5 => ?_)
  · skip
    refine lv_iconst (v := 0) hx hb dX8_forge_38 (by decide) ?_
    exact W.zret (v := 0) hx hb hr rfl (fun t ht hW => ⟨congrArg (fun z => Outcome.returned (some (Value.int z))) (rfl), ht⟩) (fun _ h => by cases h) dX8_forge_39
  · exact absurd c_5 hst

set_option maxHeartbeats 4000000 in
set_option maxRecDepth 100000 in
theorem c_X8_mayStage_st (l : Launch) (D : va_G) (cA : Nat → ClassId) (h0 : Nat) (m0 : Int32) (m1 : Int32) (m2 : Int32) (m3 : Int32) (m4 : Int32) (m5 : Nat) (m6 : Int32) (m7 : Int32) (m8 : Int32) (m9 : Nat) (m10 : Nat) (m11 : Nat) (m12 : Int32) (m13 : Nat) (m14 : Nat) (m15 : Nat) (m16 : Nat) (m17 : Int32) (m18 : Nat) (m19 : Nat) (m20 : Nat) (m21 : Nat) (m22 : Nat) (m23 : Nat) (m24 : Nat) (m25 : Nat) (m26 : Int32) (m27 : Int32) (m28 : Int32) (m29 : Int32) (m30 : Int32) (m31 : Int32) (m32 : Nat) (m33 : Nat) (m34 : Nat) (m35 : Nat) (m36 : Int32) (m37 : Nat) (m38 : Int32) (m39 : Nat) (m40 : Nat) (m41 : Nat) (m42 : Nat) (m43 : Nat) (hst : ¬ m6 = 2) : Met l yX8_mayStage wsX8_mayStage ({ frames := 0, cells := 0, slots := 0, locals := 0 }) (rPc vwCl D cA [(h0, .inr (7, [.int m0, .int m1, .int m2, .int m3, .int m4, .ref m5, .int m6, .int m7, .int m8, .ref m9, .ref m10, .ref m11, .int m12, .ref m13, .ref m14, .ref m15, .ref m16, .int m17, .ref m18, .ref m19, .ref m20, .ref m21, .ref m22, .ref m23, .ref m24, .ref m25, .int m26, .int m27, .int m28, .int m29, .int m30, .int m31, .ref m32, .ref m33, .ref m34, .ref m35, .int m36, .ref m37, .int m38, .ref m39, .ref m40, .ref m41, .ref m42, .ref m43]))] [.ref h0]) (rq_x (some (.int 0))) 0 0 (fun _ => False) := by
  refine Met.ofW (cc := cX8_mayStage) (maxL := 1) (ret := (some .boolean)) (by decide) rfl ?_
  intro p e s m args below meth c s₁ B hml hv
  obtain ⟨rfl, hP, hK⟩ := hv
  have hx := B.exec
  have hb := B.bytes
  have hr := B.returns
  have hts := atoms_spec (ws := wsX8_mayStage) B.pre
  have hown : s.vm.findClass RX8 = some m.cls := findClass_of_methodNamed B.named
  have hlocks := B.notSynchronized
  have hin_X8 : ∀ w ∈ wsX80, w ∈ wsX8_mayStage := fun w h => List.mem_cons_of_mem _ (List.mem_append_right _ h)
  have w_RX8_140 := hts (.fieldLink RX8 140 "MixElectionModel" "stage" "I") (by decide +kernel)
  have hl := lv_entry ([.ref h0]) (n := 1) (Nat.le_of_ble_eq_true rfl)
  rw [lg_entry_eq]
  generalize (lg_sl ([.ref h0]) ++ List.replicate (1 - (lg_sl ([.ref h0])).length) Slot.unset).toArray = ls at hl ⊢
  have hl : lv_has ls 1 [(0, .ref h0)] := hl
  refine lv_aload_n hx hb dX8_mayStage_0 rfl (lv_at hl 0 rfl) ?_
  refine va_get (D := D) (ci := 7) (v := .int m6) (C := RX8) (T := TX8) (N := 44) hx hb hts hin_X8 hown hK hP 0 rfl rfl 6 (by decide) (w_RX8_140) (fun _ h9 => h9) rfl dX8_mayStage_1 ?_
  refine lv_iconst (v := 2) hx hb dX8_mayStage_4 (by decide) ?_
  refine lv_icmp_ne (tgt := 33) hx hb dX8_mayStage_5 (by decide) (fun c_5 => ?_) (fun c_5 => ?_)
  · skip
    refine lv_iconst (v := 0) hx hb dX8_mayStage_33 (by decide) ?_
    exact W.zret (v := 0) hx hb hr rfl (fun t ht hW => ⟨congrArg (fun z => Outcome.returned (some (Value.int z))) (rfl), ht⟩) (fun _ h => by cases h) dX8_mayStage_34
  · exact absurd c_5 hst

set_option maxHeartbeats 4000000 in
set_option maxRecDepth 100000 in
theorem c_X8_mix_st (l : Launch) (D : va_G) (cA : Nat → ClassId) (h0 : Nat) (m0 : Int32) (m1 : Int32) (m2 : Int32) (m3 : Int32) (m4 : Int32) (m5 : Nat) (m6 : Int32) (m7 : Int32) (m8 : Int32) (m9 : Nat) (m10 : Nat) (m11 : Nat) (m12 : Int32) (m13 : Nat) (m14 : Nat) (m15 : Nat) (m16 : Nat) (m17 : Int32) (m18 : Nat) (m19 : Nat) (m20 : Nat) (m21 : Nat) (m22 : Nat) (m23 : Nat) (m24 : Nat) (m25 : Nat) (m26 : Int32) (m27 : Int32) (m28 : Int32) (m29 : Int32) (m30 : Int32) (m31 : Int32) (m32 : Nat) (m33 : Nat) (m34 : Nat) (m35 : Nat) (m36 : Int32) (m37 : Nat) (m38 : Int32) (m39 : Nat) (m40 : Nat) (m41 : Nat) (m42 : Nat) (m43 : Nat) (hst : ¬ m6 = 2) : Met l yX8_mix wsX8_mix ({ frames := 1, cells := 0, slots := 0, locals := 20 }) (rPc vwCl D cA [(h0, .inr (7, [.int m0, .int m1, .int m2, .int m3, .int m4, .ref m5, .int m6, .int m7, .int m8, .ref m9, .ref m10, .ref m11, .int m12, .ref m13, .ref m14, .ref m15, .ref m16, .int m17, .ref m18, .ref m19, .ref m20, .ref m21, .ref m22, .ref m23, .ref m24, .ref m25, .int m26, .int m27, .int m28, .int m29, .int m30, .int m31, .ref m32, .ref m33, .ref m34, .ref m35, .int m36, .ref m37, .int m38, .ref m39, .ref m40, .ref m41, .ref m42, .ref m43]))] [.ref h0]) (rq_x (some (.int (-1)))) 0 0 (fun _ => False) := by
  refine Met.ofW (cc := cX8_mix) (maxL := 4) (ret := (some .int)) (by decide) rfl ?_
  intro p e s m args below meth c s₁ B hml hv
  obtain ⟨rfl, hP, hK⟩ := hv
  have hx := B.exec
  have hb := B.bytes
  have hr := B.returns
  have hts := atoms_spec (ws := wsX8_mix) B.pre
  have hown : s.vm.findClass RX8 = some m.cls := findClass_of_methodNamed B.named
  have hlocks := B.notSynchronized
  have hl := lv_entry ([.ref h0]) (n := 4) (Nat.le_of_ble_eq_true rfl)
  rw [lg_entry_eq]
  generalize (lg_sl ([.ref h0]) ++ List.replicate (4 - (lg_sl ([.ref h0])).length) Slot.unset).toArray = ls at hl ⊢
  have hl : lv_has ls 4 [(0, .ref h0)] := hl
  refine lv_aload_n hx hb dX8_mix_0 rfl (lv_at hl 0 rfl) ?_
  refine rq_call1 (v := .int 0) (rn_V (As := []) (rest := []) (ci := 7) (fs := [.int m0, .int m1, .int m2, .int m3, .int m4, .ref m5, .int m6, .int m7, .int m8, .ref m9, .ref m10, .ref m11, .int m12, .ref m13, .ref m14, .ref m15, .ref m16, .int m17, .ref m18, .ref m19, .ref m20, .ref m21, .ref m22, .ref m23, .ref m24, .ref m25, .int m26, .int m27, .int m28, .int m29, .int m30, .int m31, .ref m32, .ref m33, .ref m34, .ref m35, .int m36, .ref m37, .int m38, .ref m39, .ref m40, .ref m41, .ref m42, .ref m43]) ⟨hx, hb, hml, hown, hts⟩ (c_X8_mayStage_st l D cA h0 m0 m1 m2 m3 m4 m5 m6 m7 m8 m9 m10 m11 m12 m13 m14 m15 m16 m17 m18 m19 m20 m21 m22 m23 m24 m25 m26 m27 m28 m29 m30 m31 m32 m33 m34 m35 m36 m37 m38 m39 m40 m41 m42 m43 (by assumption)) rfl (cwV 0 hts gX8_mix_X8_mayStage rfl rfl rfl (by decide +kernel) ⟨Nat.le_of_ble_eq_true rfl, Nat.le_of_ble_eq_true rfl⟩) hK hP [0] rfl rfl rfl hl.1 rfl (Nat.le_of_ble_eq_true rfl) dX8_mix_1 ⟨Nat.le_of_ble_eq_true rfl, Nat.le_of_ble_eq_true rfl⟩) ?_
  refine lv_if_eq (tgt := 15) hx hb dX8_mix_4 (by decide) (fun c_4 => ?_) (fun c_4 => ?_)
  · skip
    refine lv_iconst (v := (-1)) hx hb dX8_mix_15 (by decide) ?_
    exact W.iret (v := (-1)) hx hb hr (fun t ht hW => ⟨congrArg (fun z => Outcome.returned (some (Value.int z))) (rfl), ht⟩) (fun _ h => by cases h) dX8_mix_16
  · exact absurd rfl c_4

set_option maxHeartbeats 4000000 in
set_option maxRecDepth 100000 in
theorem c_X8_shadow_st (l : Launch) (D : va_G) (cA : Nat → ClassId) (h0 : Nat) (m0 : Int32) (m1 : Int32) (m2 : Int32) (m3 : Int32) (m4 : Int32) (m5 : Nat) (m6 : Int32) (m7 : Int32) (m8 : Int32) (m9 : Nat) (m10 : Nat) (m11 : Nat) (m12 : Int32) (m13 : Nat) (m14 : Nat) (m15 : Nat) (m16 : Nat) (m17 : Int32) (m18 : Nat) (m19 : Nat) (m20 : Nat) (m21 : Nat) (m22 : Nat) (m23 : Nat) (m24 : Nat) (m25 : Nat) (m26 : Int32) (m27 : Int32) (m28 : Int32) (m29 : Int32) (m30 : Int32) (m31 : Int32) (m32 : Nat) (m33 : Nat) (m34 : Nat) (m35 : Nat) (m36 : Int32) (m37 : Nat) (m38 : Int32) (m39 : Nat) (m40 : Nat) (m41 : Nat) (m42 : Nat) (m43 : Nat) (hst : ¬ m6 = 2) : Met l yX8_shadow wsX8_shadow ({ frames := 1, cells := 0, slots := 0, locals := 20 }) (rPc vwCl D cA [(h0, .inr (7, [.int m0, .int m1, .int m2, .int m3, .int m4, .ref m5, .int m6, .int m7, .int m8, .ref m9, .ref m10, .ref m11, .int m12, .ref m13, .ref m14, .ref m15, .ref m16, .int m17, .ref m18, .ref m19, .ref m20, .ref m21, .ref m22, .ref m23, .ref m24, .ref m25, .int m26, .int m27, .int m28, .int m29, .int m30, .int m31, .ref m32, .ref m33, .ref m34, .ref m35, .int m36, .ref m37, .int m38, .ref m39, .ref m40, .ref m41, .ref m42, .ref m43]))] [.ref h0]) (rq_x (some (.int (-1)))) 0 0 (fun _ => False) := by
  refine Met.ofW (cc := cX8_shadow) (maxL := 4) (ret := (some .int)) (by decide) rfl ?_
  intro p e s m args below meth c s₁ B hml hv
  obtain ⟨rfl, hP, hK⟩ := hv
  have hx := B.exec
  have hb := B.bytes
  have hr := B.returns
  have hts := atoms_spec (ws := wsX8_shadow) B.pre
  have hown : s.vm.findClass RX8 = some m.cls := findClass_of_methodNamed B.named
  have hlocks := B.notSynchronized
  have hl := lv_entry ([.ref h0]) (n := 4) (Nat.le_of_ble_eq_true rfl)
  rw [lg_entry_eq]
  generalize (lg_sl ([.ref h0]) ++ List.replicate (4 - (lg_sl ([.ref h0])).length) Slot.unset).toArray = ls at hl ⊢
  have hl : lv_has ls 4 [(0, .ref h0)] := hl
  refine lv_aload_n hx hb dX8_shadow_0 rfl (lv_at hl 0 rfl) ?_
  refine rq_call1 (v := .int 0) (rn_V (As := []) (rest := []) (ci := 7) (fs := [.int m0, .int m1, .int m2, .int m3, .int m4, .ref m5, .int m6, .int m7, .int m8, .ref m9, .ref m10, .ref m11, .int m12, .ref m13, .ref m14, .ref m15, .ref m16, .int m17, .ref m18, .ref m19, .ref m20, .ref m21, .ref m22, .ref m23, .ref m24, .ref m25, .int m26, .int m27, .int m28, .int m29, .int m30, .int m31, .ref m32, .ref m33, .ref m34, .ref m35, .int m36, .ref m37, .int m38, .ref m39, .ref m40, .ref m41, .ref m42, .ref m43]) ⟨hx, hb, hml, hown, hts⟩ (c_X8_mayStage_st l D cA h0 m0 m1 m2 m3 m4 m5 m6 m7 m8 m9 m10 m11 m12 m13 m14 m15 m16 m17 m18 m19 m20 m21 m22 m23 m24 m25 m26 m27 m28 m29 m30 m31 m32 m33 m34 m35 m36 m37 m38 m39 m40 m41 m42 m43 (by assumption)) rfl (cwV 0 hts gX8_shadow_X8_mayStage rfl rfl rfl (by decide +kernel) ⟨Nat.le_of_ble_eq_true rfl, Nat.le_of_ble_eq_true rfl⟩) hK hP [0] rfl rfl rfl hl.1 rfl (Nat.le_of_ble_eq_true rfl) dX8_shadow_1 ⟨Nat.le_of_ble_eq_true rfl, Nat.le_of_ble_eq_true rfl⟩) ?_
  refine lv_if_eq (tgt := 23) hx hb dX8_shadow_4 (by decide) (fun c_4 => ?_) (fun c_4 => ?_)
  · skip
    refine lv_iconst (v := (-1)) hx hb dX8_shadow_23 (by decide) ?_
    exact W.iret (v := (-1)) hx hb hr (fun t ht hW => ⟨congrArg (fun z => Outcome.returned (some (Value.int z))) (rfl), ht⟩) (fun _ h => by cases h) dX8_shadow_24
  · exact absurd rfl c_4

set_option maxHeartbeats 4000000 in
set_option maxRecDepth 100000 in
theorem c_X8_coin_nd (l : Launch) (D : va_G) (cA : Nat → ClassId) (h0 : Nat) (m0 : Int32) (m1 : Int32) (m2 : Int32) (m3 : Int32) (m4 : Int32) (m5 : Nat) (m6 : Int32) (m7 : Int32) (m8 : Int32) (m9 : Nat) (m10 : Nat) (m11 : Nat) (m12 : Int32) (m13 : Nat) (m14 : Nat) (m15 : Nat) (m16 : Nat) (m17 : Int32) (m18 : Nat) (m19 : Nat) (m20 : Nat) (m21 : Nat) (m22 : Nat) (m23 : Nat) (m24 : Nat) (m25 : Nat) (m26 : Int32) (m27 : Int32) (m28 : Int32) (m29 : Int32) (m30 : Int32) (m31 : Int32) (m32 : Nat) (m33 : Nat) (m34 : Nat) (m35 : Nat) (m36 : Int32) (m37 : Nat) (m38 : Int32) (m39 : Nat) (m40 : Nat) (m41 : Nat) (m42 : Nat) (m43 : Nat) (v : Int32) (hd : m28 = 0) : Met l yX8_coin wsX8_coin ({ frames := 0, cells := 0, slots := 0, locals := 0 }) (rPc vwCl D cA [(h0, .inr (7, [.int m0, .int m1, .int m2, .int m3, .int m4, .ref m5, .int m6, .int m7, .int m8, .ref m9, .ref m10, .ref m11, .int m12, .ref m13, .ref m14, .ref m15, .ref m16, .int m17, .ref m18, .ref m19, .ref m20, .ref m21, .ref m22, .ref m23, .ref m24, .ref m25, .int m26, .int m27, .int m28, .int m29, .int m30, .int m31, .ref m32, .ref m33, .ref m34, .ref m35, .int m36, .ref m37, .int m38, .ref m39, .ref m40, .ref m41, .ref m42, .ref m43]))] [.ref h0, .int v]) (rq_x (some (.int (-1)))) 0 0 (fun _ => False) := by
  refine Met.ofW (cc := cX8_coin) (maxL := 7) (ret := (some .int)) (by decide) rfl ?_
  intro p e s m args below meth c s₁ B hml hv
  obtain ⟨rfl, hP, hK⟩ := hv
  have hx := B.exec
  have hb := B.bytes
  have hr := B.returns
  have hts := atoms_spec (ws := wsX8_coin) B.pre
  have hown : s.vm.findClass RX8 = some m.cls := findClass_of_methodNamed B.named
  have hlocks := B.notSynchronized
  have hin_X8 : ∀ w ∈ wsX80, w ∈ wsX8_coin := fun w h => List.mem_cons_of_mem _ (List.mem_append_right _ h)
  have w_RX8_181 := hts (.fieldLink RX8 181 "MixElectionModel" "isDue" "Z") (by decide +kernel)
  have hl := lv_entry ([.ref h0, .int v]) (n := 7) (Nat.le_of_ble_eq_true rfl)
  rw [lg_entry_eq]
  generalize (lg_sl ([.ref h0, .int v]) ++ List.replicate (7 - (lg_sl ([.ref h0, .int v])).length) Slot.unset).toArray = ls at hl ⊢
  have hl : lv_has ls 7 [(0, .ref h0), (1, .int v)] := hl
  refine lv_aload_n hx hb dX8_coin_0 rfl (lv_at hl 0 rfl) ?_
  refine va_get (D := D) (ci := 7) (v := .int m28) (C := RX8) (T := TX8) (N := 44) hx hb hts hin_X8 hown hK hP 0 rfl rfl 28 (by decide) (w_RX8_181) (fun _ h9 => h9) rfl dX8_coin_1 ?_
  refine lv_if_eq (tgt := 16) hx hb dX8_coin_4 (by decide) (fun c_4 => ?_) (fun c_4 => ?_)
  · skip
    refine lv_iconst (v := (-1)) hx hb dX8_coin_16 (by decide) ?_
    exact W.iret (v := (-1)) hx hb hr (fun t ht hW => ⟨congrArg (fun z => Outcome.returned (some (Value.int z))) (rfl), ht⟩) (fun _ h => by cases h) dX8_coin_17
  · exact absurd hd c_4

set_option maxHeartbeats 4000000 in
set_option maxRecDepth 100000 in
theorem c_X8_share_st (l : Launch) (D : va_G) (cA : Nat → ClassId) (h0 : Nat) (m0 : Int32) (m1 : Int32) (m2 : Int32) (m3 : Int32) (m4 : Int32) (m5 : Nat) (m6 : Int32) (m7 : Int32) (m8 : Int32) (m9 : Nat) (m10 : Nat) (m11 : Nat) (m12 : Int32) (m13 : Nat) (m14 : Nat) (m15 : Nat) (m16 : Nat) (m17 : Int32) (m18 : Nat) (m19 : Nat) (m20 : Nat) (m21 : Nat) (m22 : Nat) (m23 : Nat) (m24 : Nat) (m25 : Nat) (m26 : Int32) (m27 : Int32) (m28 : Int32) (m29 : Int32) (m30 : Int32) (m31 : Int32) (m32 : Nat) (m33 : Nat) (m34 : Nat) (m35 : Nat) (m36 : Int32) (m37 : Nat) (m38 : Int32) (m39 : Nat) (m40 : Nat) (m41 : Nat) (m42 : Nat) (m43 : Nat) (v : Int32) (hst : ¬ m6 = 2) : Met l yX8_share wsX8_share ({ frames := 0, cells := 0, slots := 0, locals := 0 }) (rPc vwCl D cA [(h0, .inr (7, [.int m0, .int m1, .int m2, .int m3, .int m4, .ref m5, .int m6, .int m7, .int m8, .ref m9, .ref m10, .ref m11, .int m12, .ref m13, .ref m14, .ref m15, .ref m16, .int m17, .ref m18, .ref m19, .ref m20, .ref m21, .ref m22, .ref m23, .ref m24, .ref m25, .int m26, .int m27, .int m28, .int m29, .int m30, .int m31, .ref m32, .ref m33, .ref m34, .ref m35, .int m36, .ref m37, .int m38, .ref m39, .ref m40, .ref m41, .ref m42, .ref m43]))] [.ref h0, .int v]) (rq_x (some (.int (-1)))) 0 0 (fun _ => False) := by
  refine Met.ofW (cc := cX8_share) (maxL := 7) (ret := (some .int)) (by decide) rfl ?_
  intro p e s m args below meth c s₁ B hml hv
  obtain ⟨rfl, hP, hK⟩ := hv
  have hx := B.exec
  have hb := B.bytes
  have hr := B.returns
  have hts := atoms_spec (ws := wsX8_share) B.pre
  have hown : s.vm.findClass RX8 = some m.cls := findClass_of_methodNamed B.named
  have hlocks := B.notSynchronized
  have hin_X8 : ∀ w ∈ wsX80, w ∈ wsX8_share := fun w h => List.mem_cons_of_mem _ (List.mem_append_right _ h)
  have w_RX8_140 := hts (.fieldLink RX8 140 "MixElectionModel" "stage" "I") (by decide +kernel)
  have hl := lv_entry ([.ref h0, .int v]) (n := 7) (Nat.le_of_ble_eq_true rfl)
  rw [lg_entry_eq]
  generalize (lg_sl ([.ref h0, .int v]) ++ List.replicate (7 - (lg_sl ([.ref h0, .int v])).length) Slot.unset).toArray = ls at hl ⊢
  have hl : lv_has ls 7 [(0, .ref h0), (1, .int v)] := hl
  refine lv_aload_n hx hb dX8_share_0 rfl (lv_at hl 0 rfl) ?_
  refine va_get (D := D) (ci := 7) (v := .int m6) (C := RX8) (T := TX8) (N := 44) hx hb hts hin_X8 hown hK hP 0 rfl rfl 6 (by decide) (w_RX8_140) (fun _ h9 => h9) rfl dX8_share_1 ?_
  refine lv_iconst (v := 2) hx hb dX8_share_4 (by decide) ?_
  refine lv_icmp_ne (tgt := 43) hx hb dX8_share_5 (by decide) (fun c_5 => ?_) (fun c_5 => ?_)
  · skip
    refine lv_iconst (v := (-1)) hx hb dX8_share_43 (by decide) ?_
    exact W.iret (v := (-1)) hx hb hr (fun t ht hW => ⟨congrArg (fun z => Outcome.returned (some (Value.int z))) (rfl), ht⟩) (fun _ h => by cases h) dX8_share_44
  · exact absurd c_5 hst

set_option maxHeartbeats 4000000 in
set_option maxRecDepth 100000 in
theorem c_X8_tally_st (l : Launch) (D : va_G) (cA : Nat → ClassId) (h0 : Nat) (m0 : Int32) (m1 : Int32) (m2 : Int32) (m3 : Int32) (m4 : Int32) (m5 : Nat) (m6 : Int32) (m7 : Int32) (m8 : Int32) (m9 : Nat) (m10 : Nat) (m11 : Nat) (m12 : Int32) (m13 : Nat) (m14 : Nat) (m15 : Nat) (m16 : Nat) (m17 : Int32) (m18 : Nat) (m19 : Nat) (m20 : Nat) (m21 : Nat) (m22 : Nat) (m23 : Nat) (m24 : Nat) (m25 : Nat) (m26 : Int32) (m27 : Int32) (m28 : Int32) (m29 : Int32) (m30 : Int32) (m31 : Int32) (m32 : Nat) (m33 : Nat) (m34 : Nat) (m35 : Nat) (m36 : Int32) (m37 : Nat) (m38 : Int32) (m39 : Nat) (m40 : Nat) (m41 : Nat) (m42 : Nat) (m43 : Nat) (hst : ¬ m6 = 2) : Met l yX8_tally wsX8_tally ({ frames := 0, cells := 0, slots := 0, locals := 0 }) (rPc vwCl D cA [(h0, .inr (7, [.int m0, .int m1, .int m2, .int m3, .int m4, .ref m5, .int m6, .int m7, .int m8, .ref m9, .ref m10, .ref m11, .int m12, .ref m13, .ref m14, .ref m15, .ref m16, .int m17, .ref m18, .ref m19, .ref m20, .ref m21, .ref m22, .ref m23, .ref m24, .ref m25, .int m26, .int m27, .int m28, .int m29, .int m30, .int m31, .ref m32, .ref m33, .ref m34, .ref m35, .int m36, .ref m37, .int m38, .ref m39, .ref m40, .ref m41, .ref m42, .ref m43]))] [.ref h0]) (rq_x (some (.int (-1)))) 0 0 (fun _ => False) := by
  refine Met.ofW (cc := cX8_tally) (maxL := 8) (ret := (some .int)) (by decide) rfl ?_
  intro p e s m args below meth c s₁ B hml hv
  obtain ⟨rfl, hP, hK⟩ := hv
  have hx := B.exec
  have hb := B.bytes
  have hr := B.returns
  have hts := atoms_spec (ws := wsX8_tally) B.pre
  have hown : s.vm.findClass RX8 = some m.cls := findClass_of_methodNamed B.named
  have hlocks := B.notSynchronized
  have hin_X8 : ∀ w ∈ wsX80, w ∈ wsX8_tally := fun w h => List.mem_cons_of_mem _ (List.mem_append_right _ h)
  have w_RX8_140 := hts (.fieldLink RX8 140 "MixElectionModel" "stage" "I") (by decide +kernel)
  have hl := lv_entry ([.ref h0]) (n := 8) (Nat.le_of_ble_eq_true rfl)
  rw [lg_entry_eq]
  generalize (lg_sl ([.ref h0]) ++ List.replicate (8 - (lg_sl ([.ref h0])).length) Slot.unset).toArray = ls at hl ⊢
  have hl : lv_has ls 8 [(0, .ref h0)] := hl
  refine lv_aload_n hx hb dX8_tally_0 rfl (lv_at hl 0 rfl) ?_
  refine va_get (D := D) (ci := 7) (v := .int m6) (C := RX8) (T := TX8) (N := 44) hx hb hts hin_X8 hown hK hP 0 rfl rfl 6 (by decide) (w_RX8_140) (fun _ h9 => h9) rfl dX8_tally_1 ?_
  refine lv_iconst (v := 2) hx hb dX8_tally_4 (by decide) ?_
  refine lv_icmp_ne (tgt := 47) hx hb dX8_tally_5 (by decide) (fun c_5 => ?_) (fun c_5 => ?_)
  · skip
    refine lv_iconst (v := (-1)) hx hb dX8_tally_47 (by decide) ?_
    exact W.iret (v := (-1)) hx hb hr (fun t ht hW => ⟨congrArg (fun z => Outcome.returned (some (Value.int z))) (rfl), ht⟩) (fun _ h => by cases h) dX8_tally_48
  · exact absurd c_5 hst

set_option maxHeartbeats 4000000 in
set_option maxRecDepth 100000 in
theorem c_X8_count_st (l : Launch) (D : va_G) (cA : Nat → ClassId) (h0 : Nat) (m0 : Int32) (m1 : Int32) (m2 : Int32) (m3 : Int32) (m4 : Int32) (m5 : Nat) (m6 : Int32) (m7 : Int32) (m8 : Int32) (m9 : Nat) (m10 : Nat) (m11 : Nat) (m12 : Int32) (m13 : Nat) (m14 : Nat) (m15 : Nat) (m16 : Nat) (m17 : Int32) (m18 : Nat) (m19 : Nat) (m20 : Nat) (m21 : Nat) (m22 : Nat) (m23 : Nat) (m24 : Nat) (m25 : Nat) (m26 : Int32) (m27 : Int32) (m28 : Int32) (m29 : Int32) (m30 : Int32) (m31 : Int32) (m32 : Nat) (m33 : Nat) (m34 : Nat) (m35 : Nat) (m36 : Int32) (m37 : Nat) (m38 : Int32) (m39 : Nat) (m40 : Nat) (m41 : Nat) (m42 : Nat) (m43 : Nat) (v : Int32) (hst : ¬ m6 = 3) : Met l yX8_count wsX8_count ({ frames := 0, cells := 0, slots := 0, locals := 0 }) (rPc vwCl D cA [(h0, .inr (7, [.int m0, .int m1, .int m2, .int m3, .int m4, .ref m5, .int m6, .int m7, .int m8, .ref m9, .ref m10, .ref m11, .int m12, .ref m13, .ref m14, .ref m15, .ref m16, .int m17, .ref m18, .ref m19, .ref m20, .ref m21, .ref m22, .ref m23, .ref m24, .ref m25, .int m26, .int m27, .int m28, .int m29, .int m30, .int m31, .ref m32, .ref m33, .ref m34, .ref m35, .int m36, .ref m37, .int m38, .ref m39, .ref m40, .ref m41, .ref m42, .ref m43]))] [.ref h0, .int v]) (rq_x (some (.int (-1)))) 0 0 (fun _ => False) := by
  refine Met.ofW (cc := cX8_count) (maxL := 2) (ret := (some .int)) (by decide) rfl ?_
  intro p e s m args below meth c s₁ B hml hv
  obtain ⟨rfl, hP, hK⟩ := hv
  have hx := B.exec
  have hb := B.bytes
  have hr := B.returns
  have hts := atoms_spec (ws := wsX8_count) B.pre
  have hown : s.vm.findClass RX8 = some m.cls := findClass_of_methodNamed B.named
  have hlocks := B.notSynchronized
  have hin_X8 : ∀ w ∈ wsX80, w ∈ wsX8_count := fun w h => List.mem_cons_of_mem _ (List.mem_append_right _ h)
  have w_RX8_140 := hts (.fieldLink RX8 140 "MixElectionModel" "stage" "I") (by decide +kernel)
  have hl := lv_entry ([.ref h0, .int v]) (n := 2) (Nat.le_of_ble_eq_true rfl)
  rw [lg_entry_eq]
  generalize (lg_sl ([.ref h0, .int v]) ++ List.replicate (2 - (lg_sl ([.ref h0, .int v])).length) Slot.unset).toArray = ls at hl ⊢
  have hl : lv_has ls 2 [(0, .ref h0), (1, .int v)] := hl
  refine lv_aload_n hx hb dX8_count_0 rfl (lv_at hl 0 rfl) ?_
  refine va_get (D := D) (ci := 7) (v := .int m6) (C := RX8) (T := TX8) (N := 44) hx hb hts hin_X8 hown hK hP 0 rfl rfl 6 (by decide) (w_RX8_140) (fun _ h9 => h9) rfl dX8_count_1 ?_
  refine lv_iconst (v := 3) hx hb dX8_count_4 (by decide) ?_
  refine lv_icmp_ne (tgt := 29) hx hb dX8_count_5 (by decide) (fun c_5 => ?_) (fun c_5 => ?_)
  · skip
    refine lv_iconst (v := (-1)) hx hb dX8_count_29 (by decide) ?_
    exact W.iret (v := (-1)) hx hb hr (fun t ht hW => ⟨congrArg (fun z => Outcome.returned (some (Value.int z))) (rfl), ht⟩) (fun _ h => by cases h) dX8_count_30
  · exact absurd c_5 hst

set_option maxHeartbeats 4000000 in
set_option maxRecDepth 100000 in
theorem c_X8_list_st (l : Launch) (D : va_G) (cA : Nat → ClassId) (h0 : Nat) (m0 : Int32) (m1 : Int32) (m2 : Int32) (m3 : Int32) (m4 : Int32) (m5 : Nat) (m6 : Int32) (m7 : Int32) (m8 : Int32) (m9 : Nat) (m10 : Nat) (m11 : Nat) (m12 : Int32) (m13 : Nat) (m14 : Nat) (m15 : Nat) (m16 : Nat) (m17 : Int32) (m18 : Nat) (m19 : Nat) (m20 : Nat) (m21 : Nat) (m22 : Nat) (m23 : Nat) (m24 : Nat) (m25 : Nat) (m26 : Int32) (m27 : Int32) (m28 : Int32) (m29 : Int32) (m30 : Int32) (m31 : Int32) (m32 : Nat) (m33 : Nat) (m34 : Nat) (m35 : Nat) (m36 : Int32) (m37 : Nat) (m38 : Int32) (m39 : Nat) (m40 : Nat) (m41 : Nat) (m42 : Nat) (m43 : Nat) (v : Int32) (i : Int32) (w : Int32) (hst : m6 < 2) : Met l yX8_list wsX8_list ({ frames := 0, cells := 0, slots := 0, locals := 0 }) (rPc vwCl D cA [(h0, .inr (7, [.int m0, .int m1, .int m2, .int m3, .int m4, .ref m5, .int m6, .int m7, .int m8, .ref m9, .ref m10, .ref m11, .int m12, .ref m13, .ref m14, .ref m15, .ref m16, .int m17, .ref m18, .ref m19, .ref m20, .ref m21, .ref m22, .ref m23, .ref m24, .ref m25, .int m26, .int m27, .int m28, .int m29, .int m30, .int m31, .ref m32, .ref m33, .ref m34, .ref m35, .int m36, .ref m37, .int m38, .ref m39, .ref m40, .ref m41, .ref m42, .ref m43]))] [.ref h0, .int v, .int i, .int w]) (rq_x (some (.int (-1)))) 0 0 (fun _ => False) := by
  refine Met.ofW (cc := cX8_list) (maxL := 4) (ret := (some .int)) (by decide) rfl ?_
  intro p e s m args below meth c s₁ B hml hv
  obtain ⟨rfl, hP, hK⟩ := hv
  have hx := B.exec
  have hb := B.bytes
  have hr := B.returns
  have hts := atoms_spec (ws := wsX8_list) B.pre
  have hown : s.vm.findClass RX8 = some m.cls := findClass_of_methodNamed B.named
  have hlocks := B.notSynchronized
  have hin_X8 : ∀ w ∈ wsX80, w ∈ wsX8_list := fun w h => List.mem_cons_of_mem _ (List.mem_append_right _ h)
  have w_RX8_140 := hts (.fieldLink RX8 140 "MixElectionModel" "stage" "I") (by decide +kernel)
  have hl := lv_entry ([.ref h0, .int v, .int i, .int w]) (n := 4) (Nat.le_of_ble_eq_true rfl)
  rw [lg_entry_eq]
  generalize (lg_sl ([.ref h0, .int v, .int i, .int w]) ++ List.replicate (4 - (lg_sl ([.ref h0, .int v, .int i, .int w])).length) Slot.unset).toArray = ls at hl ⊢
  have hl : lv_has ls 4 [(0, .ref h0), (1, .int v), (2, .int i), (3, .int w)] := hl
  refine lv_aload_n hx hb dX8_list_0 rfl (lv_at hl 0 rfl) ?_
  refine va_get (D := D) (ci := 7) (v := .int m6) (C := RX8) (T := TX8) (N := 44) hx hb hts hin_X8 hown hK hP 0 rfl rfl 6 (by decide) (w_RX8_140) (fun _ h9 => h9) rfl dX8_list_1 ?_
  refine lv_iconst (v := 2) hx hb dX8_list_4 (by decide) ?_
  refine lv_icmp_lt (tgt := 43) hx hb dX8_list_5 (by decide) (fun c_5 => ?_) (fun c_5 => ?_)
  · skip
    refine lv_iconst (v := (-1)) hx hb dX8_list_43 (by decide) ?_
    exact W.iret (v := (-1)) hx hb hr (fun t ht hW => ⟨congrArg (fun z => Outcome.returned (some (Value.int z))) (rfl), ht⟩) (fun _ h => by cases h) dX8_list_44
  · exact absurd hst c_5

set_option maxHeartbeats 4000000 in
set_option maxRecDepth 100000 in
theorem c_X8_shadowOf_ns (l : Launch) (D : va_G) (cA : Nat → ClassId) (h0 : Nat) (m0 : Int32) (m1 : Int32) (m2 : Int32) (m3 : Int32) (m4 : Int32) (m5 : Nat) (m6 : Int32) (m7 : Int32) (m8 : Int32) (m9 : Nat) (m10 : Nat) (m11 : Nat) (m12 : Int32) (m13 : Nat) (m14 : Nat) (m15 : Nat) (m16 : Nat) (m17 : Int32) (m18 : Nat) (m19 : Nat) (m20 : Nat) (m21 : Nat) (m22 : Nat) (m23 : Nat) (m24 : Nat) (m25 : Nat) (m26 : Int32) (m27 : Int32) (m28 : Int32) (m29 : Int32) (m30 : Int32) (m31 : Int32) (m32 : Nat) (m33 : Nat) (m34 : Nat) (m35 : Nat) (m36 : Int32) (m37 : Nat) (m38 : Int32) (m39 : Nat) (m40 : Nat) (m41 : Nat) (m42 : Nat) (m43 : Nat) (i : Int32) (w : Int32) (hd : m17 = 0) : Met l yX8_shadowOf wsX8_shadowOf ({ frames := 0, cells := 0, slots := 0, locals := 0 }) (rPc vwCl D cA [(h0, .inr (7, [.int m0, .int m1, .int m2, .int m3, .int m4, .ref m5, .int m6, .int m7, .int m8, .ref m9, .ref m10, .ref m11, .int m12, .ref m13, .ref m14, .ref m15, .ref m16, .int m17, .ref m18, .ref m19, .ref m20, .ref m21, .ref m22, .ref m23, .ref m24, .ref m25, .int m26, .int m27, .int m28, .int m29, .int m30, .int m31, .ref m32, .ref m33, .ref m34, .ref m35, .int m36, .ref m37, .int m38, .ref m39, .ref m40, .ref m41, .ref m42, .ref m43]))] [.ref h0, .int i, .int w]) (rq_x (some (.int (-1)))) 0 0 (fun _ => False) := by
  refine Met.ofW (cc := cX8_shadowOf) (maxL := 3) (ret := (some .int)) (by decide) rfl ?_
  intro p e s m args below meth c s₁ B hml hv
  obtain ⟨rfl, hP, hK⟩ := hv
  have hx := B.exec
  have hb := B.bytes
  have hr := B.returns
  have hts := atoms_spec (ws := wsX8_shadowOf) B.pre
  have hown : s.vm.findClass RX8 = some m.cls := findClass_of_methodNamed B.named
  have hlocks := B.notSynchronized
  have hin_X8 : ∀ w ∈ wsX80, w ∈ wsX8_shadowOf := fun w h => List.mem_cons_of_mem _ (List.mem_append_right _ h)
  have w_RX8_206 := hts (.fieldLink RX8 206 "MixElectionModel" "hasShadow" "Z") (by decide +kernel)
  have hl := lv_entry ([.ref h0, .int i, .int w]) (n := 3) (Nat.le_of_ble_eq_true rfl)
  rw [lg_entry_eq]
  generalize (lg_sl ([.ref h0, .int i, .int w]) ++ List.replicate (3 - (lg_sl ([.ref h0, .int i, .int w])).length) Slot.unset).toArray = ls at hl ⊢
  have hl : lv_has ls 3 [(0, .ref h0), (1, .int i), (2, .int w)] := hl
  refine lv_aload_n hx hb dX8_shadowOf_0 rfl (lv_at hl 0 rfl) ?_
  refine va_get (D := D) (ci := 7) (v := .int m17) (C := RX8) (T := TX8) (N := 44) hx hb hts hin_X8 hown hK hP 0 rfl rfl 17 (by decide) (w_RX8_206) (fun _ h9 => h9) rfl dX8_shadowOf_1 ?_
  refine lv_if_eq (tgt := 30) hx hb dX8_shadowOf_4 (by decide) (fun c_4 => ?_) (fun c_4 => ?_)
  · skip
    refine lv_iconst (v := (-1)) hx hb dX8_shadowOf_30 (by decide) ?_
    exact W.iret (v := (-1)) hx hb hr (fun t ht hW => ⟨congrArg (fun z => Outcome.returned (some (Value.int z))) (rfl), ht⟩) (fun _ h => by cases h) dX8_shadowOf_31
  · exact absurd hd c_4

set_option maxHeartbeats 4000000 in
set_option maxRecDepth 100000 in
theorem c_X8_shown_ns (l : Launch) (D : va_G) (cA : Nat → ClassId) (h0 : Nat) (m0 : Int32) (m1 : Int32) (m2 : Int32) (m3 : Int32) (m4 : Int32) (m5 : Nat) (m6 : Int32) (m7 : Int32) (m8 : Int32) (m9 : Nat) (m10 : Nat) (m11 : Nat) (m12 : Int32) (m13 : Nat) (m14 : Nat) (m15 : Nat) (m16 : Nat) (m17 : Int32) (m18 : Nat) (m19 : Nat) (m20 : Nat) (m21 : Nat) (m22 : Nat) (m23 : Nat) (m24 : Nat) (m25 : Nat) (m26 : Int32) (m27 : Int32) (m28 : Int32) (m29 : Int32) (m30 : Int32) (m31 : Int32) (m32 : Nat) (m33 : Nat) (m34 : Nat) (m35 : Nat) (m36 : Int32) (m37 : Nat) (m38 : Int32) (m39 : Nat) (m40 : Nat) (m41 : Nat) (m42 : Nat) (m43 : Nat) (i : Int32) (w : Int32) (hd : m31 = 0) : Met l yX8_shown wsX8_shown ({ frames := 0, cells := 0, slots := 0, locals := 0 }) (rPc vwCl D cA [(h0, .inr (7, [.int m0, .int m1, .int m2, .int m3, .int m4, .ref m5, .int m6, .int m7, .int m8, .ref m9, .ref m10, .ref m11, .int m12, .ref m13, .ref m14, .ref m15, .ref m16, .int m17, .ref m18, .ref m19, .ref m20, .ref m21, .ref m22, .ref m23, .ref m24, .ref m25, .int m26, .int m27, .int m28, .int m29, .int m30, .int m31, .ref m32, .ref m33, .ref m34, .ref m35, .int m36, .ref m37, .int m38, .ref m39, .ref m40, .ref m41, .ref m42, .ref m43]))] [.ref h0, .int i, .int w]) (rq_x (some (.int (-1)))) 0 0 (fun _ => False) := by
  refine Met.ofW (cc := cX8_shown) (maxL := 3) (ret := (some .int)) (by decide) rfl ?_
  intro p e s m args below meth c s₁ B hml hv
  obtain ⟨rfl, hP, hK⟩ := hv
  have hx := B.exec
  have hb := B.bytes
  have hr := B.returns
  have hts := atoms_spec (ws := wsX8_shown) B.pre
  have hown : s.vm.findClass RX8 = some m.cls := findClass_of_methodNamed B.named
  have hlocks := B.notSynchronized
  have hin_X8 : ∀ w ∈ wsX80, w ∈ wsX8_shown := fun w h => List.mem_cons_of_mem _ (List.mem_append_right _ h)
  have w_RX8_209 := hts (.fieldLink RX8 209 "MixElectionModel" "hasShown" "Z") (by decide +kernel)
  have hl := lv_entry ([.ref h0, .int i, .int w]) (n := 3) (Nat.le_of_ble_eq_true rfl)
  rw [lg_entry_eq]
  generalize (lg_sl ([.ref h0, .int i, .int w]) ++ List.replicate (3 - (lg_sl ([.ref h0, .int i, .int w])).length) Slot.unset).toArray = ls at hl ⊢
  have hl : lv_has ls 3 [(0, .ref h0), (1, .int i), (2, .int w)] := hl
  refine lv_aload_n hx hb dX8_shown_0 rfl (lv_at hl 0 rfl) ?_
  refine va_get (D := D) (ci := 7) (v := .int m31) (C := RX8) (T := TX8) (N := 44) hx hb hts hin_X8 hown hK hP 0 rfl rfl 31 (by decide) (w_RX8_209) (fun _ h9 => h9) rfl dX8_shown_1 ?_
  refine lv_if_eq (tgt := 30) hx hb dX8_shown_4 (by decide) (fun c_4 => ?_) (fun c_4 => ?_)
  · skip
    refine lv_iconst (v := (-1)) hx hb dX8_shown_30 (by decide) ?_
    exact W.iret (v := (-1)) hx hb hr (fun t ht hW => ⟨congrArg (fun z => Outcome.returned (some (Value.int z))) (rfl), ht⟩) (fun _ h => by cases h) dX8_shown_31
  · exact absurd hd c_4

set_option maxHeartbeats 4000000 in
set_option maxRecDepth 100000 in
theorem c_X8_given_ng (l : Launch) (D : va_G) (cA : Nat → ClassId) (h0 : Nat) (m0 : Int32) (m1 : Int32) (m2 : Int32) (m3 : Int32) (m4 : Int32) (m5 : Nat) (m6 : Int32) (m7 : Int32) (m8 : Int32) (m9 : Nat) (m10 : Nat) (m11 : Nat) (m12 : Int32) (m13 : Nat) (m14 : Nat) (m15 : Nat) (m16 : Nat) (m17 : Int32) (m18 : Nat) (m19 : Nat) (m20 : Nat) (m21 : Nat) (m22 : Nat) (m23 : Nat) (m24 : Nat) (m25 : Nat) (m26 : Int32) (m27 : Int32) (m28 : Int32) (m29 : Int32) (m30 : Int32) (m31 : Int32) (m32 : Nat) (m33 : Nat) (m34 : Nat) (m35 : Nat) (m36 : Int32) (m37 : Nat) (m38 : Int32) (m39 : Nat) (m40 : Nat) (m41 : Nat) (m42 : Nat) (m43 : Nat) (j : Int32) (i : Int32) (gf : Nat → Int32) (t0 : Nat) (hm : m3 = nI t0) (ht5 : t0 ≤ 5) (hg : ∀ k : Nat, gf k = 0) : Met l yX8_given wsX8_given ({ frames := 1, cells := 0, slots := 0, locals := 22 }) (rPc vwCl D cA [(h0, .inr (7, [.int m0, .int m1, .int m2, .int m3, .int m4, .ref m5, .int m6, .int m7, .int m8, .ref m9, .ref m10, .ref m11, .int m12, .ref m13, .ref m14, .ref m15, .ref m16, .int m17, .ref m18, .ref m19, .ref m20, .ref m21, .ref m22, .ref m23, .ref m24, .ref m25, .int m26, .int m27, .int m28, .int m29, .int m30, .int m31, .ref m32, .ref m33, .ref m34, .ref m35, .int m36, .ref m37, .int m38, .ref m39, .ref m40, .ref m41, .ref m42, .ref m43])), (m34, .inl (cA 1, 6, .inl gf))] [.ref h0, .int j, .int i]) (rq_x (some (.int (-1)))) 0 0 (fun _ => False) := by
  refine Met.ofW (cc := cX8_given) (maxL := 3) (ret := (some .int)) (by decide) rfl ?_
  intro p e s m args below meth c s₁ B hml hv
  obtain ⟨rfl, hP, hK⟩ := hv
  have hx := B.exec
  have hb := B.bytes
  have hr := B.returns
  have hts := atoms_spec (ws := wsX8_given) B.pre
  have hown : s.vm.findClass RX8 = some m.cls := findClass_of_methodNamed B.named
  have hlocks := B.notSynchronized
  have hin_X8 : ∀ w ∈ wsX80, w ∈ wsX8_given := fun w h => List.mem_cons_of_mem _ (List.mem_append_right _ h)
  have w_RX8_109 := hts (.fieldLink RX8 109 "MixElectionModel" "trustees" "I") (by decide +kernel)
  have w_RX8_65 := hts (.fieldLink RX8 65 "MixElectionModel" "hasGiven" "[Z") (by decide +kernel)
  have hl := lv_entry ([.ref h0, .int j, .int i]) (n := 3) (Nat.le_of_ble_eq_true rfl)
  rw [lg_entry_eq]
  generalize (lg_sl ([.ref h0, .int j, .int i]) ++ List.replicate (3 - (lg_sl ([.ref h0, .int j, .int i])).length) Slot.unset).toArray = ls at hl ⊢
  have hl : lv_has ls 3 [(0, .ref h0), (1, .int j), (2, .int i)] := hl
  refine lv_iload_n hx hb dX8_given_0 rfl (lv_at hl 1 rfl) ?_
  refine lv_iconst (v := 1) hx hb dX8_given_1 (by decide) ?_
  refine lv_aload_n hx hb dX8_given_2 rfl (lv_at hl 0 rfl) ?_
  refine va_get (D := D) (ci := 7) (v := .int m3) (C := RX8) (T := TX8) (N := 44) hx hb hts hin_X8 hown hK hP 0 rfl rfl 3 (by decide) (w_RX8_109) (fun _ h9 => h9) rfl dX8_given_3 ?_
  refine rq_call1 (v := .int (bI (1 ≤ j ∧ j ≤ m3))) (rn_S (As := [.int j, .int 1, .int m3]) (rest := []) ⟨hx, hb, hml, hown, hts⟩ (c_X8_in l D cA j 1 m3) (va_cwS 3 hts gX8_given_X8_in rfl rfl rfl (by decide +kernel) ⟨Nat.le_of_ble_eq_true rfl, Nat.le_of_ble_eq_true rfl⟩) hK hP [] rfl rfl hl.1 rfl (Nat.le_of_ble_eq_true rfl) dX8_given_6 ⟨Nat.le_of_ble_eq_true rfl, Nat.le_of_ble_eq_true rfl⟩) ?_
  refine lv_if_eq (tgt := 49) hx hb dX8_given_9 (by decide) (fun c_9 => ?_) (fun c_9 => ?_)
  · skip
    refine lv_iconst (v := (-1)) hx hb dX8_given_49 (by decide) ?_
    exact W.iret (v := (-1)) hx hb hr (fun t ht hW => ⟨congrArg (fun z => Outcome.returned (some (Value.int z))) (rfl), ht⟩) (fun _ h => by cases h) dX8_given_50
  · skip
    refine lv_aload_n hx hb dX8_given_12 rfl (lv_at hl 0 rfl) ?_
    refine va_get (D := D) (ci := 7) (v := .ref m34) (C := RX8) (T := TX8) (N := 44) hx hb hts hin_X8 hown hK hP 0 rfl rfl 34 (by decide) (w_RX8_65) (fun _ h9 => h9) rfl dX8_given_13 ?_
    refine lv_iload_n hx hb dX8_given_16 rfl (lv_at hl 1 rfl) ?_
    refine va_zald hx hb hK hP 1 1 rfl rfl (gv_in (bI_1 c_9) hm ht5) dX8_given_17 ?_
    refine lv_if_eq (tgt := 49) hx hb dX8_given_18 (by decide) (fun c_18 => ?_) (fun c_18 => ?_)
    · skip
      refine lv_iconst (v := (-1)) hx hb dX8_given_49 (by decide) ?_
      exact W.iret (v := (-1)) hx hb hr (fun t ht hW => ⟨congrArg (fun z => Outcome.returned (some (Value.int z))) (rfl), ht⟩) (fun _ h => by cases h) dX8_given_50
    · exact absurd (hg _) c_18

set_option maxHeartbeats 4000000 in
set_option maxRecDepth 100000 in
theorem c_X8_entry_no (l : Launch) (D : va_G) (cA : Nat → ClassId) (h0 : Nat) (m0 : Int32) (m1 : Int32) (m2 : Int32) (m3 : Int32) (m4 : Int32) (m5 : Nat) (m6 : Int32) (m7 : Int32) (m8 : Int32) (m9 : Nat) (m10 : Nat) (m11 : Nat) (m12 : Int32) (m13 : Nat) (m14 : Nat) (m15 : Nat) (m16 : Nat) (m17 : Int32) (m18 : Nat) (m19 : Nat) (m20 : Nat) (m21 : Nat) (m22 : Nat) (m23 : Nat) (m24 : Nat) (m25 : Nat) (m26 : Int32) (m27 : Int32) (m28 : Int32) (m29 : Int32) (m30 : Int32) (m31 : Int32) (m32 : Nat) (m33 : Nat) (m34 : Nat) (m35 : Nat) (m36 : Int32) (m37 : Nat) (m38 : Int32) (m39 : Nat) (m40 : Nat) (m41 : Nat) (m42 : Nat) (m43 : Nat) (i : Int32) (w : Int32) (hi : ¬ (0 ≤ i ∧ i ≤ m38 - 1)) : Met l yX8_entry wsX8_entry ({ frames := 1, cells := 0, slots := 0, locals := 22 }) (rPc vwCl D cA [(h0, .inr (7, [.int m0, .int m1, .int m2, .int m3, .int m4, .ref m5, .int m6, .int m7, .int m8, .ref m9, .ref m10, .ref m11, .int m12, .ref m13, .ref m14, .ref m15, .ref m16, .int m17, .ref m18, .ref m19, .ref m20, .ref m21, .ref m22, .ref m23, .ref m24, .ref m25, .int m26, .int m27, .int m28, .int m29, .int m30, .int m31, .ref m32, .ref m33, .ref m34, .ref m35, .int m36, .ref m37, .int m38, .ref m39, .ref m40, .ref m41, .ref m42, .ref m43]))] [.ref h0, .int i, .int w]) (rq_x (some (.long 0))) 0 0 (fun _ => False) := by
  refine Met.ofW (cc := cX8_entry) (maxL := 3) (ret := (some .long)) (by decide) rfl ?_
  intro p e s m args below meth c s₁ B hml hv
  obtain ⟨rfl, hP, hK⟩ := hv
  have hx := B.exec
  have hb := B.bytes
  have hr := B.returns
  have hts := atoms_spec (ws := wsX8_entry) B.pre
  have hown : s.vm.findClass RX8 = some m.cls := findClass_of_methodNamed B.named
  have hlocks := B.notSynchronized
  have hin_X8 : ∀ w ∈ wsX80, w ∈ wsX8_entry := fun w h => List.mem_cons_of_mem _ (List.mem_append_right _ h)
  have w_RX8_135 := hts (.fieldLink RX8 135 "MixElectionModel" "entries" "I") (by decide +kernel)
  have hl := lv_entry ([.ref h0, .int i, .int w]) (n := 3) (Nat.le_of_ble_eq_true rfl)
  rw [lg_entry_eq]
  generalize (lg_sl ([.ref h0, .int i, .int w]) ++ List.replicate (3 - (lg_sl ([.ref h0, .int i, .int w])).length) Slot.unset).toArray = ls at hl ⊢
  have hl : lv_has ls 3 [(0, .ref h0), (1, .int i), (2, .int w)] := hl
  refine lv_iload_n hx hb dX8_entry_0 rfl (lv_at hl 1 rfl) ?_
  refine lv_iconst (v := 0) hx hb dX8_entry_1 (by decide) ?_
  refine lv_aload_n hx hb dX8_entry_2 rfl (lv_at hl 0 rfl) ?_
  refine va_get (D := D) (ci := 7) (v := .int m38) (C := RX8) (T := TX8) (N := 44) hx hb hts hin_X8 hown hK hP 0 rfl rfl 38 (by decide) (w_RX8_135) (fun _ h9 => h9) rfl dX8_entry_3 ?_
  refine lv_iconst (v := 1) hx hb dX8_entry_6 (by decide) ?_
  refine lv_isub hx hb dX8_entry_7 ?_
  refine rq_call1 (v := .int (bI (0 ≤ i ∧ i ≤ (m38 - 1)))) (rn_S (As := [.int i, .int 0, .int (m38 - 1)]) (rest := []) ⟨hx, hb, hml, hown, hts⟩ (c_X8_in l D cA i 0 (m38 - 1)) (va_cwS 3 hts gX8_entry_X8_in rfl rfl rfl (by decide +kernel) ⟨Nat.le_of_ble_eq_true rfl, Nat.le_of_ble_eq_true rfl⟩) hK hP [] rfl rfl hl.1 rfl (Nat.le_of_ble_eq_true rfl) dX8_entry_8 ⟨Nat.le_of_ble_eq_true rfl, Nat.le_of_ble_eq_true rfl⟩) ?_
  refine lv_if_ne (tgt := 16) hx hb dX8_entry_11 (by decide) (fun c_11 => ?_) (fun c_11 => ?_)
  · exact absurd (bI_f hi).symm c_11
  · skip
    refine lv_lconst (v := 0) hx hb dX8_entry_14 (by decide) ?_
    exact W.lret (v := 0) hx hb hr (fun t ht hW => ⟨congrArg (fun z => Outcome.returned (some (Value.long z))) (rfl), ht⟩) (fun _ h => by cases h) dX8_entry_15

set_option maxHeartbeats 4000000 in
set_option maxRecDepth 100000 in
theorem c_X8_chain (l : Launch) (D : va_G) (cA : Nat → ClassId) (h0 : Nat) (m0 : Int32) (m1 : Int32) (m2 : Int32) (m3 : Int32) (m4 : Int32) (m5 : Nat) (m6 : Int32) (m7 : Int32) (m8 : Int32) (m9 : Nat) (m10 : Nat) (m11 : Nat) (m12 : Int32) (m13 : Nat) (m14 : Nat) (m15 : Nat) (m16 : Nat) (m17 : Int32) (m18 : Nat) (m19 : Nat) (m20 : Nat) (m21 : Nat) (m22 : Nat) (m23 : Nat) (m24 : Nat) (m25 : Nat) (m26 : Int32) (m27 : Int32) (m28 : Int32) (m29 : Int32) (m30 : Int32) (m31 : Int32) (m32 : Nat) (m33 : Nat) (m34 : Nat) (m35 : Nat) (m36 : Int32) (m37 : Nat) (m38 : Int32) (m39 : Nat) (m40 : Nat) (m41 : Nat) (m42 : Nat) (m43 : Nat) (i : Int32) (cf : Nat → Int64) (n0 : Nat) (hn : m38 = nI n0) (h6 : n0 ≤ 600) : Met l yX8_chain wsX8_chain ({ frames := 1, cells := 0, slots := 0, locals := 22 }) (rPc vwCl D cA [(h0, .inr (7, [.int m0, .int m1, .int m2, .int m3, .int m4, .ref m5, .int m6, .int m7, .int m8, .ref m9, .ref m10, .ref m11, .int m12, .ref m13, .ref m14, .ref m15, .ref m16, .int m17, .ref m18, .ref m19, .ref m20, .ref m21, .ref m22, .ref m23, .ref m24, .ref m25, .int m26, .int m27, .int m28, .int m29, .int m30, .int m31, .ref m32, .ref m33, .ref m34, .ref m35, .int m36, .ref m37, .int m38, .ref m39, .ref m40, .ref m41, .ref m42, .ref m43])), (m43, .inl (cA 2, 600, .inr (.inl cf)))] [.ref h0, .int i]) (rq_x (some (.long (che cf m38 i)))) 0 0 (fun _ => False) := by
  refine Met.ofW (cc := cX8_chain) (maxL := 2) (ret := (some .long)) (by decide) rfl ?_
  intro p e s m args below meth c s₁ B hml hv
  obtain ⟨rfl, hP, hK⟩ := hv
  have hx := B.exec
  have hb := B.bytes
  have hr := B.returns
  have hts := atoms_spec (ws := wsX8_chain) B.pre
  have hown : s.vm.findClass RX8 = some m.cls := findClass_of_methodNamed B.named
  have hlocks := B.notSynchronized
  have hin_X8 : ∀ w ∈ wsX80, w ∈ wsX8_chain := fun w h => List.mem_cons_of_mem _ (List.mem_append_right _ h)
  have w_RX8_135 := hts (.fieldLink RX8 135 "MixElectionModel" "entries" "I") (by decide +kernel)
  have w_RX8_87 := hts (.fieldLink RX8 87 "MixElectionModel" "chain" "[J") (by decide +kernel)
  have hl := lv_entry ([.ref h0, .int i]) (n := 2) (Nat.le_of_ble_eq_true rfl)
  rw [lg_entry_eq]
  generalize (lg_sl ([.ref h0, .int i]) ++ List.replicate (2 - (lg_sl ([.ref h0, .int i])).length) Slot.unset).toArray = ls at hl ⊢
  have hl : lv_has ls 2 [(0, .ref h0), (1, .int i)] := hl
  refine lv_iload_n hx hb dX8_chain_0 rfl (lv_at hl 1 rfl) ?_
  refine lv_iconst (v := (-1)) hx hb dX8_chain_1 (by decide) ?_
  refine lv_icmp_ne (tgt := 9) hx hb dX8_chain_2 (by decide) (fun c_2 => ?_) (fun c_2 => ?_)
  · skip
    refine lv_iload_n hx hb dX8_chain_9 rfl (lv_at hl 1 rfl) ?_
    refine lv_iconst (v := 0) hx hb dX8_chain_10 (by decide) ?_
    refine lv_aload_n hx hb dX8_chain_11 rfl (lv_at hl 0 rfl) ?_
    refine va_get (D := D) (ci := 7) (v := .int m38) (C := RX8) (T := TX8) (N := 44) hx hb hts hin_X8 hown hK hP 0 rfl rfl 38 (by decide) (w_RX8_135) (fun _ h9 => h9) rfl dX8_chain_12 ?_
    refine lv_iconst (v := 1) hx hb dX8_chain_15 (by decide) ?_
    refine lv_isub hx hb dX8_chain_16 ?_
    refine rq_call1 (v := .int (bI (0 ≤ i ∧ i ≤ (m38 - 1)))) (rn_S (As := [.int i, .int 0, .int (m38 - 1)]) (rest := []) ⟨hx, hb, hml, hown, hts⟩ (c_X8_in l D cA i 0 (m38 - 1)) (va_cwS 3 hts gX8_chain_X8_in rfl rfl rfl (by decide +kernel) ⟨Nat.le_of_ble_eq_true rfl, Nat.le_of_ble_eq_true rfl⟩) hK hP [] rfl rfl hl.1 rfl (Nat.le_of_ble_eq_true rfl) dX8_chain_17 ⟨Nat.le_of_ble_eq_true rfl, Nat.le_of_ble_eq_true rfl⟩) ?_
    refine lv_if_eq (tgt := 32) hx hb dX8_chain_20 (by decide) (fun c_20 => ?_) (fun c_20 => ?_)
    · skip
      refine lv_lconst (v := 0) hx hb dX8_chain_32 (by decide) ?_
      exact W.lret (v := 0) hx hb hr (fun t ht hW => ⟨congrArg (fun z => Outcome.returned (some (Value.long z))) ((by rw [che, if_neg c_2, if_neg (bI_0 c_20)])), ht⟩) (fun _ h => by cases h) dX8_chain_33
    · skip
      refine lv_aload_n hx hb dX8_chain_23 rfl (lv_at hl 0 rfl) ?_
      refine va_get (D := D) (ci := 7) (v := .ref m43) (C := RX8) (T := TX8) (N := 44) hx hb hts hin_X8 hown hK hP 0 rfl rfl 43 (by decide) (w_RX8_87) (fun _ h9 => h9) rfl dX8_chain_24 ?_
      refine lv_iload_n hx hb dX8_chain_27 rfl (lv_at hl 1 rfl) ?_
      refine va_lald hx hb hK hP 1 2 rfl rfl (ch_in (bI_1 c_20) hn h6) dX8_chain_28 ?_
      refine lv_goto (tgt := 33) hx hb dX8_chain_29 (by decide) ?_
      exact W.lret (v := (cf i.toNatClampNeg)) hx hb hr (fun t ht hW => ⟨congrArg (fun z => Outcome.returned (some (Value.long z))) ((by rw [che, if_neg c_2, if_pos (bI_1 c_20)])), ht⟩) (fun _ h => by cases h) dX8_chain_33
  · skip
    refine lv_ldc2 (v := (-3750763034362895579)) hx hb hown (hts (.constantLong RX8 138 (-3750763034362895579)) (by decide +kernel)) dX8_chain_5 ?_
    exact W.lret (v := (-3750763034362895579)) hx hb hr (fun t ht hW => ⟨congrArg (fun z => Outcome.returned (some (Value.long z))) ((by rw [che, if_pos c_2])), ht⟩) (fun _ h => by cases h) dX8_chain_8

set_option maxHeartbeats 4000000 in
set_option maxRecDepth 100000 in
theorem c_X8_about_su (l : Launch) (D : va_G) (cA : Nat → ClassId) (h0 : Nat) (m0 : Int32) (m1 : Int32) (m2 : Int32) (m3 : Int32) (m4 : Int32) (m5 : Nat) (m6 : Int32) (m7 : Int32) (m8 : Int32) (m9 : Nat) (m10 : Nat) (m11 : Nat) (m12 : Int32) (m13 : Nat) (m14 : Nat) (m15 : Nat) (m16 : Nat) (m17 : Int32) (m18 : Nat) (m19 : Nat) (m20 : Nat) (m21 : Nat) (m22 : Nat) (m23 : Nat) (m24 : Nat) (m25 : Nat) (m26 : Int32) (m27 : Int32) (m28 : Int32) (m29 : Int32) (m30 : Int32) (m31 : Int32) (m32 : Nat) (m33 : Nat) (m34 : Nat) (m35 : Nat) (m36 : Int32) (m37 : Nat) (m38 : Int32) (m39 : Nat) (m40 : Nat) (m41 : Nat) (m42 : Nat) (m43 : Nat) (wh : Int32) (hst : m6 = 0) (hd : m28 = 0) : Met l yX8_about wsX8_about ({ frames := 0, cells := 0, slots := 0, locals := 0 }) (rPc vwCl D cA [(h0, .inr (7, [.int m0, .int m1, .int m2, .int m3, .int m4, .ref m5, .int m6, .int m7, .int m8, .ref m9, .ref m10, .ref m11, .int m12, .ref m13, .ref m14, .ref m15, .ref m16, .int m17, .ref m18, .ref m19, .ref m20, .ref m21, .ref m22, .ref m23, .ref m24, .ref m25, .int m26, .int m27, .int m28, .int m29, .int m30, .int m31, .ref m32, .ref m33, .ref m34, .ref m35, .int m36, .ref m37, .int m38, .ref m39, .ref m40, .ref m41, .ref m42, .ref m43]))] [.ref h0, .int wh]) (rq_x (some (.int (abv wh [m0, m1, m7, m2, m3, m4, m8, m6, m38, -1, m26, m27, m29, m36, 0, -1])))) 0 0 (fun _ => False) := by
  refine Met.ofW (cc := cX8_about) (maxL := 2) (ret := (some .int)) (by decide) rfl ?_
  intro p e s m args below meth c s₁ B hml hv
  obtain ⟨rfl, hP, hK⟩ := hv
  have hx := B.exec
  have hb := B.bytes
  have hr := B.returns
  have hts := atoms_spec (ws := wsX8_about) B.pre
  have hown : s.vm.findClass RX8 = some m.cls := findClass_of_methodNamed B.named
  have hlocks := B.notSynchronized
  have hin_X8 : ∀ w ∈ wsX80, w ∈ wsX8_about := fun w h => List.mem_cons_of_mem _ (List.mem_append_right _ h)
  have w_RX8_99 := hts (.fieldLink RX8 99 "MixElectionModel" "p" "I") (by decide +kernel)
  have w_RX8_103 := hts (.fieldLink RX8 103 "MixElectionModel" "q" "I") (by decide +kernel)
  have w_RX8_146 := hts (.fieldLink RX8 146 "MixElectionModel" "h" "I") (by decide +kernel)
  have w_RX8_106 := hts (.fieldLink RX8 106 "MixElectionModel" "candidates" "I") (by decide +kernel)
  have w_RX8_109 := hts (.fieldLink RX8 109 "MixElectionModel" "trustees" "I") (by decide +kernel)
  have w_RX8_112 := hts (.fieldLink RX8 112 "MixElectionModel" "threshold" "I") (by decide +kernel)
  have w_RX8_153 := hts (.fieldLink RX8 153 "MixElectionModel" "voters" "I") (by decide +kernel)
  have w_RX8_140 := hts (.fieldLink RX8 140 "MixElectionModel" "stage" "I") (by decide +kernel)
  have w_RX8_135 := hts (.fieldLink RX8 135 "MixElectionModel" "entries" "I") (by decide +kernel)
  have w_RX8_191 := hts (.fieldLink RX8 191 "MixElectionModel" "mixes" "I") (by decide +kernel)
  have w_RX8_203 := hts (.fieldLink RX8 203 "MixElectionModel" "rounds" "I") (by decide +kernel)
  have w_RX8_212 := hts (.fieldLink RX8 212 "MixElectionModel" "rejected" "I") (by decide +kernel)
  have w_RX8_185 := hts (.fieldLink RX8 185 "MixElectionModel" "shares" "I") (by decide +kernel)
  have w_RX8_181 := hts (.fieldLink RX8 181 "MixElectionModel" "isDue" "Z") (by decide +kernel)
  have hl := lv_entry ([.ref h0, .int wh]) (n := 2) (Nat.le_of_ble_eq_true rfl)
  rw [lg_entry_eq]
  generalize (lg_sl ([.ref h0, .int wh]) ++ List.replicate (2 - (lg_sl ([.ref h0, .int wh])).length) Slot.unset).toArray = ls at hl ⊢
  have hl : lv_has ls 2 [(0, .ref h0), (1, .int wh)] := hl
  refine lv_iload_n hx hb dX8_about_0 rfl (lv_at hl 1 rfl) ?_
  rcases sw_16 wh with rfl | rfl | rfl | rfl | rfl | rfl | rfl | rfl | rfl | rfl | rfl | rfl | rfl | rfl | rfl | rfl | hsw
  · refine lv_tableIn (off := 79) (tgt := 80) hx hb dX8_about_1 (by decide) (by decide) (by decide) (by decide) ?_
    refine lv_aload_n hx hb dX8_about_80 rfl (lv_at hl 0 rfl) ?_
    refine va_get (D := D) (ci := 7) (v := .int m0) (C := RX8) (T := TX8) (N := 44) hx hb hts hin_X8 hown hK hP 0 rfl rfl 0 (by decide) (w_RX8_99) (fun _ h9 => h9) rfl dX8_about_81 ?_
    exact W.iret (v := m0) hx hb hr (fun t ht hW => ⟨congrArg (fun z => Outcome.returned (some (Value.int z))) (rfl), ht⟩) (fun _ h => by cases h) dX8_about_84
  · refine lv_tableIn (off := 84) (tgt := 85) hx hb dX8_about_1 (by decide) (by decide) (by decide) (by decide) ?_
    refine lv_aload_n hx hb dX8_about_85 rfl (lv_at hl 0 rfl) ?_
    refine va_get (D := D) (ci := 7) (v := .int m1) (C := RX8) (T := TX8) (N := 44) hx hb hts hin_X8 hown hK hP 0 rfl rfl 1 (by decide) (w_RX8_103) (fun _ h9 => h9) rfl dX8_about_86 ?_
    exact W.iret (v := m1) hx hb hr (fun t ht hW => ⟨congrArg (fun z => Outcome.returned (some (Value.int z))) (rfl), ht⟩) (fun _ h => by cases h) dX8_about_89
  · refine lv_tableIn (off := 89) (tgt := 90) hx hb dX8_about_1 (by decide) (by decide) (by decide) (by decide) ?_
    refine lv_aload_n hx hb dX8_about_90 rfl (lv_at hl 0 rfl) ?_
    refine va_get (D := D) (ci := 7) (v := .int m7) (C := RX8) (T := TX8) (N := 44) hx hb hts hin_X8 hown hK hP 0 rfl rfl 7 (by decide) (w_RX8_146) (fun _ h9 => h9) rfl dX8_about_91 ?_
    exact W.iret (v := m7) hx hb hr (fun t ht hW => ⟨congrArg (fun z => Outcome.returned (some (Value.int z))) (rfl), ht⟩) (fun _ h => by cases h) dX8_about_94
  · refine lv_tableIn (off := 94) (tgt := 95) hx hb dX8_about_1 (by decide) (by decide) (by decide) (by decide) ?_
    refine lv_aload_n hx hb dX8_about_95 rfl (lv_at hl 0 rfl) ?_
    refine va_get (D := D) (ci := 7) (v := .int m2) (C := RX8) (T := TX8) (N := 44) hx hb hts hin_X8 hown hK hP 0 rfl rfl 2 (by decide) (w_RX8_106) (fun _ h9 => h9) rfl dX8_about_96 ?_
    exact W.iret (v := m2) hx hb hr (fun t ht hW => ⟨congrArg (fun z => Outcome.returned (some (Value.int z))) (rfl), ht⟩) (fun _ h => by cases h) dX8_about_99
  · refine lv_tableIn (off := 99) (tgt := 100) hx hb dX8_about_1 (by decide) (by decide) (by decide) (by decide) ?_
    refine lv_aload_n hx hb dX8_about_100 rfl (lv_at hl 0 rfl) ?_
    refine va_get (D := D) (ci := 7) (v := .int m3) (C := RX8) (T := TX8) (N := 44) hx hb hts hin_X8 hown hK hP 0 rfl rfl 3 (by decide) (w_RX8_109) (fun _ h9 => h9) rfl dX8_about_101 ?_
    exact W.iret (v := m3) hx hb hr (fun t ht hW => ⟨congrArg (fun z => Outcome.returned (some (Value.int z))) (rfl), ht⟩) (fun _ h => by cases h) dX8_about_104
  · refine lv_tableIn (off := 104) (tgt := 105) hx hb dX8_about_1 (by decide) (by decide) (by decide) (by decide) ?_
    refine lv_aload_n hx hb dX8_about_105 rfl (lv_at hl 0 rfl) ?_
    refine va_get (D := D) (ci := 7) (v := .int m4) (C := RX8) (T := TX8) (N := 44) hx hb hts hin_X8 hown hK hP 0 rfl rfl 4 (by decide) (w_RX8_112) (fun _ h9 => h9) rfl dX8_about_106 ?_
    exact W.iret (v := m4) hx hb hr (fun t ht hW => ⟨congrArg (fun z => Outcome.returned (some (Value.int z))) (rfl), ht⟩) (fun _ h => by cases h) dX8_about_109
  · refine lv_tableIn (off := 109) (tgt := 110) hx hb dX8_about_1 (by decide) (by decide) (by decide) (by decide) ?_
    refine lv_aload_n hx hb dX8_about_110 rfl (lv_at hl 0 rfl) ?_
    refine va_get (D := D) (ci := 7) (v := .int m8) (C := RX8) (T := TX8) (N := 44) hx hb hts hin_X8 hown hK hP 0 rfl rfl 8 (by decide) (w_RX8_153) (fun _ h9 => h9) rfl dX8_about_111 ?_
    exact W.iret (v := m8) hx hb hr (fun t ht hW => ⟨congrArg (fun z => Outcome.returned (some (Value.int z))) (rfl), ht⟩) (fun _ h => by cases h) dX8_about_114
  · refine lv_tableIn (off := 114) (tgt := 115) hx hb dX8_about_1 (by decide) (by decide) (by decide) (by decide) ?_
    refine lv_aload_n hx hb dX8_about_115 rfl (lv_at hl 0 rfl) ?_
    refine va_get (D := D) (ci := 7) (v := .int m6) (C := RX8) (T := TX8) (N := 44) hx hb hts hin_X8 hown hK hP 0 rfl rfl 6 (by decide) (w_RX8_140) (fun _ h9 => h9) rfl dX8_about_116 ?_
    exact W.iret (v := m6) hx hb hr (fun t ht hW => ⟨congrArg (fun z => Outcome.returned (some (Value.int z))) (rfl), ht⟩) (fun _ h => by cases h) dX8_about_119
  · refine lv_tableIn (off := 119) (tgt := 120) hx hb dX8_about_1 (by decide) (by decide) (by decide) (by decide) ?_
    refine lv_aload_n hx hb dX8_about_120 rfl (lv_at hl 0 rfl) ?_
    refine va_get (D := D) (ci := 7) (v := .int m38) (C := RX8) (T := TX8) (N := 44) hx hb hts hin_X8 hown hK hP 0 rfl rfl 38 (by decide) (w_RX8_135) (fun _ h9 => h9) rfl dX8_about_121 ?_
    exact W.iret (v := m38) hx hb hr (fun t ht hW => ⟨congrArg (fun z => Outcome.returned (some (Value.int z))) (rfl), ht⟩) (fun _ h => by cases h) dX8_about_124
  · refine lv_tableIn (off := 124) (tgt := 125) hx hb dX8_about_1 (by decide) (by decide) (by decide) (by decide) ?_
    refine lv_aload_n hx hb dX8_about_125 rfl (lv_at hl 0 rfl) ?_
    refine va_get (D := D) (ci := 7) (v := .int m6) (C := RX8) (T := TX8) (N := 44) hx hb hts hin_X8 hown hK hP 0 rfl rfl 6 (by decide) (w_RX8_140) (fun _ h9 => h9) rfl dX8_about_126 ?_
    refine lv_iconst (v := 2) hx hb dX8_about_129 (by decide) ?_
    refine lv_icmp_ge (tgt := 137) hx hb dX8_about_130 (by decide) (fun c_130 => ?_) (fun c_130 => ?_)
    · exact absurd c_130 (by rw [hst]; decide)
    · skip
      refine lv_iconst (v := (-1)) hx hb dX8_about_133 (by decide) ?_
      refine lv_goto (tgt := 141) hx hb dX8_about_134 (by decide) ?_
      exact W.iret (v := (-1)) hx hb hr (fun t ht hW => ⟨congrArg (fun z => Outcome.returned (some (Value.int z))) (rfl), ht⟩) (fun _ h => by cases h) dX8_about_141
  · refine lv_tableIn (off := 141) (tgt := 142) hx hb dX8_about_1 (by decide) (by decide) (by decide) (by decide) ?_
    refine lv_aload_n hx hb dX8_about_142 rfl (lv_at hl 0 rfl) ?_
    refine va_get (D := D) (ci := 7) (v := .int m26) (C := RX8) (T := TX8) (N := 44) hx hb hts hin_X8 hown hK hP 0 rfl rfl 26 (by decide) (w_RX8_191) (fun _ h9 => h9) rfl dX8_about_143 ?_
    exact W.iret (v := m26) hx hb hr (fun t ht hW => ⟨congrArg (fun z => Outcome.returned (some (Value.int z))) (rfl), ht⟩) (fun _ h => by cases h) dX8_about_146
  · refine lv_tableIn (off := 146) (tgt := 147) hx hb dX8_about_1 (by decide) (by decide) (by decide) (by decide) ?_
    refine lv_aload_n hx hb dX8_about_147 rfl (lv_at hl 0 rfl) ?_
    refine va_get (D := D) (ci := 7) (v := .int m27) (C := RX8) (T := TX8) (N := 44) hx hb hts hin_X8 hown hK hP 0 rfl rfl 27 (by decide) (w_RX8_203) (fun _ h9 => h9) rfl dX8_about_148 ?_
    exact W.iret (v := m27) hx hb hr (fun t ht hW => ⟨congrArg (fun z => Outcome.returned (some (Value.int z))) (rfl), ht⟩) (fun _ h => by cases h) dX8_about_151
  · refine lv_tableIn (off := 151) (tgt := 152) hx hb dX8_about_1 (by decide) (by decide) (by decide) (by decide) ?_
    refine lv_aload_n hx hb dX8_about_152 rfl (lv_at hl 0 rfl) ?_
    refine va_get (D := D) (ci := 7) (v := .int m29) (C := RX8) (T := TX8) (N := 44) hx hb hts hin_X8 hown hK hP 0 rfl rfl 29 (by decide) (w_RX8_212) (fun _ h9 => h9) rfl dX8_about_153 ?_
    exact W.iret (v := m29) hx hb hr (fun t ht hW => ⟨congrArg (fun z => Outcome.returned (some (Value.int z))) (rfl), ht⟩) (fun _ h => by cases h) dX8_about_156
  · refine lv_tableIn (off := 156) (tgt := 157) hx hb dX8_about_1 (by decide) (by decide) (by decide) (by decide) ?_
    refine lv_aload_n hx hb dX8_about_157 rfl (lv_at hl 0 rfl) ?_
    refine va_get (D := D) (ci := 7) (v := .int m36) (C := RX8) (T := TX8) (N := 44) hx hb hts hin_X8 hown hK hP 0 rfl rfl 36 (by decide) (w_RX8_185) (fun _ h9 => h9) rfl dX8_about_158 ?_
    exact W.iret (v := m36) hx hb hr (fun t ht hW => ⟨congrArg (fun z => Outcome.returned (some (Value.int z))) (rfl), ht⟩) (fun _ h => by cases h) dX8_about_161
  · refine lv_tableIn (off := 161) (tgt := 162) hx hb dX8_about_1 (by decide) (by decide) (by decide) (by decide) ?_
    refine lv_aload_n hx hb dX8_about_162 rfl (lv_at hl 0 rfl) ?_
    refine va_get (D := D) (ci := 7) (v := .int m28) (C := RX8) (T := TX8) (N := 44) hx hb hts hin_X8 hown hK hP 0 rfl rfl 28 (by decide) (w_RX8_181) (fun _ h9 => h9) rfl dX8_about_163 ?_
    refine lv_if_eq (tgt := 173) hx hb dX8_about_166 (by decide) (fun c_166 => ?_) (fun c_166 => ?_)
    · skip
      refine lv_iconst (v := 0) hx hb dX8_about_173 (by decide) ?_
      exact W.iret (v := 0) hx hb hr (fun t ht hW => ⟨congrArg (fun z => Outcome.returned (some (Value.int z))) (rfl), ht⟩) (fun _ h => by cases h) dX8_about_174
    · exact absurd hd c_166
  · refine lv_tableIn (off := 174) (tgt := 175) hx hb dX8_about_1 (by decide) (by decide) (by decide) (by decide) ?_
    refine lv_aload_n hx hb dX8_about_175 rfl (lv_at hl 0 rfl) ?_
    refine va_get (D := D) (ci := 7) (v := .int m6) (C := RX8) (T := TX8) (N := 44) hx hb hts hin_X8 hown hK hP 0 rfl rfl 6 (by decide) (w_RX8_140) (fun _ h9 => h9) rfl dX8_about_176 ?_
    refine lv_iconst (v := 2) hx hb dX8_about_179 (by decide) ?_
    refine lv_icmp_eq (tgt := 187) hx hb dX8_about_180 (by decide) (fun c_180 => ?_) (fun c_180 => ?_)
    · exact absurd c_180 (by rw [hst]; decide)
    · skip
      refine lv_iconst (v := (-1)) hx hb dX8_about_183 (by decide) ?_
      refine lv_goto (tgt := 199) hx hb dX8_about_184 (by decide) ?_
      exact W.iret (v := (-1)) hx hb hr (fun t ht hW => ⟨congrArg (fun z => Outcome.returned (some (Value.int z))) (rfl), ht⟩) (fun _ h => by cases h) dX8_about_199
  · refine lv_tableOut (tgt := 200) hx hb dX8_about_1 hsw (by decide) ?_
    refine lv_iconst (v := (-1)) hx hb dX8_about_200 (by decide) ?_
    exact W.iret (v := (-1)) hx hb hr (fun t ht hW => ⟨congrArg (fun z => Outcome.returned (some (Value.int z))) (abv_out hsw rfl), ht⟩) (fun _ h => by cases h) dX8_about_201
