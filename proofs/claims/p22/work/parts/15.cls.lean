set_option maxRecDepth 20000 in
theorem ggX1_holdsPair_X1_holds : GoodIn wsX1_holdsPair wsX1_holds := goodIn_r _ [5, 6, 7, 8, 9, 10, 4, 11, 12, 13, 14, 15, 16, 17, 18, 19, 20, 21] (by decide +kernel) (by decide +kernel)
set_option maxRecDepth 20000 in
theorem gX1_holdsPair_X1_holds : GoodIn wsX1_holdsPair (wsV RX1 25 RX1 yX1_holds wsX1_holds) := goodIn_app (goodIn_of _ (by decide +kernel)) ggX1_holdsPair_X1_holds
theorem dX1_holdsPair_0 : decode cX1_holdsPair 0 = .ok (.aload_n 0, 1) := by decide +kernel
theorem dX1_holdsPair_1 : decode cX1_holdsPair 1 = .ok (.iload_n 1, 1) := by decide +kernel
theorem dX1_holdsPair_2 : decode cX1_holdsPair 2 = .ok (.invokevirtual 25, 3) := by decide +kernel
theorem dX1_holdsPair_5 : decode cX1_holdsPair 5 = .ok (.ifCond .eq 15, 3) := by decide +kernel
theorem dX1_holdsPair_8 : decode cX1_holdsPair 8 = .ok (.aload_n 0, 1) := by decide +kernel
theorem dX1_holdsPair_9 : decode cX1_holdsPair 9 = .ok (.iload_n 2, 1) := by decide +kernel
theorem dX1_holdsPair_10 : decode cX1_holdsPair 10 = .ok (.invokevirtual 25, 3) := by decide +kernel
theorem dX1_holdsPair_13 : decode cX1_holdsPair 13 = .ok (.ifCond .eq 7, 3) := by decide +kernel
theorem dX1_holdsPair_16 : decode cX1_holdsPair 16 = .ok (.iconst 1, 1) := by decide +kernel
theorem dX1_holdsPair_17 : decode cX1_holdsPair 17 = .ok (.goto 4, 3) := by decide +kernel
theorem dX1_holdsPair_20 : decode cX1_holdsPair 20 = .ok (.iconst 0, 1) := by decide +kernel
theorem dX1_holdsPair_21 : decode cX1_holdsPair 21 = .ok (.ireturn, 1) := by decide +kernel
set_option maxRecDepth 20000 in
theorem ggX1_holds_X1_raised : GoodIn wsX1_holds wsX1_raised := goodIn_r _ [7, 1, 8, 9, 10, 11, 12, 13, 14, 15, 16, 17] (by decide +kernel) (by decide +kernel)
set_option maxRecDepth 20000 in
theorem gX1_holds_X1_raised : GoodIn wsX1_holds (wsV RX1 21 RX1 yX1_raised wsX1_raised) := goodIn_app (goodIn_of _ (by decide +kernel)) ggX1_holds_X1_raised
theorem dX1_holds_0 : decode cX1_holds 0 = .ok (.iload_n 1, 1) := by decide +kernel
theorem dX1_holds_1 : decode cX1_holds 1 = .ok (.iconst 1, 1) := by decide +kernel
theorem dX1_holds_2 : decode cX1_holds 2 = .ok (.if_icmp .lt 28, 3) := by decide +kernel
theorem dX1_holds_5 : decode cX1_holds 5 = .ok (.iload_n 1, 1) := by decide +kernel
theorem dX1_holds_6 : decode cX1_holds 6 = .ok (.aload_n 0, 1) := by decide +kernel
theorem dX1_holds_7 : decode cX1_holds 7 = .ok (.getfield 9, 3) := by decide +kernel
theorem dX1_holds_10 : decode cX1_holds 10 = .ok (.if_icmp .ge 20, 3) := by decide +kernel
theorem dX1_holds_13 : decode cX1_holds 13 = .ok (.aload_n 0, 1) := by decide +kernel
theorem dX1_holds_14 : decode cX1_holds 14 = .ok (.iload_n 1, 1) := by decide +kernel
theorem dX1_holds_15 : decode cX1_holds 15 = .ok (.aload_n 0, 1) := by decide +kernel
theorem dX1_holds_16 : decode cX1_holds 16 = .ok (.getfield 15, 3) := by decide +kernel
theorem dX1_holds_19 : decode cX1_holds 19 = .ok (.invokevirtual 21, 3) := by decide +kernel
theorem dX1_holds_22 : decode cX1_holds 22 = .ok (.iconst 1, 1) := by decide +kernel
theorem dX1_holds_23 : decode cX1_holds 23 = .ok (.if_icmp .ne 7, 3) := by decide +kernel
theorem dX1_holds_26 : decode cX1_holds 26 = .ok (.iconst 1, 1) := by decide +kernel
theorem dX1_holds_27 : decode cX1_holds 27 = .ok (.goto 4, 3) := by decide +kernel
theorem dX1_holds_30 : decode cX1_holds 30 = .ok (.iconst 0, 1) := by decide +kernel
theorem dX1_holds_31 : decode cX1_holds 31 = .ok (.ireturn, 1) := by decide +kernel
set_option maxRecDepth 20000 in
theorem ggX1_multiplied_X3_times : GoodIn wsX1_multiplied wsX3_times := goodIn_r _ [5] (by decide +kernel) (by decide +kernel)
set_option maxRecDepth 20000 in
theorem gX1_multiplied_X3_times : GoodIn wsX1_multiplied (va_wsS RX1 35 yX3_times wsX3_times) := goodIn_app (goodIn_of _ (by decide +kernel)) ggX1_multiplied_X3_times
theorem dX1_multiplied_0 : decode cX1_multiplied 0 = .ok (.iload_n 1, 1) := by decide +kernel
theorem dX1_multiplied_1 : decode cX1_multiplied 1 = .ok (.iload_n 2, 1) := by decide +kernel
theorem dX1_multiplied_2 : decode cX1_multiplied 2 = .ok (.aload_n 0, 1) := by decide +kernel
theorem dX1_multiplied_3 : decode cX1_multiplied 3 = .ok (.getfield 9, 3) := by decide +kernel
theorem dX1_multiplied_6 : decode cX1_multiplied 6 = .ok (.invokestatic 35, 3) := by decide +kernel
theorem dX1_multiplied_9 : decode cX1_multiplied 9 = .ok (.ireturn, 1) := by decide +kernel
set_option maxRecDepth 20000 in
theorem ggX1_divided_X3_inverse : GoodIn wsX1_divided wsX3_inverse := goodIn_r _ [5, 6, 7, 4, 8, 9, 10, 11] (by decide +kernel) (by decide +kernel)
set_option maxRecDepth 20000 in
theorem gX1_divided_X3_inverse : GoodIn wsX1_divided (va_wsS RX1 38 yX3_inverse wsX3_inverse) := goodIn_app (goodIn_of _ (by decide +kernel)) ggX1_divided_X3_inverse
set_option maxRecDepth 20000 in
theorem ggX1_divided_X1_multiplied : GoodIn wsX1_divided wsX1_multiplied := goodIn_r _ [16, 1, 17, 10, 4, 11, 18, 19, 20] (by decide +kernel) (by decide +kernel)
set_option maxRecDepth 20000 in
theorem gX1_divided_X1_multiplied : GoodIn wsX1_divided (wsV RX1 41 RX1 yX1_multiplied wsX1_multiplied) := goodIn_app (goodIn_of _ (by decide +kernel)) ggX1_divided_X1_multiplied
theorem dX1_divided_0 : decode cX1_divided 0 = .ok (.aload_n 0, 1) := by decide +kernel
theorem dX1_divided_1 : decode cX1_divided 1 = .ok (.iload_n 1, 1) := by decide +kernel
theorem dX1_divided_2 : decode cX1_divided 2 = .ok (.iload_n 2, 1) := by decide +kernel
theorem dX1_divided_3 : decode cX1_divided 3 = .ok (.aload_n 0, 1) := by decide +kernel
theorem dX1_divided_4 : decode cX1_divided 4 = .ok (.getfield 9, 3) := by decide +kernel
theorem dX1_divided_7 : decode cX1_divided 7 = .ok (.invokestatic 38, 3) := by decide +kernel
theorem dX1_divided_10 : decode cX1_divided 10 = .ok (.invokevirtual 41, 3) := by decide +kernel
theorem dX1_divided_13 : decode cX1_divided 13 = .ok (.ireturn, 1) := by decide +kernel
set_option maxRecDepth 20000 in
theorem ggX1_markOf_X1_raised : GoodIn wsX1_markOf wsX1_raised := goodIn_r _ [5, 6, 7, 8, 9, 10, 11, 12, 13, 14, 15, 16] (by decide +kernel) (by decide +kernel)
set_option maxRecDepth 20000 in
theorem gX1_markOf_X1_raised : GoodIn wsX1_markOf (wsV RX1 21 RX1 yX1_raised wsX1_raised) := goodIn_app (goodIn_of _ (by decide +kernel)) ggX1_markOf_X1_raised
theorem dX1_markOf_0 : decode cX1_markOf 0 = .ok (.aload_n 0, 1) := by decide +kernel
theorem dX1_markOf_1 : decode cX1_markOf 1 = .ok (.iconst 4, 1) := by decide +kernel
theorem dX1_markOf_2 : decode cX1_markOf 2 = .ok (.iload_n 1, 1) := by decide +kernel
theorem dX1_markOf_3 : decode cX1_markOf 3 = .ok (.iconst 1, 1) := by decide +kernel
theorem dX1_markOf_4 : decode cX1_markOf 4 = .ok (.iadd, 1) := by decide +kernel
theorem dX1_markOf_5 : decode cX1_markOf 5 = .ok (.invokevirtual 21, 3) := by decide +kernel
theorem dX1_markOf_8 : decode cX1_markOf 8 = .ok (.ireturn, 1) := by decide +kernel
set_option maxRecDepth 20000 in
theorem ggX1_renewedFirst_X1_raised : GoodIn wsX1_renewedFirst wsX1_raised := goodIn_r _ [5, 6, 7, 8, 9, 10, 11, 12, 13, 19, 20, 21] (by decide +kernel) (by decide +kernel)
set_option maxRecDepth 20000 in
theorem gX1_renewedFirst_X1_raised : GoodIn wsX1_renewedFirst (wsV RX1 21 RX1 yX1_raised wsX1_raised) := goodIn_app (goodIn_of _ (by decide +kernel)) ggX1_renewedFirst_X1_raised
set_option maxRecDepth 20000 in
theorem ggX1_renewedFirst_X1_multiplied : GoodIn wsX1_renewedFirst wsX1_multiplied := goodIn_r _ [17, 6, 18, 12, 9, 13, 19, 20, 21] (by decide +kernel) (by decide +kernel)
set_option maxRecDepth 20000 in
theorem gX1_renewedFirst_X1_multiplied : GoodIn wsX1_renewedFirst (wsV RX1 41 RX1 yX1_multiplied wsX1_multiplied) := goodIn_app (goodIn_of _ (by decide +kernel)) ggX1_renewedFirst_X1_multiplied
theorem dX1_renewedFirst_0 : decode cX1_renewedFirst 0 = .ok (.aload_n 0, 1) := by decide +kernel
theorem dX1_renewedFirst_1 : decode cX1_renewedFirst 1 = .ok (.iload_n 1, 1) := by decide +kernel
theorem dX1_renewedFirst_2 : decode cX1_renewedFirst 2 = .ok (.aload_n 0, 1) := by decide +kernel
theorem dX1_renewedFirst_3 : decode cX1_renewedFirst 3 = .ok (.iconst 4, 1) := by decide +kernel
theorem dX1_renewedFirst_4 : decode cX1_renewedFirst 4 = .ok (.iload_n 2, 1) := by decide +kernel
theorem dX1_renewedFirst_5 : decode cX1_renewedFirst 5 = .ok (.invokevirtual 21, 3) := by decide +kernel
theorem dX1_renewedFirst_8 : decode cX1_renewedFirst 8 = .ok (.invokevirtual 41, 3) := by decide +kernel
theorem dX1_renewedFirst_11 : decode cX1_renewedFirst 11 = .ok (.ireturn, 1) := by decide +kernel
set_option maxRecDepth 20000 in
theorem ggX1_renewedSecond_X1_raised : GoodIn wsX1_renewedSecond wsX1_raised := goodIn_r _ [6, 7, 8, 9, 10, 11, 12, 13, 14, 20, 21, 22] (by decide +kernel) (by decide +kernel)
set_option maxRecDepth 20000 in
theorem gX1_renewedSecond_X1_raised : GoodIn wsX1_renewedSecond (wsV RX1 21 RX1 yX1_raised wsX1_raised) := goodIn_app (goodIn_of _ (by decide +kernel)) ggX1_renewedSecond_X1_raised
set_option maxRecDepth 20000 in
theorem ggX1_renewedSecond_X1_multiplied : GoodIn wsX1_renewedSecond wsX1_multiplied := goodIn_r _ [18, 7, 19, 13, 10, 14, 20, 21, 22] (by decide +kernel) (by decide +kernel)
set_option maxRecDepth 20000 in
theorem gX1_renewedSecond_X1_multiplied : GoodIn wsX1_renewedSecond (wsV RX1 41 RX1 yX1_multiplied wsX1_multiplied) := goodIn_app (goodIn_of _ (by decide +kernel)) ggX1_renewedSecond_X1_multiplied
theorem dX1_renewedSecond_0 : decode cX1_renewedSecond 0 = .ok (.aload_n 0, 1) := by decide +kernel
theorem dX1_renewedSecond_1 : decode cX1_renewedSecond 1 = .ok (.iload_n 1, 1) := by decide +kernel
theorem dX1_renewedSecond_2 : decode cX1_renewedSecond 2 = .ok (.aload_n 0, 1) := by decide +kernel
theorem dX1_renewedSecond_3 : decode cX1_renewedSecond 3 = .ok (.aload_n 0, 1) := by decide +kernel
theorem dX1_renewedSecond_4 : decode cX1_renewedSecond 4 = .ok (.getfield 18, 3) := by decide +kernel
theorem dX1_renewedSecond_7 : decode cX1_renewedSecond 7 = .ok (.iload_n 2, 1) := by decide +kernel
theorem dX1_renewedSecond_8 : decode cX1_renewedSecond 8 = .ok (.invokevirtual 21, 3) := by decide +kernel
theorem dX1_renewedSecond_11 : decode cX1_renewedSecond 11 = .ok (.invokevirtual 41, 3) := by decide +kernel
theorem dX1_renewedSecond_14 : decode cX1_renewedSecond 14 = .ok (.ireturn, 1) := by decide +kernel
theorem dX2_set_0 : decode cX2_set 0 = .ok (.iload_n 1, 1) := by decide +kernel
theorem dX2_set_1 : decode cX2_set 1 = .ok (.ifCond .lt 23, 3) := by decide +kernel
theorem dX2_set_4 : decode cX2_set 4 = .ok (.iload_n 1, 1) := by decide +kernel
theorem dX2_set_5 : decode cX2_set 5 = .ok (.bipush 40, 2) := by decide +kernel
theorem dX2_set_7 : decode cX2_set 7 = .ok (.if_icmp .ge 17, 3) := by decide +kernel
theorem dX2_set_10 : decode cX2_set 10 = .ok (.aload_n 0, 1) := by decide +kernel
theorem dX2_set_11 : decode cX2_set 11 = .ok (.getfield 9, 3) := by decide +kernel
theorem dX2_set_14 : decode cX2_set 14 = .ok (.iload_n 1, 1) := by decide +kernel
theorem dX2_set_15 : decode cX2_set 15 = .ok (.iload_n 2, 1) := by decide +kernel
theorem dX2_set_16 : decode cX2_set 16 = .ok (.iastore, 1) := by decide +kernel
theorem dX2_set_17 : decode cX2_set 17 = .ok (.aload_n 0, 1) := by decide +kernel
theorem dX2_set_18 : decode cX2_set 18 = .ok (.getfield 15, 3) := by decide +kernel
theorem dX2_set_21 : decode cX2_set 21 = .ok (.iload_n 1, 1) := by decide +kernel
theorem dX2_set_22 : decode cX2_set 22 = .ok (.iload_n 3, 1) := by decide +kernel
theorem dX2_set_23 : decode cX2_set 23 = .ok (.iastore, 1) := by decide +kernel
theorem dX2_set_24 : decode cX2_set 24 = .ok (.return_, 1) := by decide +kernel
theorem dX2_target_0 : decode cX2_target 0 = .ok (.iload_n 1, 1) := by decide +kernel
theorem dX2_target_1 : decode cX2_target 1 = .ok (.ifCond .lt 18, 3) := by decide +kernel
theorem dX2_target_4 : decode cX2_target 4 = .ok (.iload_n 1, 1) := by decide +kernel
theorem dX2_target_5 : decode cX2_target 5 = .ok (.bipush 40, 2) := by decide +kernel
theorem dX2_target_7 : decode cX2_target 7 = .ok (.if_icmp .ge 12, 3) := by decide +kernel
theorem dX2_target_10 : decode cX2_target 10 = .ok (.aload_n 0, 1) := by decide +kernel
theorem dX2_target_11 : decode cX2_target 11 = .ok (.getfield 9, 3) := by decide +kernel
theorem dX2_target_14 : decode cX2_target 14 = .ok (.iload_n 1, 1) := by decide +kernel
theorem dX2_target_15 : decode cX2_target 15 = .ok (.iaload, 1) := by decide +kernel
theorem dX2_target_16 : decode cX2_target 16 = .ok (.goto 4, 3) := by decide +kernel
theorem dX2_target_19 : decode cX2_target 19 = .ok (.iconst (-1), 1) := by decide +kernel
theorem dX2_target_20 : decode cX2_target 20 = .ok (.ireturn, 1) := by decide +kernel
theorem dX2_exponent_0 : decode cX2_exponent 0 = .ok (.iload_n 1, 1) := by decide +kernel
theorem dX2_exponent_1 : decode cX2_exponent 1 = .ok (.ifCond .lt 18, 3) := by decide +kernel
theorem dX2_exponent_4 : decode cX2_exponent 4 = .ok (.iload_n 1, 1) := by decide +kernel
theorem dX2_exponent_5 : decode cX2_exponent 5 = .ok (.bipush 40, 2) := by decide +kernel
theorem dX2_exponent_7 : decode cX2_exponent 7 = .ok (.if_icmp .ge 12, 3) := by decide +kernel
theorem dX2_exponent_10 : decode cX2_exponent 10 = .ok (.aload_n 0, 1) := by decide +kernel
theorem dX2_exponent_11 : decode cX2_exponent 11 = .ok (.getfield 15, 3) := by decide +kernel
theorem dX2_exponent_14 : decode cX2_exponent 14 = .ok (.iload_n 1, 1) := by decide +kernel
theorem dX2_exponent_15 : decode cX2_exponent 15 = .ok (.iaload, 1) := by decide +kernel
theorem dX2_exponent_16 : decode cX2_exponent 16 = .ok (.goto 4, 3) := by decide +kernel
theorem dX2_exponent_19 : decode cX2_exponent 19 = .ok (.iconst (-1), 1) := by decide +kernel
theorem dX2_exponent_20 : decode cX2_exponent 20 = .ok (.ireturn, 1) := by decide +kernel
set_option maxRecDepth 20000 in
theorem ggX2_copyFrom_X2_target : GoodIn wsX2_copyFrom wsX2_target := goodIn_r _ [5, 6, 16, 17] (by decide +kernel) (by decide +kernel)
set_option maxRecDepth 20000 in
theorem gX2_copyFrom_X2_target : GoodIn wsX2_copyFrom (wsV RX2 27 RX2 yX2_target wsX2_target) := goodIn_app (goodIn_of _ (by decide +kernel)) ggX2_copyFrom_X2_target
set_option maxRecDepth 20000 in
theorem ggX2_copyFrom_X2_exponent : GoodIn wsX2_copyFrom wsX2_exponent := goodIn_r _ [10, 11, 16, 17] (by decide +kernel) (by decide +kernel)
set_option maxRecDepth 20000 in
theorem gX2_copyFrom_X2_exponent : GoodIn wsX2_copyFrom (wsV RX2 31 RX2 yX2_exponent wsX2_exponent) := goodIn_app (goodIn_of _ (by decide +kernel)) ggX2_copyFrom_X2_exponent
set_option maxRecDepth 20000 in
theorem ggX2_copyFrom_X2_set : GoodIn wsX2_copyFrom wsX2_set := goodIn_r _ [15, 6, 11, 16, 17] (by decide +kernel) (by decide +kernel)
set_option maxRecDepth 20000 in
theorem gX2_copyFrom_X2_set : GoodIn wsX2_copyFrom (wsV RX2 34 RX2 yX2_set wsX2_set) := goodIn_app (goodIn_of _ (by decide +kernel)) ggX2_copyFrom_X2_set
theorem dX2_copyFrom_0 : decode cX2_copyFrom 0 = .ok (.iconst 0, 1) := by decide +kernel
theorem dX2_copyFrom_1 : decode cX2_copyFrom 1 = .ok (.istore_n 2, 1) := by decide +kernel
theorem dX2_copyFrom_2 : decode cX2_copyFrom 2 = .ok (.iload_n 2, 1) := by decide +kernel
theorem dX2_copyFrom_3 : decode cX2_copyFrom 3 = .ok (.bipush 40, 2) := by decide +kernel
theorem dX2_copyFrom_5 : decode cX2_copyFrom 5 = .ok (.if_icmp .ge 24, 3) := by decide +kernel
theorem dX2_copyFrom_8 : decode cX2_copyFrom 8 = .ok (.aload_n 0, 1) := by decide +kernel
theorem dX2_copyFrom_9 : decode cX2_copyFrom 9 = .ok (.iload_n 2, 1) := by decide +kernel
theorem dX2_copyFrom_10 : decode cX2_copyFrom 10 = .ok (.aload_n 1, 1) := by decide +kernel
theorem dX2_copyFrom_11 : decode cX2_copyFrom 11 = .ok (.iload_n 2, 1) := by decide +kernel
theorem dX2_copyFrom_12 : decode cX2_copyFrom 12 = .ok (.invokevirtual 27, 3) := by decide +kernel
theorem dX2_copyFrom_15 : decode cX2_copyFrom 15 = .ok (.aload_n 1, 1) := by decide +kernel
theorem dX2_copyFrom_16 : decode cX2_copyFrom 16 = .ok (.iload_n 2, 1) := by decide +kernel
theorem dX2_copyFrom_17 : decode cX2_copyFrom 17 = .ok (.invokevirtual 31, 3) := by decide +kernel
theorem dX2_copyFrom_20 : decode cX2_copyFrom 20 = .ok (.invokevirtual 34, 3) := by decide +kernel
theorem dX2_copyFrom_23 : decode cX2_copyFrom 23 = .ok (.iinc 2 1, 3) := by decide +kernel
theorem dX2_copyFrom_26 : decode cX2_copyFrom 26 = .ok (.goto (-24), 3) := by decide +kernel
theorem dX2_copyFrom_29 : decode cX2_copyFrom 29 = .ok (.return_, 1) := by decide +kernel
theorem dX3_plus_0 : decode cX3_plus 0 = .ok (.iload_n 2, 1) := by decide +kernel
theorem dX3_plus_1 : decode cX3_plus 1 = .ok (.ifCond .le 11, 3) := by decide +kernel
theorem dX3_plus_4 : decode cX3_plus 4 = .ok (.iload_n 0, 1) := by decide +kernel
theorem dX3_plus_5 : decode cX3_plus 5 = .ok (.iload_n 1, 1) := by decide +kernel
theorem dX3_plus_6 : decode cX3_plus 6 = .ok (.iadd, 1) := by decide +kernel
theorem dX3_plus_7 : decode cX3_plus 7 = .ok (.iload_n 2, 1) := by decide +kernel
theorem dX3_plus_8 : decode cX3_plus 8 = .ok (.irem, 1) := by decide +kernel
theorem dX3_plus_9 : decode cX3_plus 9 = .ok (.goto 4, 3) := by decide +kernel
theorem dX3_plus_13 : decode cX3_plus 13 = .ok (.ireturn, 1) := by decide +kernel
theorem dX3_minus_0 : decode cX3_minus 0 = .ok (.iload_n 0, 1) := by decide +kernel
theorem dX3_minus_1 : decode cX3_minus 1 = .ok (.iload_n 1, 1) := by decide +kernel
theorem dX3_minus_2 : decode cX3_minus 2 = .ok (.if_icmp .lt 9, 3) := by decide +kernel
theorem dX3_minus_5 : decode cX3_minus 5 = .ok (.iload_n 0, 1) := by decide +kernel
theorem dX3_minus_6 : decode cX3_minus 6 = .ok (.iload_n 1, 1) := by decide +kernel
theorem dX3_minus_7 : decode cX3_minus 7 = .ok (.isub, 1) := by decide +kernel
theorem dX3_minus_8 : decode cX3_minus 8 = .ok (.goto 8, 3) := by decide +kernel
theorem dX3_minus_11 : decode cX3_minus 11 = .ok (.iload_n 0, 1) := by decide +kernel
theorem dX3_minus_12 : decode cX3_minus 12 = .ok (.iload_n 1, 1) := by decide +kernel
theorem dX3_minus_13 : decode cX3_minus 13 = .ok (.isub, 1) := by decide +kernel
theorem dX3_minus_14 : decode cX3_minus 14 = .ok (.iload_n 2, 1) := by decide +kernel
theorem dX3_minus_15 : decode cX3_minus 15 = .ok (.iadd, 1) := by decide +kernel
theorem dX3_minus_16 : decode cX3_minus 16 = .ok (.ireturn, 1) := by decide +kernel
set_option maxRecDepth 20000 in
theorem ggX3_inverse_X3_power : GoodIn wsX3_inverse wsX3_power := goodIn_r _ [4, 5, 6, 3, 7] (by decide +kernel) (by decide +kernel)
set_option maxRecDepth 20000 in
theorem gX3_inverse_X3_power : GoodIn wsX3_inverse (va_wsS RX3 29 yX3_power wsX3_power) := goodIn_app (goodIn_of _ (by decide +kernel)) ggX3_inverse_X3_power
theorem dX3_inverse_0 : decode cX3_inverse 0 = .ok (.iload_n 0, 1) := by decide +kernel
theorem dX3_inverse_1 : decode cX3_inverse 1 = .ok (.iload_n 1, 1) := by decide +kernel
theorem dX3_inverse_2 : decode cX3_inverse 2 = .ok (.iconst 2, 1) := by decide +kernel
theorem dX3_inverse_3 : decode cX3_inverse 3 = .ok (.isub, 1) := by decide +kernel
theorem dX3_inverse_4 : decode cX3_inverse 4 = .ok (.iload_n 1, 1) := by decide +kernel
theorem dX3_inverse_5 : decode cX3_inverse 5 = .ok (.invokestatic 29, 3) := by decide +kernel
theorem dX3_inverse_8 : decode cX3_inverse 8 = .ok (.ireturn, 1) := by decide +kernel
theorem dX4_put_0 : decode cX4_put 0 = .ok (.iload_n 1, 1) := by decide +kernel
theorem dX4_put_1 : decode cX4_put 1 = .ok (.ifCond .lt 23, 3) := by decide +kernel
theorem dX4_put_4 : decode cX4_put 4 = .ok (.iload_n 1, 1) := by decide +kernel
theorem dX4_put_5 : decode cX4_put 5 = .ok (.bipush 40, 2) := by decide +kernel
theorem dX4_put_7 : decode cX4_put 7 = .ok (.if_icmp .ge 17, 3) := by decide +kernel
theorem dX4_put_10 : decode cX4_put 10 = .ok (.aload_n 0, 1) := by decide +kernel
theorem dX4_put_11 : decode cX4_put 11 = .ok (.getfield 9, 3) := by decide +kernel
theorem dX4_put_14 : decode cX4_put 14 = .ok (.iload_n 1, 1) := by decide +kernel
theorem dX4_put_15 : decode cX4_put 15 = .ok (.iload_n 2, 1) := by decide +kernel
theorem dX4_put_16 : decode cX4_put 16 = .ok (.iastore, 1) := by decide +kernel
theorem dX4_put_17 : decode cX4_put 17 = .ok (.aload_n 0, 1) := by decide +kernel
theorem dX4_put_18 : decode cX4_put 18 = .ok (.getfield 15, 3) := by decide +kernel
theorem dX4_put_21 : decode cX4_put 21 = .ok (.iload_n 1, 1) := by decide +kernel
theorem dX4_put_22 : decode cX4_put 22 = .ok (.iload_n 3, 1) := by decide +kernel
theorem dX4_put_23 : decode cX4_put 23 = .ok (.iastore, 1) := by decide +kernel
theorem dX4_put_24 : decode cX4_put 24 = .ok (.return_, 1) := by decide +kernel
theorem dX4_first_0 : decode cX4_first 0 = .ok (.iload_n 1, 1) := by decide +kernel
theorem dX4_first_1 : decode cX4_first 1 = .ok (.ifCond .lt 18, 3) := by decide +kernel
theorem dX4_first_4 : decode cX4_first 4 = .ok (.iload_n 1, 1) := by decide +kernel
theorem dX4_first_5 : decode cX4_first 5 = .ok (.bipush 40, 2) := by decide +kernel
theorem dX4_first_7 : decode cX4_first 7 = .ok (.if_icmp .ge 12, 3) := by decide +kernel
theorem dX4_first_10 : decode cX4_first 10 = .ok (.aload_n 0, 1) := by decide +kernel
theorem dX4_first_11 : decode cX4_first 11 = .ok (.getfield 9, 3) := by decide +kernel
theorem dX4_first_14 : decode cX4_first 14 = .ok (.iload_n 1, 1) := by decide +kernel
theorem dX4_first_15 : decode cX4_first 15 = .ok (.iaload, 1) := by decide +kernel
theorem dX4_first_16 : decode cX4_first 16 = .ok (.goto 4, 3) := by decide +kernel
theorem dX4_first_19 : decode cX4_first 19 = .ok (.iconst (-1), 1) := by decide +kernel
theorem dX4_first_20 : decode cX4_first 20 = .ok (.ireturn, 1) := by decide +kernel
theorem dX4_second_0 : decode cX4_second 0 = .ok (.iload_n 1, 1) := by decide +kernel
theorem dX4_second_1 : decode cX4_second 1 = .ok (.ifCond .lt 18, 3) := by decide +kernel
theorem dX4_second_4 : decode cX4_second 4 = .ok (.iload_n 1, 1) := by decide +kernel
theorem dX4_second_5 : decode cX4_second 5 = .ok (.bipush 40, 2) := by decide +kernel
theorem dX4_second_7 : decode cX4_second 7 = .ok (.if_icmp .ge 12, 3) := by decide +kernel
theorem dX4_second_10 : decode cX4_second 10 = .ok (.aload_n 0, 1) := by decide +kernel
theorem dX4_second_11 : decode cX4_second 11 = .ok (.getfield 15, 3) := by decide +kernel
theorem dX4_second_14 : decode cX4_second 14 = .ok (.iload_n 1, 1) := by decide +kernel
theorem dX4_second_15 : decode cX4_second 15 = .ok (.iaload, 1) := by decide +kernel
theorem dX4_second_16 : decode cX4_second 16 = .ok (.goto 4, 3) := by decide +kernel
theorem dX4_second_19 : decode cX4_second 19 = .ok (.iconst (-1), 1) := by decide +kernel
theorem dX4_second_20 : decode cX4_second 20 = .ok (.ireturn, 1) := by decide +kernel
set_option maxRecDepth 20000 in
theorem ggX4_part_X4_first : GoodIn wsX4_part wsX4_first := goodIn_r _ [5, 6, 12, 13] (by decide +kernel) (by decide +kernel)
set_option maxRecDepth 20000 in
theorem gX4_part_X4_first : GoodIn wsX4_part (wsV RX4 27 RX4 yX4_first wsX4_first) := goodIn_app (goodIn_of _ (by decide +kernel)) ggX4_part_X4_first
set_option maxRecDepth 20000 in
theorem ggX4_part_X4_second : GoodIn wsX4_part wsX4_second := goodIn_r _ [10, 11, 12, 13] (by decide +kernel) (by decide +kernel)
set_option maxRecDepth 20000 in
theorem gX4_part_X4_second : GoodIn wsX4_part (wsV RX4 31 RX4 yX4_second wsX4_second) := goodIn_app (goodIn_of _ (by decide +kernel)) ggX4_part_X4_second
theorem dX4_part_0 : decode cX4_part 0 = .ok (.iload_n 2, 1) := by decide +kernel
theorem dX4_part_1 : decode cX4_part 1 = .ok (.lookupswitch 39 #[(0, 27), (1, 33)], 27) := by decide +kernel
theorem dX4_part_28 : decode cX4_part 28 = .ok (.aload_n 0, 1) := by decide +kernel
theorem dX4_part_29 : decode cX4_part 29 = .ok (.iload_n 1, 1) := by decide +kernel
theorem dX4_part_30 : decode cX4_part 30 = .ok (.invokevirtual 27, 3) := by decide +kernel
theorem dX4_part_33 : decode cX4_part 33 = .ok (.ireturn, 1) := by decide +kernel
theorem dX4_part_34 : decode cX4_part 34 = .ok (.aload_n 0, 1) := by decide +kernel
theorem dX4_part_35 : decode cX4_part 35 = .ok (.iload_n 1, 1) := by decide +kernel
theorem dX4_part_36 : decode cX4_part 36 = .ok (.invokevirtual 31, 3) := by decide +kernel
theorem dX4_part_39 : decode cX4_part 39 = .ok (.ireturn, 1) := by decide +kernel
theorem dX4_part_40 : decode cX4_part 40 = .ok (.iconst (-1), 1) := by decide +kernel
theorem dX4_part_41 : decode cX4_part 41 = .ok (.ireturn, 1) := by decide +kernel
set_option maxRecDepth 20000 in
theorem ggX4_digest_X4_first : GoodIn wsX4_digest wsX4_first := goodIn_r _ [5, 6, 17, 18] (by decide +kernel) (by decide +kernel)
set_option maxRecDepth 20000 in
theorem gX4_digest_X4_first : GoodIn wsX4_digest (wsV RX4 27 RX4 yX4_first wsX4_first) := goodIn_app (goodIn_of _ (by decide +kernel)) ggX4_digest_X4_first
set_option maxRecDepth 20000 in
theorem ggX4_digest_X3_digested : GoodIn wsX4_digest wsX3_digested := goodIn_r _ [10, 11] (by decide +kernel) (by decide +kernel)
set_option maxRecDepth 20000 in
theorem gX4_digest_X3_digested : GoodIn wsX4_digest (va_wsS RX4 34 yX3_digested wsX3_digested) := goodIn_app (goodIn_of _ (by decide +kernel)) ggX4_digest_X3_digested
set_option maxRecDepth 20000 in
theorem ggX4_digest_X4_second : GoodIn wsX4_digest wsX4_second := goodIn_r _ [15, 16, 17, 18] (by decide +kernel) (by decide +kernel)
set_option maxRecDepth 20000 in
theorem gX4_digest_X4_second : GoodIn wsX4_digest (wsV RX4 31 RX4 yX4_second wsX4_second) := goodIn_app (goodIn_of _ (by decide +kernel)) ggX4_digest_X4_second
theorem dX4_digest_0 : decode cX4_digest 0 = .ok (.lconst 0, 1) := by decide +kernel
theorem dX4_digest_1 : decode cX4_digest 1 = .ok (.lstore_n 2, 1) := by decide +kernel
theorem dX4_digest_2 : decode cX4_digest 2 = .ok (.iconst 0, 1) := by decide +kernel
theorem dX4_digest_3 : decode cX4_digest 3 = .ok (.istore 4, 2) := by decide +kernel
theorem dX4_digest_5 : decode cX4_digest 5 = .ok (.iload 4, 2) := by decide +kernel
theorem dX4_digest_7 : decode cX4_digest 7 = .ok (.iload_n 1, 1) := by decide +kernel
theorem dX4_digest_8 : decode cX4_digest 8 = .ok (.if_icmp .ge 33, 3) := by decide +kernel
theorem dX4_digest_11 : decode cX4_digest 11 = .ok (.lload_n 2, 1) := by decide +kernel
theorem dX4_digest_12 : decode cX4_digest 12 = .ok (.aload_n 0, 1) := by decide +kernel
theorem dX4_digest_13 : decode cX4_digest 13 = .ok (.iload 4, 2) := by decide +kernel
theorem dX4_digest_15 : decode cX4_digest 15 = .ok (.invokevirtual 27, 3) := by decide +kernel
theorem dX4_digest_18 : decode cX4_digest 18 = .ok (.i2l, 1) := by decide +kernel
theorem dX4_digest_19 : decode cX4_digest 19 = .ok (.invokestatic 34, 3) := by decide +kernel
theorem dX4_digest_22 : decode cX4_digest 22 = .ok (.lstore_n 2, 1) := by decide +kernel
theorem dX4_digest_23 : decode cX4_digest 23 = .ok (.lload_n 2, 1) := by decide +kernel
theorem dX4_digest_24 : decode cX4_digest 24 = .ok (.aload_n 0, 1) := by decide +kernel
theorem dX4_digest_25 : decode cX4_digest 25 = .ok (.iload 4, 2) := by decide +kernel
theorem dX4_digest_27 : decode cX4_digest 27 = .ok (.invokevirtual 31, 3) := by decide +kernel
theorem dX4_digest_30 : decode cX4_digest 30 = .ok (.i2l, 1) := by decide +kernel
theorem dX4_digest_31 : decode cX4_digest 31 = .ok (.invokestatic 34, 3) := by decide +kernel
theorem dX4_digest_34 : decode cX4_digest 34 = .ok (.lstore_n 2, 1) := by decide +kernel
theorem dX4_digest_35 : decode cX4_digest 35 = .ok (.iinc 4 1, 3) := by decide +kernel
theorem dX4_digest_38 : decode cX4_digest 38 = .ok (.goto (-33), 3) := by decide +kernel
theorem dX4_digest_41 : decode cX4_digest 41 = .ok (.lload_n 2, 1) := by decide +kernel
theorem dX4_digest_42 : decode cX4_digest 42 = .ok (.lreturn, 1) := by decide +kernel
set_option maxRecDepth 20000 in
theorem ggX5_clear_X2_clear : GoodIn wsX5_clear wsX2_clear := goodIn_r _ [7, 8, 9, 10, 11, 12, 13, 24, 25] (by decide +kernel) (by decide +kernel)
set_option maxRecDepth 20000 in
theorem gX5_clear_X2_clear : GoodIn wsX5_clear (wsV RX5 25 RX2 yX2_clear wsX2_clear) := goodIn_app (goodIn_of _ (by decide +kernel)) ggX5_clear_X2_clear
set_option maxRecDepth 20000 in
theorem ggX5_clear_X4_clear : GoodIn wsX5_clear wsX4_clear := goodIn_r _ [18, 19, 20, 21, 11, 12, 13, 26, 27] (by decide +kernel) (by decide +kernel)
set_option maxRecDepth 20000 in
theorem gX5_clear_X4_clear : GoodIn wsX5_clear (wsV RX5 28 RX4 yX4_clear wsX4_clear) := goodIn_app (goodIn_of _ (by decide +kernel)) ggX5_clear_X4_clear
theorem dX5_clear_0 : decode cX5_clear 0 = .ok (.aload_n 0, 1) := by decide +kernel
theorem dX5_clear_1 : decode cX5_clear 1 = .ok (.getfield 12, 3) := by decide +kernel
theorem dX5_clear_4 : decode cX5_clear 4 = .ok (.invokevirtual 25, 3) := by decide +kernel
theorem dX5_clear_7 : decode cX5_clear 7 = .ok (.aload_n 0, 1) := by decide +kernel
theorem dX5_clear_8 : decode cX5_clear 8 = .ok (.getfield 21, 3) := by decide +kernel
theorem dX5_clear_11 : decode cX5_clear 11 = .ok (.invokevirtual 28, 3) := by decide +kernel
theorem dX5_clear_14 : decode cX5_clear 14 = .ok (.return_, 1) := by decide +kernel
set_option maxRecDepth 20000 in
theorem ggX5_move_X2_set : GoodIn wsX5_move wsX2_set := goodIn_r _ [6, 7, 8, 11, 12] (by decide +kernel) (by decide +kernel)
set_option maxRecDepth 20000 in
theorem gX5_move_X2_set : GoodIn wsX5_move (wsV RX5 29 RX2 yX2_set wsX2_set) := goodIn_app (goodIn_of _ (by decide +kernel)) ggX5_move_X2_set
theorem dX5_move_0 : decode cX5_move 0 = .ok (.aload_n 0, 1) := by decide +kernel
theorem dX5_move_1 : decode cX5_move 1 = .ok (.getfield 12, 3) := by decide +kernel
theorem dX5_move_4 : decode cX5_move 4 = .ok (.iload_n 1, 1) := by decide +kernel
theorem dX5_move_5 : decode cX5_move 5 = .ok (.iload_n 2, 1) := by decide +kernel
theorem dX5_move_6 : decode cX5_move 6 = .ok (.iload_n 3, 1) := by decide +kernel
theorem dX5_move_7 : decode cX5_move 7 = .ok (.invokevirtual 29, 3) := by decide +kernel
theorem dX5_move_10 : decode cX5_move 10 = .ok (.return_, 1) := by decide +kernel
set_option maxRecDepth 20000 in
theorem ggX5_putForged_X4_put : GoodIn wsX5_putForged wsX4_put := goodIn_r _ [6, 7, 8, 11, 12] (by decide +kernel) (by decide +kernel)
set_option maxRecDepth 20000 in
theorem gX5_putForged_X4_put : GoodIn wsX5_putForged (wsV RX5 33 RX4 yX4_put wsX4_put) := goodIn_app (goodIn_of _ (by decide +kernel)) ggX5_putForged_X4_put
theorem dX5_putForged_0 : decode cX5_putForged 0 = .ok (.aload_n 0, 1) := by decide +kernel
theorem dX5_putForged_1 : decode cX5_putForged 1 = .ok (.getfield 21, 3) := by decide +kernel
theorem dX5_putForged_4 : decode cX5_putForged 4 = .ok (.iload_n 1, 1) := by decide +kernel
theorem dX5_putForged_5 : decode cX5_putForged 5 = .ok (.iload_n 2, 1) := by decide +kernel
theorem dX5_putForged_6 : decode cX5_putForged 6 = .ok (.iload_n 3, 1) := by decide +kernel
theorem dX5_putForged_7 : decode cX5_putForged 7 = .ok (.invokevirtual 33, 3) := by decide +kernel
theorem dX5_putForged_10 : decode cX5_putForged 10 = .ok (.return_, 1) := by decide +kernel
set_option maxRecDepth 20000 in
theorem ggX5_copyMovesTo_X2_copyFrom : GoodIn wsX5_copyMovesTo wsX2_copyFrom := goodIn_r _ [6, 7, 8, 9, 5, 10, 11, 12, 13, 14, 15, 16, 17, 18, 19, 20, 23, 24] (by decide +kernel) (by decide +kernel)
set_option maxRecDepth 20000 in
theorem gX5_copyMovesTo_X2_copyFrom : GoodIn wsX5_copyMovesTo (wsV RX5 40 RX2 yX2_copyFrom wsX2_copyFrom) := goodIn_app (goodIn_of _ (by decide +kernel)) ggX5_copyMovesTo_X2_copyFrom
theorem dX5_copyMovesTo_0 : decode cX5_copyMovesTo 0 = .ok (.aload_n 1, 1) := by decide +kernel
theorem dX5_copyMovesTo_1 : decode cX5_copyMovesTo 1 = .ok (.aload_n 0, 1) := by decide +kernel
theorem dX5_copyMovesTo_2 : decode cX5_copyMovesTo 2 = .ok (.getfield 12, 3) := by decide +kernel
theorem dX5_copyMovesTo_5 : decode cX5_copyMovesTo 5 = .ok (.invokevirtual 40, 3) := by decide +kernel
theorem dX5_copyMovesTo_8 : decode cX5_copyMovesTo 8 = .ok (.return_, 1) := by decide +kernel
theorem dX6_areEnough_0 : decode cX6_areEnough 0 = .ok (.aload_n 0, 1) := by decide +kernel
theorem dX6_areEnough_1 : decode cX6_areEnough 1 = .ok (.getfield 56, 3) := by decide +kernel
theorem dX6_areEnough_4 : decode cX6_areEnough 4 = .ok (.aload_n 0, 1) := by decide +kernel
theorem dX6_areEnough_5 : decode cX6_areEnough 5 = .ok (.getfield 37, 3) := by decide +kernel
theorem dX6_areEnough_8 : decode cX6_areEnough 8 = .ok (.if_icmp .lt 7, 3) := by decide +kernel
theorem dX6_areEnough_11 : decode cX6_areEnough 11 = .ok (.iconst 1, 1) := by decide +kernel
theorem dX6_areEnough_12 : decode cX6_areEnough 12 = .ok (.goto 4, 3) := by decide +kernel
theorem dX6_areEnough_15 : decode cX6_areEnough 15 = .ok (.iconst 0, 1) := by decide +kernel
theorem dX6_areEnough_16 : decode cX6_areEnough 16 = .ok (.ireturn, 1) := by decide +kernel
theorem dX6_isTrustee_0 : decode cX6_isTrustee 0 = .ok (.iload_n 1, 1) := by decide +kernel
theorem dX6_isTrustee_1 : decode cX6_isTrustee 1 = .ok (.iconst 1, 1) := by decide +kernel
theorem dX6_isTrustee_2 : decode cX6_isTrustee 2 = .ok (.if_icmp .lt 15, 3) := by decide +kernel
theorem dX6_isTrustee_5 : decode cX6_isTrustee 5 = .ok (.iload_n 1, 1) := by decide +kernel
theorem dX6_isTrustee_6 : decode cX6_isTrustee 6 = .ok (.aload_n 0, 1) := by decide +kernel
theorem dX6_isTrustee_7 : decode cX6_isTrustee 7 = .ok (.getfield 33, 3) := by decide +kernel
theorem dX6_isTrustee_10 : decode cX6_isTrustee 10 = .ok (.if_icmp .gt 7, 3) := by decide +kernel
theorem dX6_isTrustee_13 : decode cX6_isTrustee 13 = .ok (.iconst 1, 1) := by decide +kernel
theorem dX6_isTrustee_14 : decode cX6_isTrustee 14 = .ok (.goto 4, 3) := by decide +kernel
theorem dX6_isTrustee_17 : decode cX6_isTrustee 17 = .ok (.iconst 0, 1) := by decide +kernel
theorem dX6_isTrustee_18 : decode cX6_isTrustee 18 = .ok (.ireturn, 1) := by decide +kernel
set_option maxRecDepth 20000 in
theorem ggX6_mayGive_X6_isTrustee : GoodIn wsX6_mayGive wsX6_isTrustee := goodIn_r _ [6, 7, 8, 9, 10, 11, 12, 13, 14, 15] (by decide +kernel) (by decide +kernel)
set_option maxRecDepth 20000 in
theorem gX6_mayGive_X6_isTrustee : GoodIn wsX6_mayGive (wsV RX6 63 RX6 yX6_isTrustee wsX6_isTrustee) := goodIn_app (goodIn_of _ (by decide +kernel)) ggX6_mayGive_X6_isTrustee
theorem dX6_mayGive_0 : decode cX6_mayGive 0 = .ok (.aload_n 0, 1) := by decide +kernel
theorem dX6_mayGive_1 : decode cX6_mayGive 1 = .ok (.iload_n 1, 1) := by decide +kernel
theorem dX6_mayGive_2 : decode cX6_mayGive 2 = .ok (.invokevirtual 63, 3) := by decide +kernel
theorem dX6_mayGive_5 : decode cX6_mayGive 5 = .ok (.ifCond .eq 16, 3) := by decide +kernel
theorem dX6_mayGive_8 : decode cX6_mayGive 8 = .ok (.aload_n 0, 1) := by decide +kernel
theorem dX6_mayGive_9 : decode cX6_mayGive 9 = .ok (.getfield 44, 3) := by decide +kernel
theorem dX6_mayGive_12 : decode cX6_mayGive 12 = .ok (.iload_n 1, 1) := by decide +kernel
theorem dX6_mayGive_13 : decode cX6_mayGive 13 = .ok (.baload, 1) := by decide +kernel
theorem dX6_mayGive_14 : decode cX6_mayGive 14 = .ok (.ifCond .ne 7, 3) := by decide +kernel
theorem dX6_mayGive_17 : decode cX6_mayGive 17 = .ok (.iconst 1, 1) := by decide +kernel
theorem dX6_mayGive_18 : decode cX6_mayGive 18 = .ok (.goto 4, 3) := by decide +kernel
theorem dX6_mayGive_21 : decode cX6_mayGive 21 = .ok (.iconst 0, 1) := by decide +kernel
theorem dX6_mayGive_22 : decode cX6_mayGive 22 = .ok (.ireturn, 1) := by decide +kernel
set_option maxRecDepth 20000 in
theorem ggX6_gave_X6_isTrustee : GoodIn wsX6_gave wsX6_isTrustee := goodIn_r _ [6, 7, 8, 9, 10, 11, 12, 13, 14, 15] (by decide +kernel) (by decide +kernel)
set_option maxRecDepth 20000 in
theorem gX6_gave_X6_isTrustee : GoodIn wsX6_gave (wsV RX6 63 RX6 yX6_isTrustee wsX6_isTrustee) := goodIn_app (goodIn_of _ (by decide +kernel)) ggX6_gave_X6_isTrustee
theorem dX6_gave_0 : decode cX6_gave 0 = .ok (.aload_n 0, 1) := by decide +kernel
theorem dX6_gave_1 : decode cX6_gave 1 = .ok (.iload_n 1, 1) := by decide +kernel
theorem dX6_gave_2 : decode cX6_gave 2 = .ok (.invokevirtual 63, 3) := by decide +kernel
theorem dX6_gave_5 : decode cX6_gave 5 = .ok (.ifCond .eq 16, 3) := by decide +kernel
theorem dX6_gave_8 : decode cX6_gave 8 = .ok (.aload_n 0, 1) := by decide +kernel
theorem dX6_gave_9 : decode cX6_gave 9 = .ok (.getfield 44, 3) := by decide +kernel
theorem dX6_gave_12 : decode cX6_gave 12 = .ok (.iload_n 1, 1) := by decide +kernel
theorem dX6_gave_13 : decode cX6_gave 13 = .ok (.baload, 1) := by decide +kernel
theorem dX6_gave_14 : decode cX6_gave 14 = .ok (.ifCond .eq 7, 3) := by decide +kernel
theorem dX6_gave_17 : decode cX6_gave 17 = .ok (.iconst 1, 1) := by decide +kernel
theorem dX6_gave_18 : decode cX6_gave 18 = .ok (.goto 4, 3) := by decide +kernel
theorem dX6_gave_21 : decode cX6_gave 21 = .ok (.iconst 0, 1) := by decide +kernel
theorem dX6_gave_22 : decode cX6_gave 22 = .ok (.ireturn, 1) := by decide +kernel
set_option maxRecDepth 20000 in
theorem ggX7_cast_X7_mayCast : GoodIn wsX7_cast wsX7_mayCast := goodIn_r _ [6, 7, 8, 9, 10, 11, 12, 13, 14, 15, 91, 92, 93, 94, 95, 96, 97, 98, 99, 100, 101, 102, 103, 104, 105, 106, 107, 108, 109, 110, 111, 112, 113, 114, 115, 116] (by decide +kernel) (by decide +kernel)
set_option maxRecDepth 20000 in
theorem gX7_cast_X7_mayCast : GoodIn wsX7_cast (wsV RX7 126 RX7 yX7_mayCast wsX7_mayCast) := goodIn_app (goodIn_of _ (by decide +kernel)) ggX7_cast_X7_mayCast
set_option maxRecDepth 20000 in
theorem ggX7_cast_X7_isCandidate : GoodIn wsX7_cast wsX7_isCandidate := goodIn_r _ [19, 20, 91, 92, 93, 94, 95, 96, 97, 98, 99, 100, 101, 102, 103, 104, 105, 106, 107, 108, 109, 110] (by decide +kernel) (by decide +kernel)
set_option maxRecDepth 20000 in
theorem gX7_cast_X7_isCandidate : GoodIn wsX7_cast (wsV RX7 130 RX7 yX7_isCandidate wsX7_isCandidate) := goodIn_app (goodIn_of _ (by decide +kernel)) ggX7_cast_X7_isCandidate
set_option maxRecDepth 20000 in
theorem ggX7_cast_X1_isExponent : GoodIn wsX7_cast wsX1_isExponent := goodIn_r _ [25, 26, 117, 118, 119] (by decide +kernel) (by decide +kernel)
set_option maxRecDepth 20000 in
theorem gX7_cast_X1_isExponent : GoodIn wsX7_cast (wsV RX7 133 RX1 yX1_isExponent wsX1_isExponent) := goodIn_app (goodIn_of _ (by decide +kernel)) ggX7_cast_X1_isExponent
set_option maxRecDepth 20000 in
theorem ggX7_cast_X1_renewedFirst : GoodIn wsX7_cast wsX1_renewedFirst := goodIn_r _ [30, 31, 32, 33, 24, 34, 35, 36, 37, 38, 39, 40, 41, 42, 43, 44, 45, 46, 47, 117, 118, 119] (by decide +kernel) (by decide +kernel)
set_option maxRecDepth 20000 in
theorem gX7_cast_X1_renewedFirst : GoodIn wsX7_cast (wsV RX7 136 RX1 yX1_renewedFirst wsX1_renewedFirst) := goodIn_app (goodIn_of _ (by decide +kernel)) ggX7_cast_X1_renewedFirst
set_option maxRecDepth 20000 in
theorem ggX7_cast_X1_markOf : GoodIn wsX7_cast wsX1_markOf := goodIn_r _ [51, 31, 32, 33, 24, 34, 35, 36, 37, 38, 39, 40, 41, 42, 117, 118, 119] (by decide +kernel) (by decide +kernel)
set_option maxRecDepth 20000 in
theorem gX7_cast_X1_markOf : GoodIn wsX7_cast (wsV RX7 139 RX1 yX1_markOf wsX1_markOf) := goodIn_app (goodIn_of _ (by decide +kernel)) ggX7_cast_X1_markOf
set_option maxRecDepth 20000 in
theorem ggX7_cast_X1_renewedSecond : GoodIn wsX7_cast wsX1_renewedSecond := goodIn_r _ [55, 56, 31, 32, 33, 24, 34, 35, 36, 37, 38, 39, 40, 41, 42, 43, 44, 45, 46, 47, 117, 118, 119] (by decide +kernel) (by decide +kernel)
set_option maxRecDepth 20000 in
theorem gX7_cast_X1_renewedSecond : GoodIn wsX7_cast (wsV RX7 142 RX1 yX1_renewedSecond wsX1_renewedSecond) := goodIn_app (goodIn_of _ (by decide +kernel)) ggX7_cast_X1_renewedSecond
set_option maxRecDepth 20000 in
theorem ggX7_cast_X7_post : GoodIn wsX7_cast wsX7_post := goodIn_r _ [60, 61, 9, 62, 63, 64, 65, 66, 67, 68, 69, 70, 71, 13, 72, 15, 73, 74, 75, 76, 77, 78, 79, 80, 81, 82, 83, 84, 85, 86, 87, 88, 38, 89, 90, 91, 92, 93, 94, 95, 96, 97, 98, 99, 100, 101, 102, 103, 104, 105, 106, 107, 108, 109, 110, 120, 121, 111, 112, 113, 114, 115, 116] (by decide +kernel) (by decide +kernel)
set_option maxRecDepth 20000 in
theorem gX7_cast_X7_post : GoodIn wsX7_cast (wsV RX7 145 RX7 yX7_post wsX7_post) := goodIn_app (goodIn_of _ (by decide +kernel)) ggX7_cast_X7_post
theorem dX7_cast_0 : decode cX7_cast 0 = .ok (.aload_n 0, 1) := by decide +kernel
theorem dX7_cast_1 : decode cX7_cast 1 = .ok (.iload_n 1, 1) := by decide +kernel
theorem dX7_cast_2 : decode cX7_cast 2 = .ok (.invokevirtual 126, 3) := by decide +kernel
theorem dX7_cast_5 : decode cX7_cast 5 = .ok (.ifCond .eq 22, 3) := by decide +kernel
theorem dX7_cast_8 : decode cX7_cast 8 = .ok (.aload_n 0, 1) := by decide +kernel
theorem dX7_cast_9 : decode cX7_cast 9 = .ok (.iload_n 2, 1) := by decide +kernel
theorem dX7_cast_10 : decode cX7_cast 10 = .ok (.invokevirtual 130, 3) := by decide +kernel
theorem dX7_cast_13 : decode cX7_cast 13 = .ok (.ifCond .eq 14, 3) := by decide +kernel
theorem dX7_cast_16 : decode cX7_cast 16 = .ok (.aload_n 0, 1) := by decide +kernel
theorem dX7_cast_17 : decode cX7_cast 17 = .ok (.getfield 25, 3) := by decide +kernel
theorem dX7_cast_20 : decode cX7_cast 20 = .ok (.iload_n 3, 1) := by decide +kernel
theorem dX7_cast_21 : decode cX7_cast 21 = .ok (.invokevirtual 133, 3) := by decide +kernel
theorem dX7_cast_24 : decode cX7_cast 24 = .ok (.ifCond .ne 5, 3) := by decide +kernel
theorem dX7_cast_27 : decode cX7_cast 27 = .ok (.lconst 0, 1) := by decide +kernel
theorem dX7_cast_28 : decode cX7_cast 28 = .ok (.lreturn, 1) := by decide +kernel
theorem dX7_cast_29 : decode cX7_cast 29 = .ok (.aload_n 0, 1) := by decide +kernel
theorem dX7_cast_30 : decode cX7_cast 30 = .ok (.iload_n 1, 1) := by decide +kernel
theorem dX7_cast_31 : decode cX7_cast 31 = .ok (.aload_n 0, 1) := by decide +kernel
theorem dX7_cast_32 : decode cX7_cast 32 = .ok (.getfield 25, 3) := by decide +kernel
theorem dX7_cast_35 : decode cX7_cast 35 = .ok (.iconst 1, 1) := by decide +kernel
theorem dX7_cast_36 : decode cX7_cast 36 = .ok (.iload_n 3, 1) := by decide +kernel
theorem dX7_cast_37 : decode cX7_cast 37 = .ok (.invokevirtual 136, 3) := by decide +kernel
theorem dX7_cast_40 : decode cX7_cast 40 = .ok (.aload_n 0, 1) := by decide +kernel
theorem dX7_cast_41 : decode cX7_cast 41 = .ok (.getfield 25, 3) := by decide +kernel
theorem dX7_cast_44 : decode cX7_cast 44 = .ok (.aload_n 0, 1) := by decide +kernel
theorem dX7_cast_45 : decode cX7_cast 45 = .ok (.getfield 25, 3) := by decide +kernel
theorem dX7_cast_48 : decode cX7_cast 48 = .ok (.iload_n 2, 1) := by decide +kernel
theorem dX7_cast_49 : decode cX7_cast 49 = .ok (.invokevirtual 139, 3) := by decide +kernel
theorem dX7_cast_52 : decode cX7_cast 52 = .ok (.iload_n 3, 1) := by decide +kernel
theorem dX7_cast_53 : decode cX7_cast 53 = .ok (.invokevirtual 142, 3) := by decide +kernel
theorem dX7_cast_56 : decode cX7_cast 56 = .ok (.invokevirtual 145, 3) := by decide +kernel
theorem dX7_cast_59 : decode cX7_cast 59 = .ok (.lreturn, 1) := by decide +kernel
set_option maxRecDepth 20000 in
theorem ggX7_castPair_X7_mayCast : GoodIn wsX7_castPair wsX7_mayCast := goodIn_r _ [6, 7, 8, 9, 10, 11, 12, 13, 14, 15, 72, 73, 74, 75, 76, 77, 78, 79, 80, 81, 82, 83, 84, 85, 86, 87, 88, 89, 90, 91, 92, 93, 94, 95, 96, 97] (by decide +kernel) (by decide +kernel)
set_option maxRecDepth 20000 in
theorem gX7_castPair_X7_mayCast : GoodIn wsX7_castPair (wsV RX7 126 RX7 yX7_mayCast wsX7_mayCast) := goodIn_app (goodIn_of _ (by decide +kernel)) ggX7_castPair_X7_mayCast
set_option maxRecDepth 20000 in
theorem ggX7_castPair_X1_holdsPair : GoodIn wsX7_castPair wsX1_holdsPair := goodIn_r _ [20, 21, 22, 23, 19, 24, 25, 26, 27, 28, 29, 30, 31, 32, 33, 34, 35, 36, 37, 98, 99, 100] (by decide +kernel) (by decide +kernel)
set_option maxRecDepth 20000 in
theorem gX7_castPair_X1_holdsPair : GoodIn wsX7_castPair (wsV RX7 149 RX1 yX1_holdsPair wsX1_holdsPair) := goodIn_app (goodIn_of _ (by decide +kernel)) ggX7_castPair_X1_holdsPair
set_option maxRecDepth 20000 in
theorem ggX7_castPair_X7_post : GoodIn wsX7_castPair wsX7_post := goodIn_r _ [41, 42, 9, 43, 44, 45, 46, 47, 48, 49, 50, 51, 52, 13, 53, 15, 54, 55, 56, 57, 58, 59, 60, 61, 62, 63, 64, 65, 66, 67, 68, 69, 33, 70, 71, 72, 73, 74, 75, 76, 77, 78, 79, 80, 81, 82, 83, 84, 85, 86, 87, 88, 89, 90, 91, 101, 102, 92, 93, 94, 95, 96, 97] (by decide +kernel) (by decide +kernel)
set_option maxRecDepth 20000 in
theorem gX7_castPair_X7_post : GoodIn wsX7_castPair (wsV RX7 145 RX7 yX7_post wsX7_post) := goodIn_app (goodIn_of _ (by decide +kernel)) ggX7_castPair_X7_post
theorem dX7_castPair_0 : decode cX7_castPair 0 = .ok (.aload_n 0, 1) := by decide +kernel
theorem dX7_castPair_1 : decode cX7_castPair 1 = .ok (.iload_n 1, 1) := by decide +kernel
theorem dX7_castPair_2 : decode cX7_castPair 2 = .ok (.invokevirtual 126, 3) := by decide +kernel
theorem dX7_castPair_5 : decode cX7_castPair 5 = .ok (.ifCond .eq 15, 3) := by decide +kernel
theorem dX7_castPair_8 : decode cX7_castPair 8 = .ok (.aload_n 0, 1) := by decide +kernel
theorem dX7_castPair_9 : decode cX7_castPair 9 = .ok (.getfield 25, 3) := by decide +kernel
theorem dX7_castPair_12 : decode cX7_castPair 12 = .ok (.iload_n 2, 1) := by decide +kernel
theorem dX7_castPair_13 : decode cX7_castPair 13 = .ok (.iload_n 3, 1) := by decide +kernel
theorem dX7_castPair_14 : decode cX7_castPair 14 = .ok (.invokevirtual 149, 3) := by decide +kernel
theorem dX7_castPair_17 : decode cX7_castPair 17 = .ok (.ifCond .ne 5, 3) := by decide +kernel
theorem dX7_castPair_20 : decode cX7_castPair 20 = .ok (.lconst 0, 1) := by decide +kernel
theorem dX7_castPair_21 : decode cX7_castPair 21 = .ok (.lreturn, 1) := by decide +kernel
theorem dX7_castPair_22 : decode cX7_castPair 22 = .ok (.aload_n 0, 1) := by decide +kernel
theorem dX7_castPair_23 : decode cX7_castPair 23 = .ok (.iload_n 1, 1) := by decide +kernel
theorem dX7_castPair_24 : decode cX7_castPair 24 = .ok (.iload_n 2, 1) := by decide +kernel
theorem dX7_castPair_25 : decode cX7_castPair 25 = .ok (.iload_n 3, 1) := by decide +kernel
theorem dX7_castPair_26 : decode cX7_castPair 26 = .ok (.invokevirtual 145, 3) := by decide +kernel
theorem dX7_castPair_29 : decode cX7_castPair 29 = .ok (.lreturn, 1) := by decide +kernel
set_option maxRecDepth 20000 in
theorem ggX7_place_X7_isBallot : GoodIn wsX7_place wsX7_isBallot := goodIn_r _ [8, 9, 29, 30, 31, 32, 33, 34, 35, 36, 37, 38, 39, 40, 41, 42, 43, 44, 45, 46, 47, 48] (by decide +kernel) (by decide +kernel)
set_option maxRecDepth 20000 in
theorem gX7_place_X7_isBallot : GoodIn wsX7_place (wsV RX7 165 RX7 yX7_isBallot wsX7_isBallot) := goodIn_app (goodIn_of _ (by decide +kernel)) ggX7_place_X7_isBallot
set_option maxRecDepth 20000 in
theorem ggX7_place_X1_isExponent : GoodIn wsX7_place wsX1_isExponent := goodIn_r _ [14, 15, 49, 50, 51] (by decide +kernel) (by decide +kernel)
set_option maxRecDepth 20000 in
theorem gX7_place_X1_isExponent : GoodIn wsX7_place (wsV RX7 133 RX1 yX1_isExponent wsX1_isExponent) := goodIn_app (goodIn_of _ (by decide +kernel)) ggX7_place_X1_isExponent
set_option maxRecDepth 20000 in
theorem ggX7_place_X5_move : GoodIn wsX7_place wsX5_move := goodIn_r _ [20, 21, 22, 23, 24, 25, 26, 27, 28, 52, 53, 54, 55] (by decide +kernel) (by decide +kernel)
set_option maxRecDepth 20000 in
theorem gX7_place_X5_move : GoodIn wsX7_place (wsV RX7 168 RX5 yX5_move wsX5_move) := goodIn_app (goodIn_of _ (by decide +kernel)) ggX7_place_X5_move
theorem dX7_place_0 : decode cX7_place 0 = .ok (.aload_n 0, 1) := by decide +kernel
theorem dX7_place_1 : decode cX7_place 1 = .ok (.getfield 97, 3) := by decide +kernel
theorem dX7_place_4 : decode cX7_place 4 = .ok (.iconst 2, 1) := by decide +kernel
theorem dX7_place_5 : decode cX7_place 5 = .ok (.if_icmp .ne 30, 3) := by decide +kernel
theorem dX7_place_8 : decode cX7_place 8 = .ok (.aload_n 0, 1) := by decide +kernel
theorem dX7_place_9 : decode cX7_place 9 = .ok (.iload_n 1, 1) := by decide +kernel
theorem dX7_place_10 : decode cX7_place 10 = .ok (.invokevirtual 165, 3) := by decide +kernel
theorem dX7_place_13 : decode cX7_place 13 = .ok (.ifCond .eq 22, 3) := by decide +kernel
theorem dX7_place_16 : decode cX7_place 16 = .ok (.aload_n 0, 1) := by decide +kernel
theorem dX7_place_17 : decode cX7_place 17 = .ok (.iload_n 2, 1) := by decide +kernel
theorem dX7_place_18 : decode cX7_place 18 = .ok (.invokevirtual 165, 3) := by decide +kernel
theorem dX7_place_21 : decode cX7_place 21 = .ok (.ifCond .eq 14, 3) := by decide +kernel
theorem dX7_place_24 : decode cX7_place 24 = .ok (.aload_n 0, 1) := by decide +kernel
theorem dX7_place_25 : decode cX7_place 25 = .ok (.getfield 25, 3) := by decide +kernel
theorem dX7_place_28 : decode cX7_place 28 = .ok (.iload_n 3, 1) := by decide +kernel
theorem dX7_place_29 : decode cX7_place 29 = .ok (.invokevirtual 133, 3) := by decide +kernel
theorem dX7_place_32 : decode cX7_place 32 = .ok (.ifCond .ne 5, 3) := by decide +kernel
theorem dX7_place_35 : decode cX7_place 35 = .ok (.iconst 0, 1) := by decide +kernel
theorem dX7_place_36 : decode cX7_place 36 = .ok (.ireturn, 1) := by decide +kernel
theorem dX7_place_37 : decode cX7_place 37 = .ok (.aload_n 0, 1) := by decide +kernel
theorem dX7_place_38 : decode cX7_place 38 = .ok (.getfield 76, 3) := by decide +kernel
theorem dX7_place_41 : decode cX7_place 41 = .ok (.iload_n 1, 1) := by decide +kernel
theorem dX7_place_42 : decode cX7_place 42 = .ok (.iload_n 2, 1) := by decide +kernel
theorem dX7_place_43 : decode cX7_place 43 = .ok (.iload_n 3, 1) := by decide +kernel
theorem dX7_place_44 : decode cX7_place 44 = .ok (.invokevirtual 168, 3) := by decide +kernel
theorem dX7_place_47 : decode cX7_place 47 = .ok (.iconst 1, 1) := by decide +kernel
theorem dX7_place_48 : decode cX7_place 48 = .ok (.ireturn, 1) := by decide +kernel
set_option maxRecDepth 20000 in
theorem ggX7_forge_X7_isBallot : GoodIn wsX7_forge wsX7_isBallot := goodIn_r _ [8, 9, 45, 46, 47, 48, 49, 50, 51, 52, 53, 54, 55, 56, 57, 58, 59, 60, 61, 62, 63, 64] (by decide +kernel) (by decide +kernel)
set_option maxRecDepth 20000 in
theorem gX7_forge_X7_isBallot : GoodIn wsX7_forge (wsV RX7 165 RX7 yX7_isBallot wsX7_isBallot) := goodIn_app (goodIn_of _ (by decide +kernel)) ggX7_forge_X7_isBallot
set_option maxRecDepth 20000 in
theorem ggX7_forge_X1_holdsPair : GoodIn wsX7_forge wsX1_holdsPair := goodIn_r _ [14, 15, 16, 17, 13, 18, 19, 20, 21, 22, 23, 24, 25, 26, 27, 28, 29, 30, 31, 65, 66, 67] (by decide +kernel) (by decide +kernel)
set_option maxRecDepth 20000 in
theorem gX7_forge_X1_holdsPair : GoodIn wsX7_forge (wsV RX7 149 RX1 yX1_holdsPair wsX1_holdsPair) := goodIn_app (goodIn_of _ (by decide +kernel)) ggX7_forge_X1_holdsPair
set_option maxRecDepth 20000 in
theorem ggX7_forge_X5_putForged : GoodIn wsX7_forge wsX5_putForged := goodIn_r _ [36, 37, 38, 39, 40, 41, 42, 43, 44, 68, 69, 70, 71] (by decide +kernel) (by decide +kernel)
set_option maxRecDepth 20000 in
theorem gX7_forge_X5_putForged : GoodIn wsX7_forge (wsV RX7 172 RX5 yX5_putForged wsX5_putForged) := goodIn_app (goodIn_of _ (by decide +kernel)) ggX7_forge_X5_putForged
theorem dX7_forge_0 : decode cX7_forge 0 = .ok (.aload_n 0, 1) := by decide +kernel
theorem dX7_forge_1 : decode cX7_forge 1 = .ok (.getfield 97, 3) := by decide +kernel
theorem dX7_forge_4 : decode cX7_forge 4 = .ok (.iconst 2, 1) := by decide +kernel
theorem dX7_forge_5 : decode cX7_forge 5 = .ok (.if_icmp .ne 23, 3) := by decide +kernel
theorem dX7_forge_8 : decode cX7_forge 8 = .ok (.aload_n 0, 1) := by decide +kernel
theorem dX7_forge_9 : decode cX7_forge 9 = .ok (.iload_n 1, 1) := by decide +kernel
theorem dX7_forge_10 : decode cX7_forge 10 = .ok (.invokevirtual 165, 3) := by decide +kernel
theorem dX7_forge_13 : decode cX7_forge 13 = .ok (.ifCond .eq 15, 3) := by decide +kernel
theorem dX7_forge_16 : decode cX7_forge 16 = .ok (.aload_n 0, 1) := by decide +kernel
theorem dX7_forge_17 : decode cX7_forge 17 = .ok (.getfield 25, 3) := by decide +kernel
theorem dX7_forge_20 : decode cX7_forge 20 = .ok (.iload_n 2, 1) := by decide +kernel
theorem dX7_forge_21 : decode cX7_forge 21 = .ok (.iload_n 3, 1) := by decide +kernel
theorem dX7_forge_22 : decode cX7_forge 22 = .ok (.invokevirtual 149, 3) := by decide +kernel
theorem dX7_forge_25 : decode cX7_forge 25 = .ok (.ifCond .ne 5, 3) := by decide +kernel
theorem dX7_forge_28 : decode cX7_forge 28 = .ok (.iconst 0, 1) := by decide +kernel
theorem dX7_forge_29 : decode cX7_forge 29 = .ok (.ireturn, 1) := by decide +kernel
theorem dX7_forge_30 : decode cX7_forge 30 = .ok (.aload_n 0, 1) := by decide +kernel
theorem dX7_forge_31 : decode cX7_forge 31 = .ok (.getfield 76, 3) := by decide +kernel
theorem dX7_forge_34 : decode cX7_forge 34 = .ok (.iload_n 1, 1) := by decide +kernel
theorem dX7_forge_35 : decode cX7_forge 35 = .ok (.iload_n 2, 1) := by decide +kernel
theorem dX7_forge_36 : decode cX7_forge 36 = .ok (.iload_n 3, 1) := by decide +kernel
theorem dX7_forge_37 : decode cX7_forge 37 = .ok (.invokevirtual 172, 3) := by decide +kernel
theorem dX7_forge_40 : decode cX7_forge 40 = .ok (.iconst 1, 1) := by decide +kernel
theorem dX7_forge_41 : decode cX7_forge 41 = .ok (.ireturn, 1) := by decide +kernel
theorem dX7_isCandidate_0 : decode cX7_isCandidate 0 = .ok (.iload_n 1, 1) := by decide +kernel
theorem dX7_isCandidate_1 : decode cX7_isCandidate 1 = .ok (.ifCond .lt 15, 3) := by decide +kernel
theorem dX7_isCandidate_4 : decode cX7_isCandidate 4 = .ok (.iload_n 1, 1) := by decide +kernel
theorem dX7_isCandidate_5 : decode cX7_isCandidate 5 = .ok (.aload_n 0, 1) := by decide +kernel
theorem dX7_isCandidate_6 : decode cX7_isCandidate 6 = .ok (.getfield 39, 3) := by decide +kernel
theorem dX7_isCandidate_9 : decode cX7_isCandidate 9 = .ok (.if_icmp .ge 7, 3) := by decide +kernel
theorem dX7_isCandidate_12 : decode cX7_isCandidate 12 = .ok (.iconst 1, 1) := by decide +kernel
theorem dX7_isCandidate_13 : decode cX7_isCandidate 13 = .ok (.goto 4, 3) := by decide +kernel
theorem dX7_isCandidate_16 : decode cX7_isCandidate 16 = .ok (.iconst 0, 1) := by decide +kernel
theorem dX7_isCandidate_17 : decode cX7_isCandidate 17 = .ok (.ireturn, 1) := by decide +kernel
theorem dX7_isBallot_0 : decode cX7_isBallot 0 = .ok (.iload_n 1, 1) := by decide +kernel
theorem dX7_isBallot_1 : decode cX7_isBallot 1 = .ok (.ifCond .lt 15, 3) := by decide +kernel
theorem dX7_isBallot_4 : decode cX7_isBallot 4 = .ok (.iload_n 1, 1) := by decide +kernel
theorem dX7_isBallot_5 : decode cX7_isBallot 5 = .ok (.aload_n 0, 1) := by decide +kernel
theorem dX7_isBallot_6 : decode cX7_isBallot 6 = .ok (.getfield 158, 3) := by decide +kernel
theorem dX7_isBallot_9 : decode cX7_isBallot 9 = .ok (.if_icmp .ge 7, 3) := by decide +kernel
theorem dX7_isBallot_12 : decode cX7_isBallot 12 = .ok (.iconst 1, 1) := by decide +kernel
theorem dX7_isBallot_13 : decode cX7_isBallot 13 = .ok (.goto 4, 3) := by decide +kernel
theorem dX7_isBallot_16 : decode cX7_isBallot 16 = .ok (.iconst 0, 1) := by decide +kernel
theorem dX7_isBallot_17 : decode cX7_isBallot 17 = .ok (.ireturn, 1) := by decide +kernel
set_option maxRecDepth 20000 in
theorem ggX7_mayCast_X0_size : GoodIn wsX7_mayCast wsX0_size := goodIn_r _ [8, 9, 30, 31, 32, 33, 34, 35] (by decide +kernel) (by decide +kernel)
set_option maxRecDepth 20000 in
theorem gX7_mayCast_X0_size : GoodIn wsX7_mayCast (wsV RX7 238 RX0 yX0_size wsX0_size) := goodIn_app (goodIn_of _ (by decide +kernel)) ggX7_mayCast_X0_size
theorem dX7_mayCast_0 : decode cX7_mayCast 0 = .ok (.aload_n 0, 1) := by decide +kernel
theorem dX7_mayCast_1 : decode cX7_mayCast 1 = .ok (.getfield 97, 3) := by decide +kernel
theorem dX7_mayCast_4 : decode cX7_mayCast 4 = .ok (.iconst 1, 1) := by decide +kernel
theorem dX7_mayCast_5 : decode cX7_mayCast 5 = .ok (.if_icmp .ne 32, 3) := by decide +kernel
theorem dX7_mayCast_8 : decode cX7_mayCast 8 = .ok (.iload_n 1, 1) := by decide +kernel
theorem dX7_mayCast_9 : decode cX7_mayCast 9 = .ok (.ifCond .lt 28, 3) := by decide +kernel
theorem dX7_mayCast_12 : decode cX7_mayCast 12 = .ok (.iload_n 1, 1) := by decide +kernel
theorem dX7_mayCast_13 : decode cX7_mayCast 13 = .ok (.aload_n 0, 1) := by decide +kernel
theorem dX7_mayCast_14 : decode cX7_mayCast 14 = .ok (.getfield 123, 3) := by decide +kernel
theorem dX7_mayCast_17 : decode cX7_mayCast 17 = .ok (.if_icmp .ge 20, 3) := by decide +kernel
theorem dX7_mayCast_20 : decode cX7_mayCast 20 = .ok (.aload_n 0, 1) := by decide +kernel
theorem dX7_mayCast_21 : decode cX7_mayCast 21 = .ok (.getfield 55, 3) := by decide +kernel
theorem dX7_mayCast_24 : decode cX7_mayCast 24 = .ok (.invokevirtual 238, 3) := by decide +kernel
theorem dX7_mayCast_27 : decode cX7_mayCast 27 = .ok (.sipush 500, 3) := by decide +kernel
theorem dX7_mayCast_30 : decode cX7_mayCast 30 = .ok (.if_icmp .ge 7, 3) := by decide +kernel
theorem dX7_mayCast_33 : decode cX7_mayCast 33 = .ok (.iconst 1, 1) := by decide +kernel
theorem dX7_mayCast_34 : decode cX7_mayCast 34 = .ok (.goto 4, 3) := by decide +kernel
theorem dX7_mayCast_37 : decode cX7_mayCast 37 = .ok (.iconst 0, 1) := by decide +kernel
theorem dX7_mayCast_38 : decode cX7_mayCast 38 = .ok (.ireturn, 1) := by decide +kernel
set_option maxRecDepth 20000 in
theorem ggX7_post_X4_put : GoodIn wsX7_post wsX4_put := goodIn_r _ [7, 8, 9, 55, 56] (by decide +kernel) (by decide +kernel)
set_option maxRecDepth 20000 in
theorem gX7_post_X4_put : GoodIn wsX7_post (wsV RX7 260 RX4 yX4_put wsX4_put) := goodIn_app (goodIn_of _ (by decide +kernel)) ggX7_post_X4_put
set_option maxRecDepth 20000 in
theorem ggX7_post_X0_add : GoodIn wsX7_post wsX0_add := goodIn_r _ [14, 15, 16, 17, 18, 19, 20, 21, 22, 23, 13, 24, 25, 26, 27, 28, 29, 30, 31, 32, 33, 34, 57, 58, 59, 60, 61, 62] (by decide +kernel) (by decide +kernel)
set_option maxRecDepth 20000 in
theorem gX7_post_X0_add : GoodIn wsX7_post (wsV RX7 119 RX0 yX0_add wsX0_add) := goodIn_app (goodIn_of _ (by decide +kernel)) ggX7_post_X0_add
theorem dX7_post_0 : decode cX7_post 0 = .ok (.aload_n 0, 1) := by decide +kernel
theorem dX7_post_1 : decode cX7_post 1 = .ok (.getfield 62, 3) := by decide +kernel
theorem dX7_post_4 : decode cX7_post 4 = .ok (.iload_n 1, 1) := by decide +kernel
theorem dX7_post_5 : decode cX7_post 5 = .ok (.iload_n 2, 1) := by decide +kernel
theorem dX7_post_6 : decode cX7_post 6 = .ok (.iload_n 3, 1) := by decide +kernel
theorem dX7_post_7 : decode cX7_post 7 = .ok (.invokevirtual 260, 3) := by decide +kernel
theorem dX7_post_10 : decode cX7_post 10 = .ok (.aload_n 0, 1) := by decide +kernel
theorem dX7_post_11 : decode cX7_post 11 = .ok (.getfield 55, 3) := by decide +kernel
theorem dX7_post_14 : decode cX7_post 14 = .ok (.iconst 2, 1) := by decide +kernel
theorem dX7_post_15 : decode cX7_post 15 = .ok (.iload_n 1, 1) := by decide +kernel
theorem dX7_post_16 : decode cX7_post 16 = .ok (.iload_n 2, 1) := by decide +kernel
theorem dX7_post_17 : decode cX7_post 17 = .ok (.iload_n 3, 1) := by decide +kernel
theorem dX7_post_18 : decode cX7_post 18 = .ok (.i2l, 1) := by decide +kernel
theorem dX7_post_19 : decode cX7_post 19 = .ok (.invokevirtual 119, 3) := by decide +kernel
theorem dX7_post_22 : decode cX7_post 22 = .ok (.lreturn, 1) := by decide +kernel
def pl (q a b : Int32) : Int32 := a + b - (a + b) / q * q
def mn (q a b : Int32) : Int32 := if a < b then a - b + q else a - b
def g40 (f : Nat → Int32) (i : Int32) : Int32 := if 0 ≤ i ∧ i < 40 then f i.toNatClampNeg else -1
/-- the digest of n pairs -/
def dgs (f g : Nat → Int32) : Nat → Int64
  | 0 => 0
  | n + 1 => dg (dg (dgs f g n) (f n).toInt64) (g n).toInt64
theorem ne_pos {q : Int32} (h : 0 < q) : ¬ q = 0 := fun e => by rw [e] at h; exact absurd h (by decide)
theorem iv_2 {q : Int32} {q0 : Nat} (h : q = nI q0) (h2 : 2 ≤ q0) : q - 2 = nI (q0 - 2) := by rw [h]; exact pk_sub (a := q0) (b := 2) h2
theorem iv_p {q : Int32} {q0 : Nat} (h : q = nI q0) (h2 : 2 ≤ q0) (h9 : q0 < 1000000) : 0 < q := by rw [h]; exact nI_lt (a := 0) (by omega) (by omega)
theorem p4_lt {i : Int32} {i0 : Nat} (h : i = nI i0) (h4 : i0 < 40) : ¬ (40 : Int32) ≤ i := by rw [h]; exact nI_ge (b := 40) h4 (by omega)
theorem p4_in {i : Int32} {i0 : Nat} (h : i = nI i0) (h4 : i0 < 40) : vp_in i 40 := by rw [h]; exact vp_in_nI h4 (by omega)
theorem g40_n {f : Nat → Int32} {z : Int32} {k : Nat} (hz : z = nI k) (h : k < 40) : g40 f z = f k := by
  rw [g40, hz, if_pos ⟨nI_pos' (by omega), nI_lt (b := 40) h (by omega)⟩, nI_clamp (by omega)]
theorem dg_c {n z : Int32} {n0 k : Nat} (hz : z = nI k) (hn : n = nI n0) (hn4 : n0 ≤ 40) (h2 : k ≤ n0) : n ≤ z ↔ n0 ≤ k := by rw [hz, hn]; exact nI_leI (by omega) (by omega)
theorem dg_lt {n z : Int32} {n0 k : Nat} (hz : z = nI k) (hn : n = nI n0) (hn4 : n0 ≤ 40) (h2 : k ≤ n0) (c : ¬ n ≤ z) : k + 1 ≤ n0 := by rw [dg_c hz hn hn4 h2] at c; omega
theorem dg_end {n z : Int32} {n0 k : Nat} {f g : Nat → Int32} {d : Int64} (hz : z = nI k) (hn : n = nI n0) (hn4 : n0 ≤ 40) (h2 : k ≤ n0) (c : n ≤ z) (hd : d = dgs f g k) : d = dgs f g n0 := by
  rw [dg_c hz hn hn4 h2] at c
  rw [hd, show k = n0 by omega]
theorem dg_next {n z : Int32} {n0 k : Nat} {f g : Nat → Int32} {d : Int64} (hz : z = nI k) (hn : n = nI n0) (hn4 : n0 ≤ 40) (h2 : k ≤ n0) (c : ¬ n ≤ z) (hd : d = dgs f g k) : dg (dg d (g40 f z).toInt64) (g40 g z).toInt64 = dgs f g (k + 1) := by
  have := dg_lt hz hn hn4 h2 c
  rw [g40_n hz (by omega), g40_n hz (by omega), hd]
  rfl
def prt (f g : Nat → Int32) (i w : Int32) : Int32 := if w = 0 then g40 f i else if w = 1 then g40 g i else -1
theorem gv_i1 {j x : Int32} {t0 : Nat} (h : 1 ≤ j ∧ j ≤ x) (hm : x = nI t0) (ht5 : t0 ≤ 5) : vp_in j (t0 + 1) := by
  rw [vp_in_iff]
  have h1 := Int32.le_iff_toInt_le.mp h.1
  have h2 := Int32.le_iff_toInt_le.mp h.2
  rw [hm, nI_toInt (by omega)] at h2
  have h3 : (1 : Int32).toInt = 1 := rfl
  omega
theorem cf_step {z : Int32} {k : Nat} {g h : Nat → Int32} (hz : z = nI k) (h2 : k + 1 ≤ 40) (h3 : ∀ j : Nat, j < k → g j = h j) : ∀ j : Nat, j < k + 1 → upd g z.toNatClampNeg (g40 h z) j = h j := by
  intro j hj
  rw [g40_n hz (by omega), hz, nI_clamp (by omega)]
  unfold upd
  split
  · rename_i e; rw [e]
  · exact h3 j (by omega)
theorem cf_all {z : Int32} {k : Nat} {g h : Nat → Int32} (hz : z = nI k) (h2 : k ≤ 40) (h3 : ∀ j : Nat, j < k → g j = h j) (c : (40 : Int32) ≤ z) : ∀ j : Nat, j < 40 → g j = h j := by
  rw [em_c hz h2] at c
  intro j hj
  exact h3 j (by omega)
set_option maxHeartbeats 4000000 in
set_option maxRecDepth 100000 in
theorem c_X3_plus (l : Launch) (D : va_G) (cA : Nat → ClassId) (a : Int32) (b : Int32) (q : Int32) (hq : 0 < q) : Met l yX3_plus wsX3_plus ({ frames := 0, cells := 0, slots := 0, locals := 0 }) (rPc vwCl D cA [] [.int a, .int b, .int q]) (rq_x (some (.int (pl q a b)))) 0 0 (fun _ => False) := by
  refine Met.ofW (cc := cX3_plus) (maxL := 3) (ret := (some .int)) (by decide) rfl ?_
  intro p e s m args below meth c s₁ B hml hv
  obtain ⟨rfl, hP, hK⟩ := hv
  have hx := B.exec
  have hb := B.bytes
  have hr := B.returns
  have hts := atoms_spec (ws := wsX3_plus) B.pre
  have hown : s.vm.findClass RX3 = some m.cls := findClass_of_methodNamed B.named
  have hlocks := B.notSynchronized
  have hl := lv_entry ([.int a, .int b, .int q]) (n := 3) (Nat.le_of_ble_eq_true rfl)
  rw [lg_entry_eq]
  generalize (lg_sl ([.int a, .int b, .int q]) ++ List.replicate (3 - (lg_sl ([.int a, .int b, .int q])).length) Slot.unset).toArray = ls at hl ⊢
  have hl : lv_has ls 3 [(0, .int a), (1, .int b), (2, .int q)] := hl
  refine lv_iload_n hx hb dX3_plus_0 rfl (lv_at hl 2 rfl) ?_
  refine lv_if_le (tgt := 12) hx hb dX3_plus_1 (by decide) (fun c_1 => ?_) (fun c_1 => ?_)
  · exact absurd c_1 (Int32.not_le.mpr hq)
  · skip
    refine lv_iload_n hx hb dX3_plus_4 rfl (lv_at hl 0 rfl) ?_
    refine lv_iload_n hx hb dX3_plus_5 rfl (lv_at hl 1 rfl) ?_
    refine lv_iadd hx hb dX3_plus_6 ?_
    refine lv_iload_n hx hb dX3_plus_7 rfl (lv_at hl 2 rfl) ?_
    refine lv_irem hx hb dX3_plus_8 (ne_pos hq) ?_
    refine lv_goto (tgt := 13) hx hb dX3_plus_9 (by decide) ?_
    exact W.iret (v := ((a + b) - (a + b) / q * q)) hx hb hr (fun t ht hW => ⟨congrArg (fun z => Outcome.returned (some (Value.int z))) (rfl), ht⟩) (fun _ h => by cases h) dX3_plus_13

set_option maxHeartbeats 4000000 in
set_option maxRecDepth 100000 in
theorem c_X3_minus (l : Launch) (D : va_G) (cA : Nat → ClassId) (a : Int32) (b : Int32) (q : Int32) : Met l yX3_minus wsX3_minus ({ frames := 0, cells := 0, slots := 0, locals := 0 }) (rPc vwCl D cA [] [.int a, .int b, .int q]) (rq_x (some (.int (mn q a b)))) 0 0 (fun _ => False) := by
  refine Met.ofW (cc := cX3_minus) (maxL := 3) (ret := (some .int)) (by decide) rfl ?_
  intro p e s m args below meth c s₁ B hml hv
  obtain ⟨rfl, hP, hK⟩ := hv
  have hx := B.exec
  have hb := B.bytes
  have hr := B.returns
  have hts := atoms_spec (ws := wsX3_minus) B.pre
  have hown : s.vm.findClass RX3 = some m.cls := findClass_of_methodNamed B.named
  have hlocks := B.notSynchronized
  have hl := lv_entry ([.int a, .int b, .int q]) (n := 3) (Nat.le_of_ble_eq_true rfl)
  rw [lg_entry_eq]
  generalize (lg_sl ([.int a, .int b, .int q]) ++ List.replicate (3 - (lg_sl ([.int a, .int b, .int q])).length) Slot.unset).toArray = ls at hl ⊢
  have hl : lv_has ls 3 [(0, .int a), (1, .int b), (2, .int q)] := hl
  refine lv_iload_n hx hb dX3_minus_0 rfl (lv_at hl 0 rfl) ?_
  refine lv_iload_n hx hb dX3_minus_1 rfl (lv_at hl 1 rfl) ?_
  refine lv_icmp_lt (tgt := 11) hx hb dX3_minus_2 (by decide) (fun c_2 => ?_) (fun c_2 => ?_)
  · skip
    refine lv_iload_n hx hb dX3_minus_11 rfl (lv_at hl 0 rfl) ?_
    refine lv_iload_n hx hb dX3_minus_12 rfl (lv_at hl 1 rfl) ?_
    refine lv_isub hx hb dX3_minus_13 ?_
    refine lv_iload_n hx hb dX3_minus_14 rfl (lv_at hl 2 rfl) ?_
    refine lv_iadd hx hb dX3_minus_15 ?_
    exact W.iret (v := ((a - b) + q)) hx hb hr (fun t ht hW => ⟨congrArg (fun z => Outcome.returned (some (Value.int z))) ((by rw [mn, if_pos c_2])), ht⟩) (fun _ h => by cases h) dX3_minus_16
  · skip
    refine lv_iload_n hx hb dX3_minus_5 rfl (lv_at hl 0 rfl) ?_
    refine lv_iload_n hx hb dX3_minus_6 rfl (lv_at hl 1 rfl) ?_
    refine lv_isub hx hb dX3_minus_7 ?_
    refine lv_goto (tgt := 16) hx hb dX3_minus_8 (by decide) ?_
    exact W.iret (v := (a - b)) hx hb hr (fun t ht hW => ⟨congrArg (fun z => Outcome.returned (some (Value.int z))) ((by rw [mn, if_neg c_2])), ht⟩) (fun _ h => by cases h) dX3_minus_16

set_option maxHeartbeats 4000000 in
set_option maxRecDepth 100000 in
theorem c_X3_inverse (l : Launch) (D : va_G) (cA : Nat → ClassId) (a : Int32) (q : Int32) (q0 : Nat) (hq0 : q = nI q0) (hq2 : 2 ≤ q0) (hq9 : q0 < 1000000) : Met l yX3_inverse wsX3_inverse ({ frames := 2, cells := 0, slots := 0, locals := 47 }) (rPc vwCl D cA [] [.int a, .int q]) (rq_x (some (.int (pw q 32 (q0 - 2) 1 a)))) 0 0 (fun _ => False) := by
  refine Met.ofW (cc := cX3_inverse) (maxL := 2) (ret := (some .int)) (by decide) rfl ?_
  intro p e s m args below meth c s₁ B hml hv
  obtain ⟨rfl, hP, hK⟩ := hv
  have hx := B.exec
  have hb := B.bytes
  have hr := B.returns
  have hts := atoms_spec (ws := wsX3_inverse) B.pre
  have hown : s.vm.findClass RX3 = some m.cls := findClass_of_methodNamed B.named
  have hlocks := B.notSynchronized
  have hl := lv_entry ([.int a, .int q]) (n := 2) (Nat.le_of_ble_eq_true rfl)
  rw [lg_entry_eq]
  generalize (lg_sl ([.int a, .int q]) ++ List.replicate (2 - (lg_sl ([.int a, .int q])).length) Slot.unset).toArray = ls at hl ⊢
  have hl : lv_has ls 2 [(0, .int a), (1, .int q)] := hl
  refine lv_iload_n hx hb dX3_inverse_0 rfl (lv_at hl 0 rfl) ?_
  refine lv_iload_n hx hb dX3_inverse_1 rfl (lv_at hl 1 rfl) ?_
  refine lv_iconst (v := 2) hx hb dX3_inverse_2 (by decide) ?_
  refine lv_isub hx hb dX3_inverse_3 ?_
  refine lv_iload_n hx hb dX3_inverse_4 rfl (lv_at hl 1 rfl) ?_
  refine rq_call1 (v := .int (pw q 32 (q0 - 2) 1 a)) (rn_S (As := [.int a, .int (q - 2), .int q]) (rest := []) ⟨hx, hb, hml, hown, hts⟩ (c_X3_power l D cA a (q - 2) q (q0 - 2) (iv_2 hq0 hq2) (by omega) (iv_p hq0 hq2 hq9)) (va_cwS 3 hts gX3_inverse_X3_power rfl rfl rfl (by decide +kernel) ⟨Nat.le_of_ble_eq_true rfl, Nat.le_of_ble_eq_true rfl⟩) hK hP [] rfl rfl hl.1 rfl (Nat.le_of_ble_eq_true rfl) dX3_inverse_5 ⟨Nat.le_of_ble_eq_true rfl, Nat.le_of_ble_eq_true rfl⟩) ?_
  exact W.iret (v := (pw q 32 (q0 - 2) 1 a)) hx hb hr (fun t ht hW => ⟨congrArg (fun z => Outcome.returned (some (Value.int z))) (rfl), ht⟩) (fun _ h => by cases h) dX3_inverse_8

set_option maxHeartbeats 4000000 in
set_option maxRecDepth 100000 in
theorem c_X1_multiplied (l : Launch) (D : va_G) (cA : Nat → ClassId) (g : Nat) (gp : Int32) (gq : Int32) (gh : Int32) (a : Int32) (b : Int32) (hgp : 0 < gp) : Met l yX1_multiplied wsX1_multiplied ({ frames := 1, cells := 0, slots := 0, locals := 22 }) (rPc vwCl D cA [(g, .inr (1, [.int gp, .int gq, .int gh]))] [.ref g, .int a, .int b]) (rq_x (some (.int (tm gp a b)))) 0 0 (fun _ => False) := by
  refine Met.ofW (cc := cX1_multiplied) (maxL := 3) (ret := (some .int)) (by decide) rfl ?_
  intro p e s m args below meth c s₁ B hml hv
  obtain ⟨rfl, hP, hK⟩ := hv
  have hx := B.exec
  have hb := B.bytes
  have hr := B.returns
  have hts := atoms_spec (ws := wsX1_multiplied) B.pre
  have hown : s.vm.findClass RX1 = some m.cls := findClass_of_methodNamed B.named
  have hlocks := B.notSynchronized
  have hin_X1 : ∀ w ∈ wsX10, w ∈ wsX1_multiplied := fun w h => List.mem_cons_of_mem _ (List.mem_append_right _ h)
  have w_RX1_9 := hts (.fieldLink RX1 9 "MixElection$Group" "prime" "I") (by decide +kernel)
  have hl := lv_entry ([.ref g, .int a, .int b]) (n := 3) (Nat.le_of_ble_eq_true rfl)
  rw [lg_entry_eq]
  generalize (lg_sl ([.ref g, .int a, .int b]) ++ List.replicate (3 - (lg_sl ([.ref g, .int a, .int b])).length) Slot.unset).toArray = ls at hl ⊢
  have hl : lv_has ls 3 [(0, .ref g), (1, .int a), (2, .int b)] := hl
  refine lv_iload_n hx hb dX1_multiplied_0 rfl (lv_at hl 1 rfl) ?_
  refine lv_iload_n hx hb dX1_multiplied_1 rfl (lv_at hl 2 rfl) ?_
  refine lv_aload_n hx hb dX1_multiplied_2 rfl (lv_at hl 0 rfl) ?_
  refine va_get (D := D) (ci := 1) (v := .int gp) (C := RX1) (T := TX1) (N := 3) hx hb hts hin_X1 hown hK hP 0 rfl rfl 0 (by decide) (w_RX1_9) (fun _ h9 => h9) rfl dX1_multiplied_3 ?_
  refine rq_call1 (v := .int (tm gp a b)) (rn_S (As := [.int a, .int b, .int gp]) (rest := []) ⟨hx, hb, hml, hown, hts⟩ (c_X3_times l D cA a b gp hgp) (va_cwS 3 hts gX1_multiplied_X3_times rfl rfl rfl (by decide +kernel) ⟨Nat.le_of_ble_eq_true rfl, Nat.le_of_ble_eq_true rfl⟩) hK hP [] rfl rfl hl.1 rfl (Nat.le_of_ble_eq_true rfl) dX1_multiplied_6 ⟨Nat.le_of_ble_eq_true rfl, Nat.le_of_ble_eq_true rfl⟩) ?_
  exact W.iret (v := (tm gp a b)) hx hb hr (fun t ht hW => ⟨congrArg (fun z => Outcome.returned (some (Value.int z))) (rfl), ht⟩) (fun _ h => by cases h) dX1_multiplied_9

set_option maxHeartbeats 4000000 in
set_option maxRecDepth 100000 in
theorem c_X1_divided (l : Launch) (D : va_G) (cA : Nat → ClassId) (g : Nat) (gp : Int32) (gq : Int32) (gh : Int32) (a : Int32) (b : Int32) (p0 : Nat) (hp0 : gp = nI p0) (hp2 : 2 ≤ p0) (hp9 : p0 < 1000000) : Met l yX1_divided wsX1_divided ({ frames := 3, cells := 0, slots := 0, locals := 68 }) (rPc vwCl D cA [(g, .inr (1, [.int gp, .int gq, .int gh]))] [.ref g, .int a, .int b]) (rq_x (some (.int (tm gp a (pw gp 32 (p0 - 2) 1 b))))) 0 0 (fun _ => False) := by
  refine Met.ofW (cc := cX1_divided) (maxL := 3) (ret := (some .int)) (by decide) rfl ?_
  intro p e s m args below meth c s₁ B hml hv
  obtain ⟨rfl, hP, hK⟩ := hv
  have hx := B.exec
  have hb := B.bytes
  have hr := B.returns
  have hts := atoms_spec (ws := wsX1_divided) B.pre
  have hown : s.vm.findClass RX1 = some m.cls := findClass_of_methodNamed B.named
  have hlocks := B.notSynchronized
  have hin_X1 : ∀ w ∈ wsX10, w ∈ wsX1_divided := fun w h => List.mem_cons_of_mem _ (List.mem_append_right _ h)
  have w_RX1_9 := hts (.fieldLink RX1 9 "MixElection$Group" "prime" "I") (by decide +kernel)
  have hl := lv_entry ([.ref g, .int a, .int b]) (n := 3) (Nat.le_of_ble_eq_true rfl)
  rw [lg_entry_eq]
  generalize (lg_sl ([.ref g, .int a, .int b]) ++ List.replicate (3 - (lg_sl ([.ref g, .int a, .int b])).length) Slot.unset).toArray = ls at hl ⊢
  have hl : lv_has ls 3 [(0, .ref g), (1, .int a), (2, .int b)] := hl
  refine lv_aload_n hx hb dX1_divided_0 rfl (lv_at hl 0 rfl) ?_
  refine lv_iload_n hx hb dX1_divided_1 rfl (lv_at hl 1 rfl) ?_
  refine lv_iload_n hx hb dX1_divided_2 rfl (lv_at hl 2 rfl) ?_
  refine lv_aload_n hx hb dX1_divided_3 rfl (lv_at hl 0 rfl) ?_
  refine va_get (D := D) (ci := 1) (v := .int gp) (C := RX1) (T := TX1) (N := 3) hx hb hts hin_X1 hown hK hP 0 rfl rfl 0 (by decide) (w_RX1_9) (fun _ h9 => h9) rfl dX1_divided_4 ?_
  refine rq_call1 (v := .int (pw gp 32 (p0 - 2) 1 b)) (rn_S (As := [.int b, .int gp]) (rest := [.int a, .ref g]) ⟨hx, hb, hml, hown, hts⟩ (c_X3_inverse l D cA b gp p0 hp0 hp2 hp9) (va_cwS 2 hts gX1_divided_X3_inverse rfl rfl rfl (by decide +kernel) ⟨Nat.le_of_ble_eq_true rfl, Nat.le_of_ble_eq_true rfl⟩) hK hP [] rfl rfl hl.1 rfl (Nat.le_of_ble_eq_true rfl) dX1_divided_7 ⟨Nat.le_of_ble_eq_true rfl, Nat.le_of_ble_eq_true rfl⟩) ?_
  refine rq_call1 (v := .int (tm gp a (pw gp 32 (p0 - 2) 1 b))) (rn_V (As := [.int a, .int (pw gp 32 (p0 - 2) 1 b)]) (rest := []) (ci := 1) (fs := [.int gp, .int gq, .int gh]) ⟨hx, hb, hml, hown, hts⟩ (c_X1_multiplied l D cA g gp gq gh a (pw gp 32 (p0 - 2) 1 b) (iv_p hp0 hp2 hp9)) rfl (cwV 2 hts gX1_divided_X1_multiplied rfl rfl rfl (by decide +kernel) ⟨Nat.le_of_ble_eq_true rfl, Nat.le_of_ble_eq_true rfl⟩) hK hP [0] rfl rfl rfl hl.1 rfl (Nat.le_of_ble_eq_true rfl) dX1_divided_10 ⟨Nat.le_of_ble_eq_true rfl, Nat.le_of_ble_eq_true rfl⟩) ?_
  exact W.iret (v := (tm gp a (pw gp 32 (p0 - 2) 1 b))) hx hb hr (fun t ht hW => ⟨congrArg (fun z => Outcome.returned (some (Value.int z))) (rfl), ht⟩) (fun _ h => by cases h) dX1_divided_13

set_option maxHeartbeats 4000000 in
set_option maxRecDepth 100000 in
theorem c_X1_markOf (l : Launch) (D : va_G) (cA : Nat → ClassId) (g : Nat) (gp : Int32) (gq : Int32) (gh : Int32) (x : Int32) (x0 : Nat) (hx0 : x = nI x0) (hX : x0 < 1000) (hgp : 0 < gp) : Met l yX1_markOf wsX1_markOf ({ frames := 3, cells := 0, slots := 0, locals := 69 }) (rPc vwCl D cA [(g, .inr (1, [.int gp, .int gq, .int gh]))] [.ref g, .int x]) (rq_x (some (.int (pw gp 32 (x0 + 1) 1 4)))) 0 0 (fun _ => False) := by
  refine Met.ofW (cc := cX1_markOf) (maxL := 2) (ret := (some .int)) (by decide) rfl ?_
  intro p e s m args below meth c s₁ B hml hv
  obtain ⟨rfl, hP, hK⟩ := hv
  have hx := B.exec
  have hb := B.bytes
  have hr := B.returns
  have hts := atoms_spec (ws := wsX1_markOf) B.pre
  have hown : s.vm.findClass RX1 = some m.cls := findClass_of_methodNamed B.named
  have hlocks := B.notSynchronized
  have hl := lv_entry ([.ref g, .int x]) (n := 2) (Nat.le_of_ble_eq_true rfl)
  rw [lg_entry_eq]
  generalize (lg_sl ([.ref g, .int x]) ++ List.replicate (2 - (lg_sl ([.ref g, .int x])).length) Slot.unset).toArray = ls at hl ⊢
  have hl : lv_has ls 2 [(0, .ref g), (1, .int x)] := hl
  refine lv_aload_n hx hb dX1_markOf_0 rfl (lv_at hl 0 rfl) ?_
  refine lv_iconst (v := 4) hx hb dX1_markOf_1 (by decide) ?_
  refine lv_iload_n hx hb dX1_markOf_2 rfl (lv_at hl 1 rfl) ?_
  refine lv_iconst (v := 1) hx hb dX1_markOf_3 (by decide) ?_
  refine lv_iadd hx hb dX1_markOf_4 ?_
  refine rq_call1 (v := .int (pw gp 32 (x0 + 1) 1 4)) (rn_V (As := [.int 4, .int (x + 1)]) (rest := []) (ci := 1) (fs := [.int gp, .int gq, .int gh]) ⟨hx, hb, hml, hown, hts⟩ (c_X1_raised l D cA g gp gq gh 4 (x + 1) (x0 + 1) (by rw [hx0]; exact nI_1 x0) (by omega) hgp) rfl (cwV 2 hts gX1_markOf_X1_raised rfl rfl rfl (by decide +kernel) ⟨Nat.le_of_ble_eq_true rfl, Nat.le_of_ble_eq_true rfl⟩) hK hP [0] rfl rfl rfl hl.1 rfl (Nat.le_of_ble_eq_true rfl) dX1_markOf_5 ⟨Nat.le_of_ble_eq_true rfl, Nat.le_of_ble_eq_true rfl⟩) ?_
  exact W.iret (v := (pw gp 32 (x0 + 1) 1 4)) hx hb hr (fun t ht hW => ⟨congrArg (fun z => Outcome.returned (some (Value.int z))) (rfl), ht⟩) (fun _ h => by cases h) dX1_markOf_8

set_option maxHeartbeats 4000000 in
set_option maxRecDepth 100000 in
theorem c_X1_renewedFirst (l : Launch) (D : va_G) (cA : Nat → ClassId) (g : Nat) (gp : Int32) (gq : Int32) (gh : Int32) (a : Int32) (x : Int32) (x0 : Nat) (hx0 : x = nI x0) (hX : x0 < 2 ^ 31) (hgp : 0 < gp) : Met l yX1_renewedFirst wsX1_renewedFirst ({ frames := 3, cells := 0, slots := 0, locals := 69 }) (rPc vwCl D cA [(g, .inr (1, [.int gp, .int gq, .int gh]))] [.ref g, .int a, .int x]) (rq_x (some (.int (tm gp a (pw gp 32 x0 1 4))))) 0 0 (fun _ => False) := by
  refine Met.ofW (cc := cX1_renewedFirst) (maxL := 3) (ret := (some .int)) (by decide) rfl ?_
  intro p e s m args below meth c s₁ B hml hv
  obtain ⟨rfl, hP, hK⟩ := hv
  have hx := B.exec
  have hb := B.bytes
  have hr := B.returns
  have hts := atoms_spec (ws := wsX1_renewedFirst) B.pre
  have hown : s.vm.findClass RX1 = some m.cls := findClass_of_methodNamed B.named
  have hlocks := B.notSynchronized
  have hl := lv_entry ([.ref g, .int a, .int x]) (n := 3) (Nat.le_of_ble_eq_true rfl)
  rw [lg_entry_eq]
  generalize (lg_sl ([.ref g, .int a, .int x]) ++ List.replicate (3 - (lg_sl ([.ref g, .int a, .int x])).length) Slot.unset).toArray = ls at hl ⊢
  have hl : lv_has ls 3 [(0, .ref g), (1, .int a), (2, .int x)] := hl
  refine lv_aload_n hx hb dX1_renewedFirst_0 rfl (lv_at hl 0 rfl) ?_
  refine lv_iload_n hx hb dX1_renewedFirst_1 rfl (lv_at hl 1 rfl) ?_
  refine lv_aload_n hx hb dX1_renewedFirst_2 rfl (lv_at hl 0 rfl) ?_
  refine lv_iconst (v := 4) hx hb dX1_renewedFirst_3 (by decide) ?_
  refine lv_iload_n hx hb dX1_renewedFirst_4 rfl (lv_at hl 2 rfl) ?_
  refine rq_call1 (v := .int (pw gp 32 x0 1 4)) (rn_V (As := [.int 4, .int x]) (rest := [.int a, .ref g]) (ci := 1) (fs := [.int gp, .int gq, .int gh]) ⟨hx, hb, hml, hown, hts⟩ (c_X1_raised l D cA g gp gq gh 4 x x0 hx0 hX hgp) rfl (cwV 2 hts gX1_renewedFirst_X1_raised rfl rfl rfl (by decide +kernel) ⟨Nat.le_of_ble_eq_true rfl, Nat.le_of_ble_eq_true rfl⟩) hK hP [0] rfl rfl rfl hl.1 rfl (Nat.le_of_ble_eq_true rfl) dX1_renewedFirst_5 ⟨Nat.le_of_ble_eq_true rfl, Nat.le_of_ble_eq_true rfl⟩) ?_
  refine rq_call1 (v := .int (tm gp a (pw gp 32 x0 1 4))) (rn_V (As := [.int a, .int (pw gp 32 x0 1 4)]) (rest := []) (ci := 1) (fs := [.int gp, .int gq, .int gh]) ⟨hx, hb, hml, hown, hts⟩ (c_X1_multiplied l D cA g gp gq gh a (pw gp 32 x0 1 4) hgp) rfl (cwV 2 hts gX1_renewedFirst_X1_multiplied rfl rfl rfl (by decide +kernel) ⟨Nat.le_of_ble_eq_true rfl, Nat.le_of_ble_eq_true rfl⟩) hK hP [0] rfl rfl rfl hl.1 rfl (Nat.le_of_ble_eq_true rfl) dX1_renewedFirst_8 ⟨Nat.le_of_ble_eq_true rfl, Nat.le_of_ble_eq_true rfl⟩) ?_
  exact W.iret (v := (tm gp a (pw gp 32 x0 1 4))) hx hb hr (fun t ht hW => ⟨congrArg (fun z => Outcome.returned (some (Value.int z))) (rfl), ht⟩) (fun _ h => by cases h) dX1_renewedFirst_11

set_option maxHeartbeats 4000000 in
set_option maxRecDepth 100000 in
theorem c_X1_renewedSecond (l : Launch) (D : va_G) (cA : Nat → ClassId) (g : Nat) (gp : Int32) (gq : Int32) (gh : Int32) (a : Int32) (x : Int32) (x0 : Nat) (hx0 : x = nI x0) (hX : x0 < 2 ^ 31) (hgp : 0 < gp) : Met l yX1_renewedSecond wsX1_renewedSecond ({ frames := 3, cells := 0, slots := 0, locals := 69 }) (rPc vwCl D cA [(g, .inr (1, [.int gp, .int gq, .int gh]))] [.ref g, .int a, .int x]) (rq_x (some (.int (tm gp a (pw gp 32 x0 1 gh))))) 0 0 (fun _ => False) := by
  refine Met.ofW (cc := cX1_renewedSecond) (maxL := 3) (ret := (some .int)) (by decide) rfl ?_
  intro p e s m args below meth c s₁ B hml hv
  obtain ⟨rfl, hP, hK⟩ := hv
  have hx := B.exec
  have hb := B.bytes
  have hr := B.returns
  have hts := atoms_spec (ws := wsX1_renewedSecond) B.pre
  have hown : s.vm.findClass RX1 = some m.cls := findClass_of_methodNamed B.named
  have hlocks := B.notSynchronized
  have hin_X1 : ∀ w ∈ wsX10, w ∈ wsX1_renewedSecond := fun w h => List.mem_cons_of_mem _ (List.mem_append_right _ h)
  have w_RX1_18 := hts (.fieldLink RX1 18 "MixElection$Group" "told" "I") (by decide +kernel)
  have hl := lv_entry ([.ref g, .int a, .int x]) (n := 3) (Nat.le_of_ble_eq_true rfl)
  rw [lg_entry_eq]
  generalize (lg_sl ([.ref g, .int a, .int x]) ++ List.replicate (3 - (lg_sl ([.ref g, .int a, .int x])).length) Slot.unset).toArray = ls at hl ⊢
  have hl : lv_has ls 3 [(0, .ref g), (1, .int a), (2, .int x)] := hl
  refine lv_aload_n hx hb dX1_renewedSecond_0 rfl (lv_at hl 0 rfl) ?_
  refine lv_iload_n hx hb dX1_renewedSecond_1 rfl (lv_at hl 1 rfl) ?_
  refine lv_aload_n hx hb dX1_renewedSecond_2 rfl (lv_at hl 0 rfl) ?_
  refine lv_aload_n hx hb dX1_renewedSecond_3 rfl (lv_at hl 0 rfl) ?_
  refine va_get (D := D) (ci := 1) (v := .int gh) (C := RX1) (T := TX1) (N := 3) hx hb hts hin_X1 hown hK hP 0 rfl rfl 2 (by decide) (w_RX1_18) (fun _ h9 => h9) rfl dX1_renewedSecond_4 ?_
  refine lv_iload_n hx hb dX1_renewedSecond_7 rfl (lv_at hl 2 rfl) ?_
  refine rq_call1 (v := .int (pw gp 32 x0 1 gh)) (rn_V (As := [.int gh, .int x]) (rest := [.int a, .ref g]) (ci := 1) (fs := [.int gp, .int gq, .int gh]) ⟨hx, hb, hml, hown, hts⟩ (c_X1_raised l D cA g gp gq gh gh x x0 hx0 hX hgp) rfl (cwV 2 hts gX1_renewedSecond_X1_raised rfl rfl rfl (by decide +kernel) ⟨Nat.le_of_ble_eq_true rfl, Nat.le_of_ble_eq_true rfl⟩) hK hP [0] rfl rfl rfl hl.1 rfl (Nat.le_of_ble_eq_true rfl) dX1_renewedSecond_8 ⟨Nat.le_of_ble_eq_true rfl, Nat.le_of_ble_eq_true rfl⟩) ?_
  refine rq_call1 (v := .int (tm gp a (pw gp 32 x0 1 gh))) (rn_V (As := [.int a, .int (pw gp 32 x0 1 gh)]) (rest := []) (ci := 1) (fs := [.int gp, .int gq, .int gh]) ⟨hx, hb, hml, hown, hts⟩ (c_X1_multiplied l D cA g gp gq gh a (pw gp 32 x0 1 gh) hgp) rfl (cwV 2 hts gX1_renewedSecond_X1_multiplied rfl rfl rfl (by decide +kernel) ⟨Nat.le_of_ble_eq_true rfl, Nat.le_of_ble_eq_true rfl⟩) hK hP [0] rfl rfl rfl hl.1 rfl (Nat.le_of_ble_eq_true rfl) dX1_renewedSecond_11 ⟨Nat.le_of_ble_eq_true rfl, Nat.le_of_ble_eq_true rfl⟩) ?_
  exact W.iret (v := (tm gp a (pw gp 32 x0 1 gh))) hx hb hr (fun t ht hW => ⟨congrArg (fun z => Outcome.returned (some (Value.int z))) (rfl), ht⟩) (fun _ h => by cases h) dX1_renewedSecond_14

set_option maxHeartbeats 4000000 in
set_option maxRecDepth 100000 in
theorem c_X1_holds (l : Launch) (D : va_G) (cA : Nat → ClassId) (g : Nat) (gp : Int32) (gq : Int32) (gh : Int32) (a : Int32) (q0 : Nat) (hq0 : gq = nI q0) (hQ : q0 < 2 ^ 31) (hgp : 0 < gp) : Met l yX1_holds wsX1_holds ({ frames := 3, cells := 0, slots := 0, locals := 69 }) (rPc vwCl D cA [(g, .inr (1, [.int gp, .int gq, .int gh]))] [.ref g, .int a]) (rq_x (some (.int (bI (1 ≤ a ∧ a < gp ∧ pw gp 32 q0 1 a = 1))))) 0 0 (fun _ => False) := by
  refine Met.ofW (cc := cX1_holds) (maxL := 2) (ret := (some .boolean)) (by decide) rfl ?_
  intro p e s m args below meth c s₁ B hml hv
  obtain ⟨rfl, hP, hK⟩ := hv
  have hx := B.exec
  have hb := B.bytes
  have hr := B.returns
  have hts := atoms_spec (ws := wsX1_holds) B.pre
  have hown : s.vm.findClass RX1 = some m.cls := findClass_of_methodNamed B.named
  have hlocks := B.notSynchronized
  have hin_X1 : ∀ w ∈ wsX10, w ∈ wsX1_holds := fun w h => List.mem_cons_of_mem _ (List.mem_append_right _ h)
  have w_RX1_9 := hts (.fieldLink RX1 9 "MixElection$Group" "prime" "I") (by decide +kernel)
  have w_RX1_15 := hts (.fieldLink RX1 15 "MixElection$Group" "half" "I") (by decide +kernel)
  have hl := lv_entry ([.ref g, .int a]) (n := 2) (Nat.le_of_ble_eq_true rfl)
  rw [lg_entry_eq]
  generalize (lg_sl ([.ref g, .int a]) ++ List.replicate (2 - (lg_sl ([.ref g, .int a])).length) Slot.unset).toArray = ls at hl ⊢
  have hl : lv_has ls 2 [(0, .ref g), (1, .int a)] := hl
  refine lv_iload_n hx hb dX1_holds_0 rfl (lv_at hl 1 rfl) ?_
  refine lv_iconst (v := 1) hx hb dX1_holds_1 (by decide) ?_
  refine lv_icmp_lt (tgt := 30) hx hb dX1_holds_2 (by decide) (fun c_2 => ?_) (fun c_2 => ?_)
  · skip
    refine lv_iconst (v := 0) hx hb dX1_holds_30 (by decide) ?_
    exact W.zret (v := 0) hx hb hr rfl (fun t ht hW => ⟨congrArg (fun z => Outcome.returned (some (Value.int z))) (bI_f (fun h => absurd c_2 (Int32.not_lt.mpr h.1))), ht⟩) (fun _ h => by cases h) dX1_holds_31
  · skip
    refine lv_iload_n hx hb dX1_holds_5 rfl (lv_at hl 1 rfl) ?_
    refine lv_aload_n hx hb dX1_holds_6 rfl (lv_at hl 0 rfl) ?_
    refine va_get (D := D) (ci := 1) (v := .int gp) (C := RX1) (T := TX1) (N := 3) hx hb hts hin_X1 hown hK hP 0 rfl rfl 0 (by decide) (w_RX1_9) (fun _ h9 => h9) rfl dX1_holds_7 ?_
    refine lv_icmp_ge (tgt := 30) hx hb dX1_holds_10 (by decide) (fun c_10 => ?_) (fun c_10 => ?_)
    · skip
      refine lv_iconst (v := 0) hx hb dX1_holds_30 (by decide) ?_
      exact W.zret (v := 0) hx hb hr rfl (fun t ht hW => ⟨congrArg (fun z => Outcome.returned (some (Value.int z))) (bI_f (fun h => absurd h.2.1 (Int32.not_lt.mpr c_10))), ht⟩) (fun _ h => by cases h) dX1_holds_31
    · skip
      refine lv_aload_n hx hb dX1_holds_13 rfl (lv_at hl 0 rfl) ?_
      refine lv_iload_n hx hb dX1_holds_14 rfl (lv_at hl 1 rfl) ?_
      refine lv_aload_n hx hb dX1_holds_15 rfl (lv_at hl 0 rfl) ?_
      refine va_get (D := D) (ci := 1) (v := .int gq) (C := RX1) (T := TX1) (N := 3) hx hb hts hin_X1 hown hK hP 0 rfl rfl 1 (by decide) (w_RX1_15) (fun _ h9 => h9) rfl dX1_holds_16 ?_
      refine rq_call1 (v := .int (pw gp 32 q0 1 a)) (rn_V (As := [.int a, .int gq]) (rest := []) (ci := 1) (fs := [.int gp, .int gq, .int gh]) ⟨hx, hb, hml, hown, hts⟩ (c_X1_raised l D cA g gp gq gh a gq q0 hq0 hQ hgp) rfl (cwV 2 hts gX1_holds_X1_raised rfl rfl rfl (by decide +kernel) ⟨Nat.le_of_ble_eq_true rfl, Nat.le_of_ble_eq_true rfl⟩) hK hP [0] rfl rfl rfl hl.1 rfl (Nat.le_of_ble_eq_true rfl) dX1_holds_19 ⟨Nat.le_of_ble_eq_true rfl, Nat.le_of_ble_eq_true rfl⟩) ?_
      refine lv_iconst (v := 1) hx hb dX1_holds_22 (by decide) ?_
      refine lv_icmp_ne (tgt := 30) hx hb dX1_holds_23 (by decide) (fun c_23 => ?_) (fun c_23 => ?_)
      · skip
        refine lv_iconst (v := 0) hx hb dX1_holds_30 (by decide) ?_
        exact W.zret (v := 0) hx hb hr rfl (fun t ht hW => ⟨congrArg (fun z => Outcome.returned (some (Value.int z))) (bI_f (fun h => c_23 h.2.2)), ht⟩) (fun _ h => by cases h) dX1_holds_31
      · skip
        refine lv_iconst (v := 1) hx hb dX1_holds_26 (by decide) ?_
        refine lv_goto (tgt := 31) hx hb dX1_holds_27 (by decide) ?_
        exact W.zret (v := 1) hx hb hr rfl (fun t ht hW => ⟨congrArg (fun z => Outcome.returned (some (Value.int z))) (bI_t ⟨Int32.not_lt.mp c_2, Int32.not_le.mp c_10, c_23⟩), ht⟩) (fun _ h => by cases h) dX1_holds_31

set_option maxHeartbeats 4000000 in
set_option maxRecDepth 100000 in
theorem c_X1_holdsPair (l : Launch) (D : va_G) (cA : Nat → ClassId) (g : Nat) (gp : Int32) (gq : Int32) (gh : Int32) (a : Int32) (b : Int32) (q0 : Nat) (hq0 : gq = nI q0) (hQ : q0 < 2 ^ 31) (hgp : 0 < gp) : Met l yX1_holdsPair wsX1_holdsPair ({ frames := 4, cells := 0, slots := 0, locals := 90 }) (rPc vwCl D cA [(g, .inr (1, [.int gp, .int gq, .int gh]))] [.ref g, .int a, .int b]) (rq_x (some (.int (bI ((1 ≤ a ∧ a < gp ∧ pw gp 32 q0 1 a = 1) ∧ (1 ≤ b ∧ b < gp ∧ pw gp 32 q0 1 b = 1)))))) 0 0 (fun _ => False) := by
  refine Met.ofW (cc := cX1_holdsPair) (maxL := 3) (ret := (some .boolean)) (by decide) rfl ?_
  intro p e s m args below meth c s₁ B hml hv
  obtain ⟨rfl, hP, hK⟩ := hv
  have hx := B.exec
  have hb := B.bytes
  have hr := B.returns
  have hts := atoms_spec (ws := wsX1_holdsPair) B.pre
  have hown : s.vm.findClass RX1 = some m.cls := findClass_of_methodNamed B.named
  have hlocks := B.notSynchronized
  have hl := lv_entry ([.ref g, .int a, .int b]) (n := 3) (Nat.le_of_ble_eq_true rfl)
  rw [lg_entry_eq]
  generalize (lg_sl ([.ref g, .int a, .int b]) ++ List.replicate (3 - (lg_sl ([.ref g, .int a, .int b])).length) Slot.unset).toArray = ls at hl ⊢
  have hl : lv_has ls 3 [(0, .ref g), (1, .int a), (2, .int b)] := hl
  refine lv_aload_n hx hb dX1_holdsPair_0 rfl (lv_at hl 0 rfl) ?_
  refine lv_iload_n hx hb dX1_holdsPair_1 rfl (lv_at hl 1 rfl) ?_
  refine rq_call1 (v := .int (bI (1 ≤ a ∧ a < gp ∧ pw gp 32 q0 1 a = 1))) (rn_V (As := [.int a]) (rest := []) (ci := 1) (fs := [.int gp, .int gq, .int gh]) ⟨hx, hb, hml, hown, hts⟩ (c_X1_holds l D cA g gp gq gh a q0 hq0 hQ hgp) rfl (cwV 1 hts gX1_holdsPair_X1_holds rfl rfl rfl (by decide +kernel) ⟨Nat.le_of_ble_eq_true rfl, Nat.le_of_ble_eq_true rfl⟩) hK hP [0] rfl rfl rfl hl.1 rfl (Nat.le_of_ble_eq_true rfl) dX1_holdsPair_2 ⟨Nat.le_of_ble_eq_true rfl, Nat.le_of_ble_eq_true rfl⟩) ?_
  refine lv_if_eq (tgt := 20) hx hb dX1_holdsPair_5 (by decide) (fun c_5 => ?_) (fun c_5 => ?_)
  · skip
    refine lv_iconst (v := 0) hx hb dX1_holdsPair_20 (by decide) ?_
    exact W.zret (v := 0) hx hb hr rfl (fun t ht hW => ⟨congrArg (fun z => Outcome.returned (some (Value.int z))) (bI_f (fun h => bI_0 c_5 h.1)), ht⟩) (fun _ h => by cases h) dX1_holdsPair_21
  · skip
    refine lv_aload_n hx hb dX1_holdsPair_8 rfl (lv_at hl 0 rfl) ?_
    refine lv_iload_n hx hb dX1_holdsPair_9 rfl (lv_at hl 2 rfl) ?_
    refine rq_call1 (v := .int (bI (1 ≤ b ∧ b < gp ∧ pw gp 32 q0 1 b = 1))) (rn_V (As := [.int b]) (rest := []) (ci := 1) (fs := [.int gp, .int gq, .int gh]) ⟨hx, hb, hml, hown, hts⟩ (c_X1_holds l D cA g gp gq gh b q0 hq0 hQ hgp) rfl (cwV 1 hts gX1_holdsPair_X1_holds rfl rfl rfl (by decide +kernel) ⟨Nat.le_of_ble_eq_true rfl, Nat.le_of_ble_eq_true rfl⟩) hK hP [0] rfl rfl rfl hl.1 rfl (Nat.le_of_ble_eq_true rfl) dX1_holdsPair_10 ⟨Nat.le_of_ble_eq_true rfl, Nat.le_of_ble_eq_true rfl⟩) ?_
    refine lv_if_eq (tgt := 20) hx hb dX1_holdsPair_13 (by decide) (fun c_13 => ?_) (fun c_13 => ?_)
    · skip
      refine lv_iconst (v := 0) hx hb dX1_holdsPair_20 (by decide) ?_
      exact W.zret (v := 0) hx hb hr rfl (fun t ht hW => ⟨congrArg (fun z => Outcome.returned (some (Value.int z))) (bI_f (fun h => bI_0 c_13 h.2)), ht⟩) (fun _ h => by cases h) dX1_holdsPair_21
    · skip
      refine lv_iconst (v := 1) hx hb dX1_holdsPair_16 (by decide) ?_
      refine lv_goto (tgt := 21) hx hb dX1_holdsPair_17 (by decide) ?_
      exact W.zret (v := 1) hx hb hr rfl (fun t ht hW => ⟨congrArg (fun z => Outcome.returned (some (Value.int z))) (bI_t ⟨bI_1 c_5, bI_1 c_13⟩), ht⟩) (fun _ h => by cases h) dX1_holdsPair_21

set_option maxHeartbeats 4000000 in
set_option maxRecDepth 100000 in
theorem c_X4_first (l : Launch) (D : va_G) (cA : Nat → ClassId) (h0 : Nat) (a : Nat) (b : Nat) (pf : Nat → Int32) (pg : Nat → Int32) (i : Int32) : Met l yX4_first wsX4_first ({ frames := 0, cells := 0, slots := 0, locals := 0 }) (rPc vwCl D cA [(h0, .inr (3, [.ref a, .ref b])), (a, .inl (cA 0, 40, .inl pf)), (b, .inl (cA 0, 40, .inl pg))] [.ref h0, .int i]) (rq_x (some (.int (g40 pf i)))) 0 0 (fun _ => False) := by
  refine Met.ofW (cc := cX4_first) (maxL := 2) (ret := (some .int)) (by decide) rfl ?_
  intro p e s m args below meth c s₁ B hml hv
  obtain ⟨rfl, hP, hK⟩ := hv
  have hx := B.exec
  have hb := B.bytes
  have hr := B.returns
  have hts := atoms_spec (ws := wsX4_first) B.pre
  have hown : s.vm.findClass RX4 = some m.cls := findClass_of_methodNamed B.named
  have hlocks := B.notSynchronized
  have hin_X4 : ∀ w ∈ wsX40, w ∈ wsX4_first := fun w h => List.mem_cons_of_mem _ (List.mem_append_right _ h)
  have w_RX4_9 := hts (.fieldLink RX4 9 "MixElection$Pairs" "firsts" "[I") (by decide +kernel)
  have hl := lv_entry ([.ref h0, .int i]) (n := 2) (Nat.le_of_ble_eq_true rfl)
  rw [lg_entry_eq]
  generalize (lg_sl ([.ref h0, .int i]) ++ List.replicate (2 - (lg_sl ([.ref h0, .int i])).length) Slot.unset).toArray = ls at hl ⊢
  have hl : lv_has ls 2 [(0, .ref h0), (1, .int i)] := hl
  refine lv_iload_n hx hb dX4_first_0 rfl (lv_at hl 1 rfl) ?_
  refine lv_if_lt (tgt := 19) hx hb dX4_first_1 (by decide) (fun c_1 => ?_) (fun c_1 => ?_)
  · skip
    refine lv_iconst (v := (-1)) hx hb dX4_first_19 (by decide) ?_
    exact W.iret (v := (-1)) hx hb hr (fun t ht hW => ⟨congrArg (fun z => Outcome.returned (some (Value.int z))) ((by rw [g40, if_neg (fun h => absurd c_1 (Int32.not_lt.mpr h.1))])), ht⟩) (fun _ h => by cases h) dX4_first_20
  · skip
    refine lv_iload_n hx hb dX4_first_4 rfl (lv_at hl 1 rfl) ?_
    refine lv_bipush (v := 40) hx hb dX4_first_5 (by decide) ?_
    refine lv_icmp_ge (tgt := 19) hx hb dX4_first_7 (by decide) (fun c_7 => ?_) (fun c_7 => ?_)
    · skip
      refine lv_iconst (v := (-1)) hx hb dX4_first_19 (by decide) ?_
      exact W.iret (v := (-1)) hx hb hr (fun t ht hW => ⟨congrArg (fun z => Outcome.returned (some (Value.int z))) ((by rw [g40, if_neg (fun h => absurd h.2 (Int32.not_lt.mpr c_7))])), ht⟩) (fun _ h => by cases h) dX4_first_20
    · skip
      refine lv_aload_n hx hb dX4_first_10 rfl (lv_at hl 0 rfl) ?_
      refine va_get (D := D) (ci := 3) (v := .ref a) (C := RX4) (T := TX4) (N := 2) hx hb hts hin_X4 hown hK hP 0 rfl rfl 0 (by decide) (w_RX4_9) (fun _ h9 => h9) rfl dX4_first_11 ?_
      refine lv_iload_n hx hb dX4_first_14 rfl (lv_at hl 1 rfl) ?_
      refine va_iald hx hb hK hP 1 0 rfl rfl (ix_in ⟨Int32.not_lt.mp c_1, Int32.not_le.mp c_7⟩ (rfl : (40 : Int32) = nI 40) (Nat.le_refl _)) dX4_first_15 ?_
      refine lv_goto (tgt := 20) hx hb dX4_first_16 (by decide) ?_
      exact W.iret (v := (pf i.toNatClampNeg)) hx hb hr (fun t ht hW => ⟨congrArg (fun z => Outcome.returned (some (Value.int z))) ((by rw [g40, if_pos ⟨Int32.not_lt.mp c_1, Int32.not_le.mp c_7⟩])), ht⟩) (fun _ h => by cases h) dX4_first_20

set_option maxHeartbeats 4000000 in
set_option maxRecDepth 100000 in
theorem c_X4_second (l : Launch) (D : va_G) (cA : Nat → ClassId) (h0 : Nat) (a : Nat) (b : Nat) (pf : Nat → Int32) (pg : Nat → Int32) (i : Int32) : Met l yX4_second wsX4_second ({ frames := 0, cells := 0, slots := 0, locals := 0 }) (rPc vwCl D cA [(h0, .inr (3, [.ref a, .ref b])), (a, .inl (cA 0, 40, .inl pf)), (b, .inl (cA 0, 40, .inl pg))] [.ref h0, .int i]) (rq_x (some (.int (g40 pg i)))) 0 0 (fun _ => False) := by
  refine Met.ofW (cc := cX4_second) (maxL := 2) (ret := (some .int)) (by decide) rfl ?_
  intro p e s m args below meth c s₁ B hml hv
  obtain ⟨rfl, hP, hK⟩ := hv
  have hx := B.exec
  have hb := B.bytes
  have hr := B.returns
  have hts := atoms_spec (ws := wsX4_second) B.pre
  have hown : s.vm.findClass RX4 = some m.cls := findClass_of_methodNamed B.named
  have hlocks := B.notSynchronized
  have hin_X4 : ∀ w ∈ wsX40, w ∈ wsX4_second := fun w h => List.mem_cons_of_mem _ (List.mem_append_right _ h)
  have w_RX4_15 := hts (.fieldLink RX4 15 "MixElection$Pairs" "seconds" "[I") (by decide +kernel)
  have hl := lv_entry ([.ref h0, .int i]) (n := 2) (Nat.le_of_ble_eq_true rfl)
  rw [lg_entry_eq]
  generalize (lg_sl ([.ref h0, .int i]) ++ List.replicate (2 - (lg_sl ([.ref h0, .int i])).length) Slot.unset).toArray = ls at hl ⊢
  have hl : lv_has ls 2 [(0, .ref h0), (1, .int i)] := hl
  refine lv_iload_n hx hb dX4_second_0 rfl (lv_at hl 1 rfl) ?_
  refine lv_if_lt (tgt := 19) hx hb dX4_second_1 (by decide) (fun c_1 => ?_) (fun c_1 => ?_)
  · skip
    refine lv_iconst (v := (-1)) hx hb dX4_second_19 (by decide) ?_
    exact W.iret (v := (-1)) hx hb hr (fun t ht hW => ⟨congrArg (fun z => Outcome.returned (some (Value.int z))) ((by rw [g40, if_neg (fun h => absurd c_1 (Int32.not_lt.mpr h.1))])), ht⟩) (fun _ h => by cases h) dX4_second_20
  · skip
    refine lv_iload_n hx hb dX4_second_4 rfl (lv_at hl 1 rfl) ?_
    refine lv_bipush (v := 40) hx hb dX4_second_5 (by decide) ?_
    refine lv_icmp_ge (tgt := 19) hx hb dX4_second_7 (by decide) (fun c_7 => ?_) (fun c_7 => ?_)
    · skip
      refine lv_iconst (v := (-1)) hx hb dX4_second_19 (by decide) ?_
      exact W.iret (v := (-1)) hx hb hr (fun t ht hW => ⟨congrArg (fun z => Outcome.returned (some (Value.int z))) ((by rw [g40, if_neg (fun h => absurd h.2 (Int32.not_lt.mpr c_7))])), ht⟩) (fun _ h => by cases h) dX4_second_20
    · skip
      refine lv_aload_n hx hb dX4_second_10 rfl (lv_at hl 0 rfl) ?_
      refine va_get (D := D) (ci := 3) (v := .ref b) (C := RX4) (T := TX4) (N := 2) hx hb hts hin_X4 hown hK hP 0 rfl rfl 1 (by decide) (w_RX4_15) (fun _ h9 => h9) rfl dX4_second_11 ?_
      refine lv_iload_n hx hb dX4_second_14 rfl (lv_at hl 1 rfl) ?_
      refine va_iald hx hb hK hP 2 0 rfl rfl (ix_in ⟨Int32.not_lt.mp c_1, Int32.not_le.mp c_7⟩ (rfl : (40 : Int32) = nI 40) (Nat.le_refl _)) dX4_second_15 ?_
      refine lv_goto (tgt := 20) hx hb dX4_second_16 (by decide) ?_
      exact W.iret (v := (pg i.toNatClampNeg)) hx hb hr (fun t ht hW => ⟨congrArg (fun z => Outcome.returned (some (Value.int z))) ((by rw [g40, if_pos ⟨Int32.not_lt.mp c_1, Int32.not_le.mp c_7⟩])), ht⟩) (fun _ h => by cases h) dX4_second_20

set_option maxHeartbeats 4000000 in
set_option maxRecDepth 100000 in
theorem c_X4_put (l : Launch) (D : va_G) (cA : Nat → ClassId) (h0 : Nat) (a : Nat) (b : Nat) (pf : Nat → Int32) (pg : Nat → Int32) (i : Int32) (v : Int32) (w : Int32) (i0 : Nat) (hi0 : i = nI i0) (hi4 : i0 < 40) : Met l yX4_put wsX4_put ({ frames := 0, cells := 0, slots := 0, locals := 0 }) (wPc vwCl D cA [(h0, .inr (3, [.ref a, .ref b])), (a, .inl (cA 0, 40, .inl pf)), (b, .inl (cA 0, 40, .inl pg))] [.ref h0, .int i, .int v, .int w]) (wq_x vwCl D [(h0, .inr (3, [.ref a, .ref b])), (a, .inl (cA 0, 40, .inl (upd pf i.toNatClampNeg v))), (b, .inl (cA 0, 40, .inl (upd pg i.toNatClampNeg w)))] none (wA [(h0, .inr (3, [.ref a, .ref b])), (a, .inl (cA 0, 40, .inl pf)), (b, .inl (cA 0, 40, .inl pg))])) 0 0 (wA [(h0, .inr (3, [.ref a, .ref b])), (a, .inl (cA 0, 40, .inl pf)), (b, .inl (cA 0, 40, .inl pg))]) := by
  refine Met.ofW (cc := cX4_put) (maxL := 4) (ret := none) (by decide) rfl ?_
  intro p e s m args below meth c s₁ B hml hv
  obtain ⟨rfl, hP, hK, hD0⟩ := hv
  have hx := B.exec
  have hb := B.bytes
  have hr := B.returns
  have hts := atoms_spec (ws := wsX4_put) B.pre
  have hown : s.vm.findClass RX4 = some m.cls := findClass_of_methodNamed B.named
  have hlocks := B.notSynchronized
  have hin_X4 : ∀ w ∈ wsX40, w ∈ wsX4_put := fun w h => List.mem_cons_of_mem _ (List.mem_append_right _ h)
  have w_RX4_9 := hts (.fieldLink RX4 9 "MixElection$Pairs" "firsts" "[I") (by decide +kernel)
  have w_RX4_15 := hts (.fieldLink RX4 15 "MixElection$Pairs" "seconds" "[I") (by decide +kernel)
  have hD : va_D (wA [(h0, .inr (3, [.ref a, .ref b])), (a, .inl (cA 0, 40, .inl pf)), (b, .inl (cA 0, 40, .inl pg))]) [(h0, .inr (3, [.ref a, .ref b])), (a, .inl (cA 0, 40, .inl pf)), (b, .inl (cA 0, 40, .inl pg))] := ⟨hD0.1, fun k q h => List.mem_map.mpr ⟨q, List.mem_of_getElem? h, rfl⟩⟩
  have hS : va_S (wA [(h0, .inr (3, [.ref a, .ref b])), (a, .inl (cA 0, 40, .inl pf)), (b, .inl (cA 0, 40, .inl pg))]) s.heap s.heap [] := va_S.rf
  generalize hAe : wA [(h0, .inr (3, [.ref a, .ref b])), (a, .inl (cA 0, 40, .inl pf)), (b, .inl (cA 0, 40, .inl pg))] = A at hD hS ⊢
  have hP : va_P D vwCl [(h0, .inr (3, [.ref a, .ref b])), (a, .inl (cA 0, 40, .inl pf)), (b, .inl (cA 0, 40, .inl pg))] s.heap := hP
  have hl := lv_entry ([.ref h0, .int i, .int v, .int w]) (n := 4) (Nat.le_of_ble_eq_true rfl)
  rw [lg_entry_eq]
  generalize (lg_sl ([.ref h0, .int i, .int v, .int w]) ++ List.replicate (4 - (lg_sl ([.ref h0, .int i, .int v, .int w])).length) Slot.unset).toArray = ls at hl ⊢
  have hl : lv_has ls 4 [(0, .ref h0), (1, .int i), (2, .int v), (3, .int w)] := hl
  refine lv_iload_n hx hb dX4_put_0 rfl (lv_at hl 1 rfl) ?_
  refine lv_if_lt (tgt := 24) hx hb dX4_put_1 (by decide) (fun c_1 => ?_) (fun c_1 => ?_)
  · exact absurd c_1 (by rw [hi0]; exact nI_pos (by omega))
  · skip
    refine lv_iload_n hx hb dX4_put_4 rfl (lv_at hl 1 rfl) ?_
    refine lv_bipush (v := 40) hx hb dX4_put_5 (by decide) ?_
    refine lv_icmp_ge (tgt := 24) hx hb dX4_put_7 (by decide) (fun c_7 => ?_) (fun c_7 => ?_)
    · exact absurd c_7 (p4_lt hi0 hi4)
    · skip
      refine lv_aload_n hx hb dX4_put_10 rfl (lv_at hl 0 rfl) ?_
      refine va_get (D := D) (ci := 3) (v := .ref a) (C := RX4) (T := TX4) (N := 2) hx hb hts hin_X4 hown hK hP 0 rfl rfl 0 (by decide) (w_RX4_9) (fun _ h9 => h9) rfl dX4_put_11 ?_
      refine lv_iload_n hx hb dX4_put_14 rfl (lv_at hl 1 rfl) ?_
      refine lv_iload_n hx hb dX4_put_15 rfl (lv_at hl 2 rfl) ?_
      refine va_iast hx hb hK hP hD hS 1 0 rfl rfl (p4_in hi0 hi4) dX4_put_16 (fun H locs hP hD hS => ?_)
      have hP : va_P D vwCl [(h0, .inr (3, [.ref a, .ref b])), (a, .inl (cA 0, 40, .inl (upd pf i.toNatClampNeg v))), (b, .inl (cA 0, 40, .inl pg))] H := hP
      have hD : va_D A [(h0, .inr (3, [.ref a, .ref b])), (a, .inl (cA 0, 40, .inl (upd pf i.toNatClampNeg v))), (b, .inl (cA 0, 40, .inl pg))] := hD
      refine lv_aload_n hx hb dX4_put_17 rfl (lv_at hl 0 rfl) ?_
      refine va_get (D := D) (ci := 3) (v := .ref b) (C := RX4) (T := TX4) (N := 2) hx hb hts hin_X4 hown hK hP 0 rfl rfl 1 (by decide) (w_RX4_15) (fun _ h9 => h9) rfl dX4_put_18 ?_
      refine lv_iload_n hx hb dX4_put_21 rfl (lv_at hl 1 rfl) ?_
      refine lv_iload_n hx hb dX4_put_22 rfl (lv_at hl 3 rfl) ?_
      refine va_iast hx hb hK hP hD hS 2 0 rfl rfl (p4_in hi0 hi4) dX4_put_23 (fun H locs hP hD hS => ?_)
      have hP : va_P D vwCl [(h0, .inr (3, [.ref a, .ref b])), (a, .inl (cA 0, 40, .inl (upd pf i.toNatClampNeg v))), (b, .inl (cA 0, 40, .inl (upd pg i.toNatClampNeg w)))] H := hP
      have hD : va_D A [(h0, .inr (3, [.ref a, .ref b])), (a, .inl (cA 0, 40, .inl (upd pf i.toNatClampNeg v))), (b, .inl (cA 0, 40, .inl (upd pg i.toNatClampNeg w)))] := hD
      have hP9 : va_P D vwCl [(h0, .inr (3, [.ref a, .ref b])), (a, .inl (cA 0, 40, .inl (upd pf i.toNatClampNeg v))), (b, .inl (cA 0, 40, .inl (upd pg i.toNatClampNeg w)))] H := hP
      exact W.vret hx hb hr (fun t ht hW => ⟨rfl, by rw [ht]; exact hP9, hS.F ht⟩) hS.2.2 dX4_put_24

set_option maxHeartbeats 4000000 in
set_option maxRecDepth 100000 in
theorem c_X2_target (l : Launch) (D : va_G) (cA : Nat → ClassId) (h0 : Nat) (a : Nat) (b : Nat) (pf : Nat → Int32) (pg : Nat → Int32) (i : Int32) : Met l yX2_target wsX2_target ({ frames := 0, cells := 0, slots := 0, locals := 0 }) (rPc vwCl D cA [(h0, .inr (2, [.ref a, .ref b])), (a, .inl (cA 0, 40, .inl pf)), (b, .inl (cA 0, 40, .inl pg))] [.ref h0, .int i]) (rq_x (some (.int (g40 pf i)))) 0 0 (fun _ => False) := by
  refine Met.ofW (cc := cX2_target) (maxL := 2) (ret := (some .int)) (by decide) rfl ?_
  intro p e s m args below meth c s₁ B hml hv
  obtain ⟨rfl, hP, hK⟩ := hv
  have hx := B.exec
  have hb := B.bytes
  have hr := B.returns
  have hts := atoms_spec (ws := wsX2_target) B.pre
  have hown : s.vm.findClass RX2 = some m.cls := findClass_of_methodNamed B.named
  have hlocks := B.notSynchronized
  have hin_X2 : ∀ w ∈ wsX20, w ∈ wsX2_target := fun w h => List.mem_cons_of_mem _ (List.mem_append_right _ h)
  have w_RX2_9 := hts (.fieldLink RX2 9 "MixElection$Moves" "targets" "[I") (by decide +kernel)
  have hl := lv_entry ([.ref h0, .int i]) (n := 2) (Nat.le_of_ble_eq_true rfl)
  rw [lg_entry_eq]
  generalize (lg_sl ([.ref h0, .int i]) ++ List.replicate (2 - (lg_sl ([.ref h0, .int i])).length) Slot.unset).toArray = ls at hl ⊢
  have hl : lv_has ls 2 [(0, .ref h0), (1, .int i)] := hl
  refine lv_iload_n hx hb dX2_target_0 rfl (lv_at hl 1 rfl) ?_
  refine lv_if_lt (tgt := 19) hx hb dX2_target_1 (by decide) (fun c_1 => ?_) (fun c_1 => ?_)
  · skip
    refine lv_iconst (v := (-1)) hx hb dX2_target_19 (by decide) ?_
    exact W.iret (v := (-1)) hx hb hr (fun t ht hW => ⟨congrArg (fun z => Outcome.returned (some (Value.int z))) ((by rw [g40, if_neg (fun h => absurd c_1 (Int32.not_lt.mpr h.1))])), ht⟩) (fun _ h => by cases h) dX2_target_20
  · skip
    refine lv_iload_n hx hb dX2_target_4 rfl (lv_at hl 1 rfl) ?_
    refine lv_bipush (v := 40) hx hb dX2_target_5 (by decide) ?_
    refine lv_icmp_ge (tgt := 19) hx hb dX2_target_7 (by decide) (fun c_7 => ?_) (fun c_7 => ?_)
    · skip
      refine lv_iconst (v := (-1)) hx hb dX2_target_19 (by decide) ?_
      exact W.iret (v := (-1)) hx hb hr (fun t ht hW => ⟨congrArg (fun z => Outcome.returned (some (Value.int z))) ((by rw [g40, if_neg (fun h => absurd h.2 (Int32.not_lt.mpr c_7))])), ht⟩) (fun _ h => by cases h) dX2_target_20
    · skip
      refine lv_aload_n hx hb dX2_target_10 rfl (lv_at hl 0 rfl) ?_
      refine va_get (D := D) (ci := 2) (v := .ref a) (C := RX2) (T := TX2) (N := 2) hx hb hts hin_X2 hown hK hP 0 rfl rfl 0 (by decide) (w_RX2_9) (fun _ h9 => h9) rfl dX2_target_11 ?_
      refine lv_iload_n hx hb dX2_target_14 rfl (lv_at hl 1 rfl) ?_
      refine va_iald hx hb hK hP 1 0 rfl rfl (ix_in ⟨Int32.not_lt.mp c_1, Int32.not_le.mp c_7⟩ (rfl : (40 : Int32) = nI 40) (Nat.le_refl _)) dX2_target_15 ?_
      refine lv_goto (tgt := 20) hx hb dX2_target_16 (by decide) ?_
      exact W.iret (v := (pf i.toNatClampNeg)) hx hb hr (fun t ht hW => ⟨congrArg (fun z => Outcome.returned (some (Value.int z))) ((by rw [g40, if_pos ⟨Int32.not_lt.mp c_1, Int32.not_le.mp c_7⟩])), ht⟩) (fun _ h => by cases h) dX2_target_20

set_option maxHeartbeats 4000000 in
set_option maxRecDepth 100000 in
theorem c_X2_exponent (l : Launch) (D : va_G) (cA : Nat → ClassId) (h0 : Nat) (a : Nat) (b : Nat) (pf : Nat → Int32) (pg : Nat → Int32) (i : Int32) : Met l yX2_exponent wsX2_exponent ({ frames := 0, cells := 0, slots := 0, locals := 0 }) (rPc vwCl D cA [(h0, .inr (2, [.ref a, .ref b])), (a, .inl (cA 0, 40, .inl pf)), (b, .inl (cA 0, 40, .inl pg))] [.ref h0, .int i]) (rq_x (some (.int (g40 pg i)))) 0 0 (fun _ => False) := by
  refine Met.ofW (cc := cX2_exponent) (maxL := 2) (ret := (some .int)) (by decide) rfl ?_
  intro p e s m args below meth c s₁ B hml hv
  obtain ⟨rfl, hP, hK⟩ := hv
  have hx := B.exec
  have hb := B.bytes
  have hr := B.returns
  have hts := atoms_spec (ws := wsX2_exponent) B.pre
  have hown : s.vm.findClass RX2 = some m.cls := findClass_of_methodNamed B.named
  have hlocks := B.notSynchronized
  have hin_X2 : ∀ w ∈ wsX20, w ∈ wsX2_exponent := fun w h => List.mem_cons_of_mem _ (List.mem_append_right _ h)
  have w_RX2_15 := hts (.fieldLink RX2 15 "MixElection$Moves" "exponents" "[I") (by decide +kernel)
  have hl := lv_entry ([.ref h0, .int i]) (n := 2) (Nat.le_of_ble_eq_true rfl)
  rw [lg_entry_eq]
  generalize (lg_sl ([.ref h0, .int i]) ++ List.replicate (2 - (lg_sl ([.ref h0, .int i])).length) Slot.unset).toArray = ls at hl ⊢
  have hl : lv_has ls 2 [(0, .ref h0), (1, .int i)] := hl
  refine lv_iload_n hx hb dX2_exponent_0 rfl (lv_at hl 1 rfl) ?_
  refine lv_if_lt (tgt := 19) hx hb dX2_exponent_1 (by decide) (fun c_1 => ?_) (fun c_1 => ?_)
  · skip
    refine lv_iconst (v := (-1)) hx hb dX2_exponent_19 (by decide) ?_
    exact W.iret (v := (-1)) hx hb hr (fun t ht hW => ⟨congrArg (fun z => Outcome.returned (some (Value.int z))) ((by rw [g40, if_neg (fun h => absurd c_1 (Int32.not_lt.mpr h.1))])), ht⟩) (fun _ h => by cases h) dX2_exponent_20
  · skip
    refine lv_iload_n hx hb dX2_exponent_4 rfl (lv_at hl 1 rfl) ?_
    refine lv_bipush (v := 40) hx hb dX2_exponent_5 (by decide) ?_
    refine lv_icmp_ge (tgt := 19) hx hb dX2_exponent_7 (by decide) (fun c_7 => ?_) (fun c_7 => ?_)
    · skip
      refine lv_iconst (v := (-1)) hx hb dX2_exponent_19 (by decide) ?_
      exact W.iret (v := (-1)) hx hb hr (fun t ht hW => ⟨congrArg (fun z => Outcome.returned (some (Value.int z))) ((by rw [g40, if_neg (fun h => absurd h.2 (Int32.not_lt.mpr c_7))])), ht⟩) (fun _ h => by cases h) dX2_exponent_20
    · skip
      refine lv_aload_n hx hb dX2_exponent_10 rfl (lv_at hl 0 rfl) ?_
      refine va_get (D := D) (ci := 2) (v := .ref b) (C := RX2) (T := TX2) (N := 2) hx hb hts hin_X2 hown hK hP 0 rfl rfl 1 (by decide) (w_RX2_15) (fun _ h9 => h9) rfl dX2_exponent_11 ?_
      refine lv_iload_n hx hb dX2_exponent_14 rfl (lv_at hl 1 rfl) ?_
      refine va_iald hx hb hK hP 2 0 rfl rfl (ix_in ⟨Int32.not_lt.mp c_1, Int32.not_le.mp c_7⟩ (rfl : (40 : Int32) = nI 40) (Nat.le_refl _)) dX2_exponent_15 ?_
      refine lv_goto (tgt := 20) hx hb dX2_exponent_16 (by decide) ?_
      exact W.iret (v := (pg i.toNatClampNeg)) hx hb hr (fun t ht hW => ⟨congrArg (fun z => Outcome.returned (some (Value.int z))) ((by rw [g40, if_pos ⟨Int32.not_lt.mp c_1, Int32.not_le.mp c_7⟩])), ht⟩) (fun _ h => by cases h) dX2_exponent_20

set_option maxHeartbeats 4000000 in
set_option maxRecDepth 100000 in
theorem c_X2_set (l : Launch) (D : va_G) (cA : Nat → ClassId) (h0 : Nat) (a : Nat) (b : Nat) (pf : Nat → Int32) (pg : Nat → Int32) (i : Int32) (v : Int32) (w : Int32) (i0 : Nat) (hi0 : i = nI i0) (hi4 : i0 < 40) : Met l yX2_set wsX2_set ({ frames := 0, cells := 0, slots := 0, locals := 0 }) (wPc vwCl D cA [(h0, .inr (2, [.ref a, .ref b])), (a, .inl (cA 0, 40, .inl pf)), (b, .inl (cA 0, 40, .inl pg))] [.ref h0, .int i, .int v, .int w]) (wq_x vwCl D [(h0, .inr (2, [.ref a, .ref b])), (a, .inl (cA 0, 40, .inl (upd pf i.toNatClampNeg v))), (b, .inl (cA 0, 40, .inl (upd pg i.toNatClampNeg w)))] none (wA [(h0, .inr (2, [.ref a, .ref b])), (a, .inl (cA 0, 40, .inl pf)), (b, .inl (cA 0, 40, .inl pg))])) 0 0 (wA [(h0, .inr (2, [.ref a, .ref b])), (a, .inl (cA 0, 40, .inl pf)), (b, .inl (cA 0, 40, .inl pg))]) := by
  refine Met.ofW (cc := cX2_set) (maxL := 4) (ret := none) (by decide) rfl ?_
  intro p e s m args below meth c s₁ B hml hv
  obtain ⟨rfl, hP, hK, hD0⟩ := hv
  have hx := B.exec
  have hb := B.bytes
  have hr := B.returns
  have hts := atoms_spec (ws := wsX2_set) B.pre
  have hown : s.vm.findClass RX2 = some m.cls := findClass_of_methodNamed B.named
  have hlocks := B.notSynchronized
  have hin_X2 : ∀ w ∈ wsX20, w ∈ wsX2_set := fun w h => List.mem_cons_of_mem _ (List.mem_append_right _ h)
  have w_RX2_9 := hts (.fieldLink RX2 9 "MixElection$Moves" "targets" "[I") (by decide +kernel)
  have w_RX2_15 := hts (.fieldLink RX2 15 "MixElection$Moves" "exponents" "[I") (by decide +kernel)
  have hD : va_D (wA [(h0, .inr (2, [.ref a, .ref b])), (a, .inl (cA 0, 40, .inl pf)), (b, .inl (cA 0, 40, .inl pg))]) [(h0, .inr (2, [.ref a, .ref b])), (a, .inl (cA 0, 40, .inl pf)), (b, .inl (cA 0, 40, .inl pg))] := ⟨hD0.1, fun k q h => List.mem_map.mpr ⟨q, List.mem_of_getElem? h, rfl⟩⟩
  have hS : va_S (wA [(h0, .inr (2, [.ref a, .ref b])), (a, .inl (cA 0, 40, .inl pf)), (b, .inl (cA 0, 40, .inl pg))]) s.heap s.heap [] := va_S.rf
  generalize hAe : wA [(h0, .inr (2, [.ref a, .ref b])), (a, .inl (cA 0, 40, .inl pf)), (b, .inl (cA 0, 40, .inl pg))] = A at hD hS ⊢
  have hP : va_P D vwCl [(h0, .inr (2, [.ref a, .ref b])), (a, .inl (cA 0, 40, .inl pf)), (b, .inl (cA 0, 40, .inl pg))] s.heap := hP
  have hl := lv_entry ([.ref h0, .int i, .int v, .int w]) (n := 4) (Nat.le_of_ble_eq_true rfl)
  rw [lg_entry_eq]
  generalize (lg_sl ([.ref h0, .int i, .int v, .int w]) ++ List.replicate (4 - (lg_sl ([.ref h0, .int i, .int v, .int w])).length) Slot.unset).toArray = ls at hl ⊢
  have hl : lv_has ls 4 [(0, .ref h0), (1, .int i), (2, .int v), (3, .int w)] := hl
  refine lv_iload_n hx hb dX2_set_0 rfl (lv_at hl 1 rfl) ?_
  refine lv_if_lt (tgt := 24) hx hb dX2_set_1 (by decide) (fun c_1 => ?_) (fun c_1 => ?_)
  · exact absurd c_1 (by rw [hi0]; exact nI_pos (by omega))
  · skip
    refine lv_iload_n hx hb dX2_set_4 rfl (lv_at hl 1 rfl) ?_
    refine lv_bipush (v := 40) hx hb dX2_set_5 (by decide) ?_
    refine lv_icmp_ge (tgt := 24) hx hb dX2_set_7 (by decide) (fun c_7 => ?_) (fun c_7 => ?_)
    · exact absurd c_7 (p4_lt hi0 hi4)
    · skip
      refine lv_aload_n hx hb dX2_set_10 rfl (lv_at hl 0 rfl) ?_
      refine va_get (D := D) (ci := 2) (v := .ref a) (C := RX2) (T := TX2) (N := 2) hx hb hts hin_X2 hown hK hP 0 rfl rfl 0 (by decide) (w_RX2_9) (fun _ h9 => h9) rfl dX2_set_11 ?_
      refine lv_iload_n hx hb dX2_set_14 rfl (lv_at hl 1 rfl) ?_
      refine lv_iload_n hx hb dX2_set_15 rfl (lv_at hl 2 rfl) ?_
      refine va_iast hx hb hK hP hD hS 1 0 rfl rfl (p4_in hi0 hi4) dX2_set_16 (fun H locs hP hD hS => ?_)
      have hP : va_P D vwCl [(h0, .inr (2, [.ref a, .ref b])), (a, .inl (cA 0, 40, .inl (upd pf i.toNatClampNeg v))), (b, .inl (cA 0, 40, .inl pg))] H := hP
      have hD : va_D A [(h0, .inr (2, [.ref a, .ref b])), (a, .inl (cA 0, 40, .inl (upd pf i.toNatClampNeg v))), (b, .inl (cA 0, 40, .inl pg))] := hD
      refine lv_aload_n hx hb dX2_set_17 rfl (lv_at hl 0 rfl) ?_
      refine va_get (D := D) (ci := 2) (v := .ref b) (C := RX2) (T := TX2) (N := 2) hx hb hts hin_X2 hown hK hP 0 rfl rfl 1 (by decide) (w_RX2_15) (fun _ h9 => h9) rfl dX2_set_18 ?_
      refine lv_iload_n hx hb dX2_set_21 rfl (lv_at hl 1 rfl) ?_
      refine lv_iload_n hx hb dX2_set_22 rfl (lv_at hl 3 rfl) ?_
      refine va_iast hx hb hK hP hD hS 2 0 rfl rfl (p4_in hi0 hi4) dX2_set_23 (fun H locs hP hD hS => ?_)
      have hP : va_P D vwCl [(h0, .inr (2, [.ref a, .ref b])), (a, .inl (cA 0, 40, .inl (upd pf i.toNatClampNeg v))), (b, .inl (cA 0, 40, .inl (upd pg i.toNatClampNeg w)))] H := hP
      have hD : va_D A [(h0, .inr (2, [.ref a, .ref b])), (a, .inl (cA 0, 40, .inl (upd pf i.toNatClampNeg v))), (b, .inl (cA 0, 40, .inl (upd pg i.toNatClampNeg w)))] := hD
      have hP9 : va_P D vwCl [(h0, .inr (2, [.ref a, .ref b])), (a, .inl (cA 0, 40, .inl (upd pf i.toNatClampNeg v))), (b, .inl (cA 0, 40, .inl (upd pg i.toNatClampNeg w)))] H := hP
      exact W.vret hx hb hr (fun t ht hW => ⟨rfl, by rw [ht]; exact hP9, hS.F ht⟩) hS.2.2 dX2_set_24

set_option maxHeartbeats 4000000 in
set_option maxRecDepth 100000 in
theorem c_X4_digest (l : Launch) (D : va_G) (cA : Nat → ClassId) (h0 : Nat) (a : Nat) (b : Nat) (pf : Nat → Int32) (pg : Nat → Int32) (n : Int32) (n0 : Nat) (hn : n = nI n0) (hn4 : n0 ≤ 40) : Met l yX4_digest wsX4_digest ({ frames := 1, cells := 0, slots := 0, locals := 23 }) (rPc vwCl D cA [(h0, .inr (3, [.ref a, .ref b])), (a, .inl (cA 0, 40, .inl pf)), (b, .inl (cA 0, 40, .inl pg))] [.ref h0, .int n]) (rq_x (some (.long (dgs pf pg n0)))) 0 0 (fun _ => False) := by
  refine Met.ofW (cc := cX4_digest) (maxL := 5) (ret := (some .long)) (by decide) rfl ?_
  intro p e s m args below meth c s₁ B hml hv
  obtain ⟨rfl, hP, hK⟩ := hv
  have hx := B.exec
  have hb := B.bytes
  have hr := B.returns
  have hts := atoms_spec (ws := wsX4_digest) B.pre
  have hown : s.vm.findClass RX4 = some m.cls := findClass_of_methodNamed B.named
  have hlocks := B.notSynchronized
  have hl := lv_entry ([.ref h0, .int n]) (n := 5) (Nat.le_of_ble_eq_true rfl)
  rw [lg_entry_eq]
  generalize (lg_sl ([.ref h0, .int n]) ++ List.replicate (5 - (lg_sl ([.ref h0, .int n])).length) Slot.unset).toArray = ls at hl ⊢
  have hl : lv_has ls 5 [(0, .ref h0), (1, .int n)] := hl
  refine lv_lconst (v := 0) hx hb dX4_digest_0 (by decide) ?_
  refine lv_lstore_n (lv' := [(2, .long 0), (0, .ref h0), (1, .int n)]) hx hb dX4_digest_1 rfl hl (by decide) rfl (fun ls hl => ?_)
  refine lv_iconst (v := 0) hx hb dX4_digest_2 (by decide) ?_
  refine lv_istore (lv' := [(4, .int 0), (2, .long 0), (0, .ref h0), (1, .int n)]) hx hb dX4_digest_3 hl (by decide) rfl (fun ls hl => ?_)
  have loop5 : ∀ (f_ k : Nat) (z : Int32) (d : Int64), z = nI k → n0 + 1 ≤ k + f_ → k ≤ n0 → d = dgs pf pg k → ∀ ls : Array Slot, lv_has ls 5 [(0, .ref h0), (1, .int n), (2, .long d), (4, .int z)] → W p l e (headSpec wsX4_digest ({ frames := 1, cells := 0, slots := 0, locals := 23 })).room s m [.ref h0, .int n].toArray below meth c s.heap [] 0 0 (MQ below (rq_x (some (.long (dgs pf pg n0)))) [.ref h0, .int n].toArray s 0 0 (fun _ => False)) (F0 m 5 ls []) := by
    intro f
    induction f with
    | zero =>
      intro k z d hz h1 h2
      omega
    | succ f ih =>
      intro k z d hz h1 h2 hd ls hl
      refine lv_iload hx hb dX4_digest_5 (lv_at hl 3 rfl) ?_
      refine lv_iload_n hx hb dX4_digest_7 rfl (lv_at hl 1 rfl) ?_
      refine lv_icmp_ge (tgt := 41) hx hb dX4_digest_8 (by decide) (fun c_8 => ?_) (fun c_8 => ?_)
      · skip
        refine lv_lload_n hx hb dX4_digest_41 rfl (lv_at hl 2 rfl) ?_
        exact W.lret (v := d) hx hb hr (fun t ht hW => ⟨congrArg (fun z => Outcome.returned (some (Value.long z))) (dg_end hz hn hn4 h2 c_8 hd), ht⟩) (fun _ h => by cases h) dX4_digest_42
      · skip
        refine lv_lload_n hx hb dX4_digest_11 rfl (lv_at hl 2 rfl) ?_
        refine lv_aload_n hx hb dX4_digest_12 rfl (lv_at hl 0 rfl) ?_
        refine lv_iload hx hb dX4_digest_13 (lv_at hl 3 rfl) ?_
        refine rq_call1 (v := .int (g40 pf z)) (rn_V (As := [.int z]) (rest := [.long d]) (ci := 3) (fs := [.ref a, .ref b]) ⟨hx, hb, hml, hown, hts⟩ (c_X4_first l D cA h0 a b pf pg z) rfl (cwV 1 hts gX4_digest_X4_first rfl rfl rfl (by decide +kernel) ⟨Nat.le_of_ble_eq_true rfl, Nat.le_of_ble_eq_true rfl⟩) hK hP [0, 1, 2] rfl rfl rfl hl.1 rfl (Nat.le_of_ble_eq_true rfl) dX4_digest_15 ⟨Nat.le_of_ble_eq_true rfl, Nat.le_of_ble_eq_true rfl⟩) ?_
        refine lv_i2l hx hb dX4_digest_18 rfl ?_
        refine rq_call1 (v := .long (dg d ((g40 pf z).toInt64))) (rn_S (As := [.long d, .long (g40 pf z).toInt64]) (rest := []) ⟨hx, hb, hml, hown, hts⟩ (c_X3_digested l D cA d ((g40 pf z).toInt64)) (va_cwS 2 hts gX4_digest_X3_digested rfl rfl rfl (by decide +kernel) ⟨Nat.le_of_ble_eq_true rfl, Nat.le_of_ble_eq_true rfl⟩) hK hP [] rfl rfl hl.1 rfl (Nat.le_of_ble_eq_true rfl) dX4_digest_19 ⟨Nat.le_of_ble_eq_true rfl, Nat.le_of_ble_eq_true rfl⟩) ?_
        refine lv_lstore_n (lv' := [(2, .long (dg d ((g40 pf z).toInt64))), (0, .ref h0), (1, .int n), (4, .int z)]) hx hb dX4_digest_22 rfl hl (by decide) rfl (fun ls hl => ?_)
        refine lv_lload_n hx hb dX4_digest_23 rfl (lv_at hl 0 rfl) ?_
        refine lv_aload_n hx hb dX4_digest_24 rfl (lv_at hl 1 rfl) ?_
        refine lv_iload hx hb dX4_digest_25 (lv_at hl 3 rfl) ?_
        refine rq_call1 (v := .int (g40 pg z)) (rn_V (As := [.int z]) (rest := [.long (dg d ((g40 pf z).toInt64))]) (ci := 3) (fs := [.ref a, .ref b]) ⟨hx, hb, hml, hown, hts⟩ (c_X4_second l D cA h0 a b pf pg z) rfl (cwV 1 hts gX4_digest_X4_second rfl rfl rfl (by decide +kernel) ⟨Nat.le_of_ble_eq_true rfl, Nat.le_of_ble_eq_true rfl⟩) hK hP [0, 1, 2] rfl rfl rfl hl.1 rfl (Nat.le_of_ble_eq_true rfl) dX4_digest_27 ⟨Nat.le_of_ble_eq_true rfl, Nat.le_of_ble_eq_true rfl⟩) ?_
        refine lv_i2l hx hb dX4_digest_30 rfl ?_
        refine rq_call1 (v := .long (dg (dg d ((g40 pf z).toInt64)) ((g40 pg z).toInt64))) (rn_S (As := [.long (dg d ((g40 pf z).toInt64)), .long (g40 pg z).toInt64]) (rest := []) ⟨hx, hb, hml, hown, hts⟩ (c_X3_digested l D cA (dg d ((g40 pf z).toInt64)) ((g40 pg z).toInt64)) (va_cwS 2 hts gX4_digest_X3_digested rfl rfl rfl (by decide +kernel) ⟨Nat.le_of_ble_eq_true rfl, Nat.le_of_ble_eq_true rfl⟩) hK hP [] rfl rfl hl.1 rfl (Nat.le_of_ble_eq_true rfl) dX4_digest_31 ⟨Nat.le_of_ble_eq_true rfl, Nat.le_of_ble_eq_true rfl⟩) ?_
        refine lv_lstore_n (lv' := [(2, .long (dg (dg d ((g40 pf z).toInt64)) ((g40 pg z).toInt64))), (0, .ref h0), (1, .int n), (4, .int z)]) hx hb dX4_digest_34 rfl hl (by decide) rfl (fun ls hl => ?_)
        refine lv_iinc (v := (z + 1)) (lv' := [(4, .int (z + 1)), (2, .long (dg (dg d ((g40 pf z).toInt64)) ((g40 pg z).toInt64))), (0, .ref h0), (1, .int n)]) hx hb dX4_digest_35 hl (k := 3) rfl rfl (by decide) rfl (fun ls hl => ?_)
        refine lv_goto (tgt := 5) hx hb dX4_digest_38 (by decide) ?_
        exact ih (k + 1) (z + 1) _ (by rw [hz]; exact nI_1 k) (by omega) (dg_lt hz hn hn4 h2 c_8) (dg_next hz hn hn4 h2 c_8 hd) ls (lv_sub hl [2, 3, 1, 0] rfl)
  exact loop5 (n0 + 1) 0 0 0 rfl (by omega) (by omega) rfl ls (lv_sub hl [2, 3, 1, 0] rfl)

set_option maxHeartbeats 4000000 in
set_option maxRecDepth 100000 in
theorem c_X2_copyFrom (l : Launch) (D : va_G) (cA : Nat → ClassId) (h0 : Nat) (a : Nat) (b : Nat) (o : Nat) (oa : Nat) (ob : Nat) (pf : Nat → Int32) (pg : Nat → Int32) (of : Nat → Int32) (og : Nat → Int32) : Met l yX2_copyFrom wsX2_copyFrom ({ frames := 1, cells := 0, slots := 0, locals := 23 }) (wPc vwCl D cA [(h0, .inr (2, [.ref a, .ref b])), (a, .inl (cA 0, 40, .inl pf)), (b, .inl (cA 0, 40, .inl pg)), (o, .inr (2, [.ref oa, .ref ob])), (oa, .inl (cA 0, 40, .inl of)), (ob, .inl (cA 0, 40, .inl og))] [.ref h0, .ref o]) (wq_x vwCl D [(h0, .inr (2, [.ref a, .ref b])), (a, .inl (cA 0, 40, .inl of)), (b, .inl (cA 0, 40, .inl og)), (o, .inr (2, [.ref oa, .ref ob])), (oa, .inl (cA 0, 40, .inl of)), (ob, .inl (cA 0, 40, .inl og))] none (wA [(h0, .inr (2, [.ref a, .ref b])), (a, .inl (cA 0, 40, .inl pf)), (b, .inl (cA 0, 40, .inl pg)), (o, .inr (2, [.ref oa, .ref ob])), (oa, .inl (cA 0, 40, .inl of)), (ob, .inl (cA 0, 40, .inl og))])) 0 0 (wA [(h0, .inr (2, [.ref a, .ref b])), (a, .inl (cA 0, 40, .inl pf)), (b, .inl (cA 0, 40, .inl pg)), (o, .inr (2, [.ref oa, .ref ob])), (oa, .inl (cA 0, 40, .inl of)), (ob, .inl (cA 0, 40, .inl og))]) := by
  refine Met.ofW (cc := cX2_copyFrom) (maxL := 3) (ret := none) (by decide) rfl ?_
  intro p e s m args below meth c s₁ B hml hv
  obtain ⟨rfl, hP, hK, hD0⟩ := hv
  have hx := B.exec
  have hb := B.bytes
  have hr := B.returns
  have hts := atoms_spec (ws := wsX2_copyFrom) B.pre
  have hown : s.vm.findClass RX2 = some m.cls := findClass_of_methodNamed B.named
  have hlocks := B.notSynchronized
  have hD : va_D (wA [(h0, .inr (2, [.ref a, .ref b])), (a, .inl (cA 0, 40, .inl pf)), (b, .inl (cA 0, 40, .inl pg)), (o, .inr (2, [.ref oa, .ref ob])), (oa, .inl (cA 0, 40, .inl of)), (ob, .inl (cA 0, 40, .inl og))]) [(h0, .inr (2, [.ref a, .ref b])), (a, .inl (cA 0, 40, .inl pf)), (b, .inl (cA 0, 40, .inl pg)), (o, .inr (2, [.ref oa, .ref ob])), (oa, .inl (cA 0, 40, .inl of)), (ob, .inl (cA 0, 40, .inl og))] := ⟨hD0.1, fun k q h => List.mem_map.mpr ⟨q, List.mem_of_getElem? h, rfl⟩⟩
  have hS : va_S (wA [(h0, .inr (2, [.ref a, .ref b])), (a, .inl (cA 0, 40, .inl pf)), (b, .inl (cA 0, 40, .inl pg)), (o, .inr (2, [.ref oa, .ref ob])), (oa, .inl (cA 0, 40, .inl of)), (ob, .inl (cA 0, 40, .inl og))]) s.heap s.heap [] := va_S.rf
  generalize hAe : wA [(h0, .inr (2, [.ref a, .ref b])), (a, .inl (cA 0, 40, .inl pf)), (b, .inl (cA 0, 40, .inl pg)), (o, .inr (2, [.ref oa, .ref ob])), (oa, .inl (cA 0, 40, .inl of)), (ob, .inl (cA 0, 40, .inl og))] = A at hD hS ⊢
  have hP : va_P D vwCl [(h0, .inr (2, [.ref a, .ref b])), (a, .inl (cA 0, 40, .inl pf)), (b, .inl (cA 0, 40, .inl pg)), (o, .inr (2, [.ref oa, .ref ob])), (oa, .inl (cA 0, 40, .inl of)), (ob, .inl (cA 0, 40, .inl og))] s.heap := hP
  have hl := lv_entry ([.ref h0, .ref o]) (n := 3) (Nat.le_of_ble_eq_true rfl)
  rw [lg_entry_eq]
  generalize (lg_sl ([.ref h0, .ref o]) ++ List.replicate (3 - (lg_sl ([.ref h0, .ref o])).length) Slot.unset).toArray = ls at hl ⊢
  have hl : lv_has ls 3 [(0, .ref h0), (1, .ref o)] := hl
  refine lv_iconst (v := 0) hx hb dX2_copyFrom_0 (by decide) ?_
  refine lv_istore_n (lv' := [(2, .int 0), (0, .ref h0), (1, .ref o)]) hx hb dX2_copyFrom_1 rfl hl (by decide) rfl (fun ls hl => ?_)
  have loop2 : ∀ (fu k : Nat) (z : Int32) (f1 f2 : Nat → Int32), z = nI k → 41 ≤ k + fu → k ≤ 40 → (∀ j : Nat, j < k → f1 j = of j) → (∀ j : Nat, j < k → f2 j = og j) → ∀ (H : Heap) (locs : List Loc), va_P D vwCl [(h0, .inr (2, [.ref a, .ref b])), (a, .inl (cA 0, 40, .inl f1)), (b, .inl (cA 0, 40, .inl f2)), (o, .inr (2, [.ref oa, .ref ob])), (oa, .inl (cA 0, 40, .inl of)), (ob, .inl (cA 0, 40, .inl og))] H → va_D A [(h0, .inr (2, [.ref a, .ref b])), (a, .inl (cA 0, 40, .inl f1)), (b, .inl (cA 0, 40, .inl f2)), (o, .inr (2, [.ref oa, .ref ob])), (oa, .inl (cA 0, 40, .inl of)), (ob, .inl (cA 0, 40, .inl og))] → va_S A s.heap H locs → ∀ ls : Array Slot, lv_has ls 3 [(0, .ref h0), (1, .ref o), (2, .int z)] → W p l e (headSpec wsX2_copyFrom ({ frames := 1, cells := 0, slots := 0, locals := 23 })).room s m [.ref h0, .ref o].toArray below meth c H locs 0 0 (MQ below (wq_x vwCl D [(h0, .inr (2, [.ref a, .ref b])), (a, .inl (cA 0, 40, .inl of)), (b, .inl (cA 0, 40, .inl og)), (o, .inr (2, [.ref oa, .ref ob])), (oa, .inl (cA 0, 40, .inl of)), (ob, .inl (cA 0, 40, .inl og))] none A) [.ref h0, .ref o].toArray s 0 0 A) (F0 m 2 ls []) := by
    intro f
    induction f with
    | zero =>
      intro k z f1 f2 hz h1 h2
      omega
    | succ f ih =>
      intro k z f1 f2 hz h1 h2 h3 h4 H locs hP hD hS ls hl
      refine lv_iload_n hx hb dX2_copyFrom_2 rfl (lv_at hl 2 rfl) ?_
      refine lv_bipush (v := 40) hx hb dX2_copyFrom_3 (by decide) ?_
      refine lv_icmp_ge (tgt := 29) hx hb dX2_copyFrom_5 (by decide) (fun c_5 => ?_) (fun c_5 => ?_)
      · skip
        have hP9 : va_P D vwCl [(h0, .inr (2, [.ref a, .ref b])), (a, .inl (cA 0, 40, .inl of)), (b, .inl (cA 0, 40, .inl og)), (o, .inr (2, [.ref oa, .ref ob])), (oa, .inl (cA 0, 40, .inl of)), (ob, .inl (cA 0, 40, .inl og))] H := (hP.arr 1 rfl (cf_all hz h2 h3 c_5)).arr 2 rfl (cf_all hz h2 h4 c_5)
        exact W.vret hx hb hr (fun t ht hW => ⟨rfl, by rw [ht]; exact hP9, hS.F ht⟩) hS.2.2 dX2_copyFrom_29
      · skip
        refine lv_aload_n hx hb dX2_copyFrom_8 rfl (lv_at hl 0 rfl) ?_
        refine lv_iload_n hx hb dX2_copyFrom_9 rfl (lv_at hl 2 rfl) ?_
        refine lv_aload_n hx hb dX2_copyFrom_10 rfl (lv_at hl 1 rfl) ?_
        refine lv_iload_n hx hb dX2_copyFrom_11 rfl (lv_at hl 2 rfl) ?_
        refine rq_call1 (v := .int (g40 of z)) (rn_V (As := [.int z]) (rest := [.int z, .ref h0]) (ci := 2) (fs := [.ref oa, .ref ob]) ⟨hx, hb, hml, hown, hts⟩ (c_X2_target l D cA o oa ob of og z) rfl (cwV 1 hts gX2_copyFrom_X2_target rfl rfl rfl (by decide +kernel) ⟨Nat.le_of_ble_eq_true rfl, Nat.le_of_ble_eq_true rfl⟩) hK hP [3, 4, 5] rfl rfl rfl hl.1 rfl (Nat.le_of_ble_eq_true rfl) dX2_copyFrom_12 ⟨Nat.le_of_ble_eq_true rfl, Nat.le_of_ble_eq_true rfl⟩) ?_
        refine lv_aload_n hx hb dX2_copyFrom_15 rfl (lv_at hl 1 rfl) ?_
        refine lv_iload_n hx hb dX2_copyFrom_16 rfl (lv_at hl 2 rfl) ?_
        refine rq_call1 (v := .int (g40 og z)) (rn_V (As := [.int z]) (rest := [.int (g40 of z), .int z, .ref h0]) (ci := 2) (fs := [.ref oa, .ref ob]) ⟨hx, hb, hml, hown, hts⟩ (c_X2_exponent l D cA o oa ob of og z) rfl (cwV 1 hts gX2_copyFrom_X2_exponent rfl rfl rfl (by decide +kernel) ⟨Nat.le_of_ble_eq_true rfl, Nat.le_of_ble_eq_true rfl⟩) hK hP [3, 4, 5] rfl rfl rfl hl.1 rfl (Nat.le_of_ble_eq_true rfl) dX2_copyFrom_17 ⟨Nat.le_of_ble_eq_true rfl, Nat.le_of_ble_eq_true rfl⟩) ?_
        refine wq_call0 (wc := [(h0, .inr (2, [.ref a, .ref b])), (a, .inl (cA 0, 40, .inl f1)), (b, .inl (cA 0, 40, .inl f2))]) (w1 := [(h0, .inr (2, [.ref a, .ref b])), (a, .inl (cA 0, 40, .inl (upd f1 z.toNatClampNeg (g40 of z)))), (b, .inl (cA 0, 40, .inl (upd f2 z.toNatClampNeg (g40 og z))))]) (ws' := [(h0, .inr (2, [.ref a, .ref b])), (a, .inl (cA 0, 40, .inl (upd f1 z.toNatClampNeg (g40 of z)))), (b, .inl (cA 0, 40, .inl (upd f2 z.toNatClampNeg (g40 og z)))), (o, .inr (2, [.ref oa, .ref ob])), (oa, .inl (cA 0, 40, .inl of)), (ob, .inl (cA 0, 40, .inl og))]) (wn_V (As := [.int z, .int (g40 of z), .int (g40 og z)]) (rest := []) (ci := 2) (fs := [.ref a, .ref b]) ⟨hx, hb, hml, hown, hts⟩ (c_X2_set l D cA h0 a b f1 f2 z (g40 of z) (g40 og z) k hz (em_lt hz h2 c_5)) rfl (cwV 3 hts gX2_copyFrom_X2_set rfl rfl rfl (by decide +kernel) ⟨Nat.le_of_ble_eq_true rfl, Nat.le_of_ble_eq_true rfl⟩) hK hP hD [0, 1, 2] rfl (by decide) rfl rfl rfl hl.1 rfl (Nat.le_of_ble_eq_true rfl) dX2_copyFrom_20 ⟨Nat.le_of_ble_eq_true rfl, Nat.le_of_ble_eq_true rfl⟩) hP hD hS [0, 1, 2] [3, 4, 5] rfl rfl rfl rfl rfl rfl (fun H locs hP hD hS => ?_)
        refine lv_iinc (v := (z + 1)) (lv' := [(2, .int (z + 1)), (0, .ref h0), (1, .ref o)]) hx hb dX2_copyFrom_23 hl (k := 2) rfl rfl (by decide) rfl (fun ls hl => ?_)
        refine lv_goto (tgt := 2) hx hb dX2_copyFrom_26 (by decide) ?_
        exact ih (k + 1) (z + 1) _ _ (by rw [hz]; exact nI_1 k) (by omega) (em_lt hz h2 c_5) (cf_step hz (em_lt hz h2 c_5) h3) (cf_step hz (em_lt hz h2 c_5) h4) _ _ hP hD hS ls (lv_sub hl [1, 2, 0] rfl)
  exact loop2 41 0 0 pf pg rfl (by omega) (by omega) (fun j h => by omega) (fun j h => by omega) _ _ hP hD hS ls (lv_sub hl [1, 2, 0] rfl)

set_option maxHeartbeats 4000000 in
set_option maxRecDepth 100000 in
theorem c_X5_clear (l : Launch) (D : va_G) (cA : Nat → ClassId) (sg : Nat) (mo : Nat) (ma : Nat) (mb : Nat) (fo : Nat) (fa : Nat) (fb : Nat) (mt : Nat → Int32) (me : Nat → Int32) (ff : Nat → Int32) (fg : Nat → Int32) : Met l yX5_clear wsX5_clear ({ frames := 2, cells := 0, slots := 0, locals := 43 }) (wPc vwCl D cA [(sg, .inr (4, [.ref mo, .ref fo])), (mo, .inr (2, [.ref ma, .ref mb])), (ma, .inl (cA 0, 40, .inl mt)), (mb, .inl (cA 0, 40, .inl me)), (fo, .inr (3, [.ref fa, .ref fb])), (fa, .inl (cA 0, 40, .inl ff)), (fb, .inl (cA 0, 40, .inl fg))] [.ref sg]) (wq_x vwCl D [(sg, .inr (4, [.ref mo, .ref fo])), (mo, .inr (2, [.ref ma, .ref mb])), (ma, .inl (cA 0, 40, .inl (fun _ => -1))), (mb, .inl (cA 0, 40, .inl (fun _ => -1))), (fo, .inr (3, [.ref fa, .ref fb])), (fa, .inl (cA 0, 40, .inl (fun _ => -1))), (fb, .inl (cA 0, 40, .inl (fun _ => -1)))] none (wA [(sg, .inr (4, [.ref mo, .ref fo])), (mo, .inr (2, [.ref ma, .ref mb])), (ma, .inl (cA 0, 40, .inl mt)), (mb, .inl (cA 0, 40, .inl me)), (fo, .inr (3, [.ref fa, .ref fb])), (fa, .inl (cA 0, 40, .inl ff)), (fb, .inl (cA 0, 40, .inl fg))])) 0 0 (wA [(sg, .inr (4, [.ref mo, .ref fo])), (mo, .inr (2, [.ref ma, .ref mb])), (ma, .inl (cA 0, 40, .inl mt)), (mb, .inl (cA 0, 40, .inl me)), (fo, .inr (3, [.ref fa, .ref fb])), (fa, .inl (cA 0, 40, .inl ff)), (fb, .inl (cA 0, 40, .inl fg))]) := by
  refine Met.ofW (cc := cX5_clear) (maxL := 1) (ret := none) (by decide) rfl ?_
  intro p e s m args below meth c s₁ B hml hv
  obtain ⟨rfl, hP, hK, hD0⟩ := hv
  have hx := B.exec
  have hb := B.bytes
  have hr := B.returns
  have hts := atoms_spec (ws := wsX5_clear) B.pre
  have hown : s.vm.findClass RX5 = some m.cls := findClass_of_methodNamed B.named
  have hlocks := B.notSynchronized
  have hin_X5 : ∀ w ∈ wsX50, w ∈ wsX5_clear := fun w h => List.mem_cons_of_mem _ (List.mem_append_left _ (List.mem_append_left _ (List.mem_append_right _ h)))
  have w_RX5_12 := hts (.fieldLink RX5 12 "MixElection$Staging" "moves" "LMixElection$Moves;") (by decide +kernel)
  have w_RX5_21 := hts (.fieldLink RX5 21 "MixElection$Staging" "forged" "LMixElection$Pairs;") (by decide +kernel)
  have hD : va_D (wA [(sg, .inr (4, [.ref mo, .ref fo])), (mo, .inr (2, [.ref ma, .ref mb])), (ma, .inl (cA 0, 40, .inl mt)), (mb, .inl (cA 0, 40, .inl me)), (fo, .inr (3, [.ref fa, .ref fb])), (fa, .inl (cA 0, 40, .inl ff)), (fb, .inl (cA 0, 40, .inl fg))]) [(sg, .inr (4, [.ref mo, .ref fo])), (mo, .inr (2, [.ref ma, .ref mb])), (ma, .inl (cA 0, 40, .inl mt)), (mb, .inl (cA 0, 40, .inl me)), (fo, .inr (3, [.ref fa, .ref fb])), (fa, .inl (cA 0, 40, .inl ff)), (fb, .inl (cA 0, 40, .inl fg))] := ⟨hD0.1, fun k q h => List.mem_map.mpr ⟨q, List.mem_of_getElem? h, rfl⟩⟩
  have hS : va_S (wA [(sg, .inr (4, [.ref mo, .ref fo])), (mo, .inr (2, [.ref ma, .ref mb])), (ma, .inl (cA 0, 40, .inl mt)), (mb, .inl (cA 0, 40, .inl me)), (fo, .inr (3, [.ref fa, .ref fb])), (fa, .inl (cA 0, 40, .inl ff)), (fb, .inl (cA 0, 40, .inl fg))]) s.heap s.heap [] := va_S.rf
  generalize hAe : wA [(sg, .inr (4, [.ref mo, .ref fo])), (mo, .inr (2, [.ref ma, .ref mb])), (ma, .inl (cA 0, 40, .inl mt)), (mb, .inl (cA 0, 40, .inl me)), (fo, .inr (3, [.ref fa, .ref fb])), (fa, .inl (cA 0, 40, .inl ff)), (fb, .inl (cA 0, 40, .inl fg))] = A at hD hS ⊢
  have hP : va_P D vwCl [(sg, .inr (4, [.ref mo, .ref fo])), (mo, .inr (2, [.ref ma, .ref mb])), (ma, .inl (cA 0, 40, .inl mt)), (mb, .inl (cA 0, 40, .inl me)), (fo, .inr (3, [.ref fa, .ref fb])), (fa, .inl (cA 0, 40, .inl ff)), (fb, .inl (cA 0, 40, .inl fg))] s.heap := hP
  have hl := lv_entry ([.ref sg]) (n := 1) (Nat.le_of_ble_eq_true rfl)
  rw [lg_entry_eq]
  generalize (lg_sl ([.ref sg]) ++ List.replicate (1 - (lg_sl ([.ref sg])).length) Slot.unset).toArray = ls at hl ⊢
  have hl : lv_has ls 1 [(0, .ref sg)] := hl
  refine lv_aload_n hx hb dX5_clear_0 rfl (lv_at hl 0 rfl) ?_
  refine va_get (D := D) (ci := 4) (v := .ref mo) (C := RX5) (T := TX5) (N := 2) hx hb hts hin_X5 hown hK hP 0 rfl rfl 0 (by decide) (w_RX5_12) (fun _ h9 => h9) rfl dX5_clear_1 ?_
  refine wq_call0 (wc := [(mo, .inr (2, [.ref ma, .ref mb])), (ma, .inl (cA 0, 40, .inl mt)), (mb, .inl (cA 0, 40, .inl me))]) (w1 := [(mo, .inr (2, [.ref ma, .ref mb])), (ma, .inl (cA 0, 40, .inl (fun _ => -1))), (mb, .inl (cA 0, 40, .inl (fun _ => -1)))]) (ws' := [(sg, .inr (4, [.ref mo, .ref fo])), (mo, .inr (2, [.ref ma, .ref mb])), (ma, .inl (cA 0, 40, .inl (fun _ => -1))), (mb, .inl (cA 0, 40, .inl (fun _ => -1))), (fo, .inr (3, [.ref fa, .ref fb])), (fa, .inl (cA 0, 40, .inl ff)), (fb, .inl (cA 0, 40, .inl fg))]) (wn_V (As := []) (rest := []) (ci := 2) (fs := [.ref ma, .ref mb]) ⟨hx, hb, hml, hown, hts⟩ (c_X2_clear l D cA mo ma mb mt me) rfl (cwV 0 hts gX5_clear_X2_clear rfl rfl rfl (by decide +kernel) ⟨Nat.le_of_ble_eq_true rfl, Nat.le_of_ble_eq_true rfl⟩) hK hP hD [1, 2, 3] rfl (by decide) rfl rfl rfl hl.1 rfl (Nat.le_of_ble_eq_true rfl) dX5_clear_4 ⟨Nat.le_of_ble_eq_true rfl, Nat.le_of_ble_eq_true rfl⟩) hP hD hS [1, 2, 3] [0, 4, 5, 6] rfl rfl rfl rfl rfl rfl (fun H locs hP hD hS => ?_)
  refine lv_aload_n hx hb dX5_clear_7 rfl (lv_at hl 0 rfl) ?_
  refine va_get (D := D) (ci := 4) (v := .ref fo) (C := RX5) (T := TX5) (N := 2) hx hb hts hin_X5 hown hK hP 0 rfl rfl 1 (by decide) (w_RX5_21) (fun _ h9 => h9) rfl dX5_clear_8 ?_
  refine wq_call0 (wc := [(fo, .inr (3, [.ref fa, .ref fb])), (fa, .inl (cA 0, 40, .inl ff)), (fb, .inl (cA 0, 40, .inl fg))]) (w1 := [(fo, .inr (3, [.ref fa, .ref fb])), (fa, .inl (cA 0, 40, .inl (fun _ => -1))), (fb, .inl (cA 0, 40, .inl (fun _ => -1)))]) (ws' := [(sg, .inr (4, [.ref mo, .ref fo])), (mo, .inr (2, [.ref ma, .ref mb])), (ma, .inl (cA 0, 40, .inl (fun _ => -1))), (mb, .inl (cA 0, 40, .inl (fun _ => -1))), (fo, .inr (3, [.ref fa, .ref fb])), (fa, .inl (cA 0, 40, .inl (fun _ => -1))), (fb, .inl (cA 0, 40, .inl (fun _ => -1)))]) (wn_V (As := []) (rest := []) (ci := 3) (fs := [.ref fa, .ref fb]) ⟨hx, hb, hml, hown, hts⟩ (c_X4_clear l D cA fo fa fb ff fg) rfl (cwV 0 hts gX5_clear_X4_clear rfl rfl rfl (by decide +kernel) ⟨Nat.le_of_ble_eq_true rfl, Nat.le_of_ble_eq_true rfl⟩) hK hP hD [4, 5, 6] rfl (by decide) rfl rfl rfl hl.1 rfl (Nat.le_of_ble_eq_true rfl) dX5_clear_11 ⟨Nat.le_of_ble_eq_true rfl, Nat.le_of_ble_eq_true rfl⟩) hP hD hS [4, 5, 6] [0, 1, 2, 3] rfl rfl rfl rfl rfl rfl (fun H locs hP hD hS => ?_)
  have hP9 : va_P D vwCl [(sg, .inr (4, [.ref mo, .ref fo])), (mo, .inr (2, [.ref ma, .ref mb])), (ma, .inl (cA 0, 40, .inl (fun _ => -1))), (mb, .inl (cA 0, 40, .inl (fun _ => -1))), (fo, .inr (3, [.ref fa, .ref fb])), (fa, .inl (cA 0, 40, .inl (fun _ => -1))), (fb, .inl (cA 0, 40, .inl (fun _ => -1)))] H := hP
  exact W.vret hx hb hr (fun t ht hW => ⟨rfl, by rw [ht]; exact hP9, hS.F ht⟩) hS.2.2 dX5_clear_14

set_option maxHeartbeats 4000000 in
set_option maxRecDepth 100000 in
theorem c_X5_move (l : Launch) (D : va_G) (cA : Nat → ClassId) (sg : Nat) (mo : Nat) (ma : Nat) (mb : Nat) (fo : Nat) (mt : Nat → Int32) (me : Nat → Int32) (i : Int32) (v : Int32) (w : Int32) (i0 : Nat) (hi0 : i = nI i0) (hi4 : i0 < 40) : Met l yX5_move wsX5_move ({ frames := 1, cells := 0, slots := 0, locals := 23 }) (wPc vwCl D cA [(sg, .inr (4, [.ref mo, .ref fo])), (mo, .inr (2, [.ref ma, .ref mb])), (ma, .inl (cA 0, 40, .inl mt)), (mb, .inl (cA 0, 40, .inl me))] [.ref sg, .int i, .int v, .int w]) (wq_x vwCl D [(sg, .inr (4, [.ref mo, .ref fo])), (mo, .inr (2, [.ref ma, .ref mb])), (ma, .inl (cA 0, 40, .inl (upd mt i.toNatClampNeg v))), (mb, .inl (cA 0, 40, .inl (upd me i.toNatClampNeg w)))] none (wA [(sg, .inr (4, [.ref mo, .ref fo])), (mo, .inr (2, [.ref ma, .ref mb])), (ma, .inl (cA 0, 40, .inl mt)), (mb, .inl (cA 0, 40, .inl me))])) 0 0 (wA [(sg, .inr (4, [.ref mo, .ref fo])), (mo, .inr (2, [.ref ma, .ref mb])), (ma, .inl (cA 0, 40, .inl mt)), (mb, .inl (cA 0, 40, .inl me))]) := by
  refine Met.ofW (cc := cX5_move) (maxL := 4) (ret := none) (by decide) rfl ?_
  intro p e s m args below meth c s₁ B hml hv
  obtain ⟨rfl, hP, hK, hD0⟩ := hv
  have hx := B.exec
  have hb := B.bytes
  have hr := B.returns
  have hts := atoms_spec (ws := wsX5_move) B.pre
  have hown : s.vm.findClass RX5 = some m.cls := findClass_of_methodNamed B.named
  have hlocks := B.notSynchronized
  have hin_X5 : ∀ w ∈ wsX50, w ∈ wsX5_move := fun w h => List.mem_cons_of_mem _ (List.mem_append_left _ (List.mem_append_right _ h))
  have w_RX5_12 := hts (.fieldLink RX5 12 "MixElection$Staging" "moves" "LMixElection$Moves;") (by decide +kernel)
  have hD : va_D (wA [(sg, .inr (4, [.ref mo, .ref fo])), (mo, .inr (2, [.ref ma, .ref mb])), (ma, .inl (cA 0, 40, .inl mt)), (mb, .inl (cA 0, 40, .inl me))]) [(sg, .inr (4, [.ref mo, .ref fo])), (mo, .inr (2, [.ref ma, .ref mb])), (ma, .inl (cA 0, 40, .inl mt)), (mb, .inl (cA 0, 40, .inl me))] := ⟨hD0.1, fun k q h => List.mem_map.mpr ⟨q, List.mem_of_getElem? h, rfl⟩⟩
  have hS : va_S (wA [(sg, .inr (4, [.ref mo, .ref fo])), (mo, .inr (2, [.ref ma, .ref mb])), (ma, .inl (cA 0, 40, .inl mt)), (mb, .inl (cA 0, 40, .inl me))]) s.heap s.heap [] := va_S.rf
  generalize hAe : wA [(sg, .inr (4, [.ref mo, .ref fo])), (mo, .inr (2, [.ref ma, .ref mb])), (ma, .inl (cA 0, 40, .inl mt)), (mb, .inl (cA 0, 40, .inl me))] = A at hD hS ⊢
  have hP : va_P D vwCl [(sg, .inr (4, [.ref mo, .ref fo])), (mo, .inr (2, [.ref ma, .ref mb])), (ma, .inl (cA 0, 40, .inl mt)), (mb, .inl (cA 0, 40, .inl me))] s.heap := hP
  have hl := lv_entry ([.ref sg, .int i, .int v, .int w]) (n := 4) (Nat.le_of_ble_eq_true rfl)
  rw [lg_entry_eq]
  generalize (lg_sl ([.ref sg, .int i, .int v, .int w]) ++ List.replicate (4 - (lg_sl ([.ref sg, .int i, .int v, .int w])).length) Slot.unset).toArray = ls at hl ⊢
  have hl : lv_has ls 4 [(0, .ref sg), (1, .int i), (2, .int v), (3, .int w)] := hl
  refine lv_aload_n hx hb dX5_move_0 rfl (lv_at hl 0 rfl) ?_
  refine va_get (D := D) (ci := 4) (v := .ref mo) (C := RX5) (T := TX5) (N := 2) hx hb hts hin_X5 hown hK hP 0 rfl rfl 0 (by decide) (w_RX5_12) (fun _ h9 => h9) rfl dX5_move_1 ?_
  refine lv_iload_n hx hb dX5_move_4 rfl (lv_at hl 1 rfl) ?_
  refine lv_iload_n hx hb dX5_move_5 rfl (lv_at hl 2 rfl) ?_
  refine lv_iload_n hx hb dX5_move_6 rfl (lv_at hl 3 rfl) ?_
  refine wq_call0 (wc := [(mo, .inr (2, [.ref ma, .ref mb])), (ma, .inl (cA 0, 40, .inl mt)), (mb, .inl (cA 0, 40, .inl me))]) (w1 := [(mo, .inr (2, [.ref ma, .ref mb])), (ma, .inl (cA 0, 40, .inl (upd mt i.toNatClampNeg v))), (mb, .inl (cA 0, 40, .inl (upd me i.toNatClampNeg w)))]) (ws' := [(sg, .inr (4, [.ref mo, .ref fo])), (mo, .inr (2, [.ref ma, .ref mb])), (ma, .inl (cA 0, 40, .inl (upd mt i.toNatClampNeg v))), (mb, .inl (cA 0, 40, .inl (upd me i.toNatClampNeg w)))]) (wn_V (As := [.int i, .int v, .int w]) (rest := []) (ci := 2) (fs := [.ref ma, .ref mb]) ⟨hx, hb, hml, hown, hts⟩ (c_X2_set l D cA mo ma mb mt me i v w i0 hi0 hi4) rfl (cwV 3 hts gX5_move_X2_set rfl rfl rfl (by decide +kernel) ⟨Nat.le_of_ble_eq_true rfl, Nat.le_of_ble_eq_true rfl⟩) hK hP hD [1, 2, 3] rfl (by decide) rfl rfl rfl hl.1 rfl (Nat.le_of_ble_eq_true rfl) dX5_move_7 ⟨Nat.le_of_ble_eq_true rfl, Nat.le_of_ble_eq_true rfl⟩) hP hD hS [1, 2, 3] [0] rfl rfl rfl rfl rfl rfl (fun H locs hP hD hS => ?_)
  have hP9 : va_P D vwCl [(sg, .inr (4, [.ref mo, .ref fo])), (mo, .inr (2, [.ref ma, .ref mb])), (ma, .inl (cA 0, 40, .inl (upd mt i.toNatClampNeg v))), (mb, .inl (cA 0, 40, .inl (upd me i.toNatClampNeg w)))] H := hP
  exact W.vret hx hb hr (fun t ht hW => ⟨rfl, by rw [ht]; exact hP9, hS.F ht⟩) hS.2.2 dX5_move_10

set_option maxHeartbeats 4000000 in
set_option maxRecDepth 100000 in
theorem c_X5_putForged (l : Launch) (D : va_G) (cA : Nat → ClassId) (sg : Nat) (mo : Nat) (fo : Nat) (fa : Nat) (fb : Nat) (ff : Nat → Int32) (fg : Nat → Int32) (i : Int32) (v : Int32) (w : Int32) (i0 : Nat) (hi0 : i = nI i0) (hi4 : i0 < 40) : Met l yX5_putForged wsX5_putForged ({ frames := 1, cells := 0, slots := 0, locals := 23 }) (wPc vwCl D cA [(sg, .inr (4, [.ref mo, .ref fo])), (fo, .inr (3, [.ref fa, .ref fb])), (fa, .inl (cA 0, 40, .inl ff)), (fb, .inl (cA 0, 40, .inl fg))] [.ref sg, .int i, .int v, .int w]) (wq_x vwCl D [(sg, .inr (4, [.ref mo, .ref fo])), (fo, .inr (3, [.ref fa, .ref fb])), (fa, .inl (cA 0, 40, .inl (upd ff i.toNatClampNeg v))), (fb, .inl (cA 0, 40, .inl (upd fg i.toNatClampNeg w)))] none (wA [(sg, .inr (4, [.ref mo, .ref fo])), (fo, .inr (3, [.ref fa, .ref fb])), (fa, .inl (cA 0, 40, .inl ff)), (fb, .inl (cA 0, 40, .inl fg))])) 0 0 (wA [(sg, .inr (4, [.ref mo, .ref fo])), (fo, .inr (3, [.ref fa, .ref fb])), (fa, .inl (cA 0, 40, .inl ff)), (fb, .inl (cA 0, 40, .inl fg))]) := by
  refine Met.ofW (cc := cX5_putForged) (maxL := 4) (ret := none) (by decide) rfl ?_
  intro p e s m args below meth c s₁ B hml hv
  obtain ⟨rfl, hP, hK, hD0⟩ := hv
  have hx := B.exec
  have hb := B.bytes
  have hr := B.returns
  have hts := atoms_spec (ws := wsX5_putForged) B.pre
  have hown : s.vm.findClass RX5 = some m.cls := findClass_of_methodNamed B.named
  have hlocks := B.notSynchronized
  have hin_X5 : ∀ w ∈ wsX50, w ∈ wsX5_putForged := fun w h => List.mem_cons_of_mem _ (List.mem_append_left _ (List.mem_append_right _ h))
  have w_RX5_21 := hts (.fieldLink RX5 21 "MixElection$Staging" "forged" "LMixElection$Pairs;") (by decide +kernel)
  have hD : va_D (wA [(sg, .inr (4, [.ref mo, .ref fo])), (fo, .inr (3, [.ref fa, .ref fb])), (fa, .inl (cA 0, 40, .inl ff)), (fb, .inl (cA 0, 40, .inl fg))]) [(sg, .inr (4, [.ref mo, .ref fo])), (fo, .inr (3, [.ref fa, .ref fb])), (fa, .inl (cA 0, 40, .inl ff)), (fb, .inl (cA 0, 40, .inl fg))] := ⟨hD0.1, fun k q h => List.mem_map.mpr ⟨q, List.mem_of_getElem? h, rfl⟩⟩
  have hS : va_S (wA [(sg, .inr (4, [.ref mo, .ref fo])), (fo, .inr (3, [.ref fa, .ref fb])), (fa, .inl (cA 0, 40, .inl ff)), (fb, .inl (cA 0, 40, .inl fg))]) s.heap s.heap [] := va_S.rf
  generalize hAe : wA [(sg, .inr (4, [.ref mo, .ref fo])), (fo, .inr (3, [.ref fa, .ref fb])), (fa, .inl (cA 0, 40, .inl ff)), (fb, .inl (cA 0, 40, .inl fg))] = A at hD hS ⊢
  have hP : va_P D vwCl [(sg, .inr (4, [.ref mo, .ref fo])), (fo, .inr (3, [.ref fa, .ref fb])), (fa, .inl (cA 0, 40, .inl ff)), (fb, .inl (cA 0, 40, .inl fg))] s.heap := hP
  have hl := lv_entry ([.ref sg, .int i, .int v, .int w]) (n := 4) (Nat.le_of_ble_eq_true rfl)
  rw [lg_entry_eq]
  generalize (lg_sl ([.ref sg, .int i, .int v, .int w]) ++ List.replicate (4 - (lg_sl ([.ref sg, .int i, .int v, .int w])).length) Slot.unset).toArray = ls at hl ⊢
  have hl : lv_has ls 4 [(0, .ref sg), (1, .int i), (2, .int v), (3, .int w)] := hl
  refine lv_aload_n hx hb dX5_putForged_0 rfl (lv_at hl 0 rfl) ?_
  refine va_get (D := D) (ci := 4) (v := .ref fo) (C := RX5) (T := TX5) (N := 2) hx hb hts hin_X5 hown hK hP 0 rfl rfl 1 (by decide) (w_RX5_21) (fun _ h9 => h9) rfl dX5_putForged_1 ?_
  refine lv_iload_n hx hb dX5_putForged_4 rfl (lv_at hl 1 rfl) ?_
  refine lv_iload_n hx hb dX5_putForged_5 rfl (lv_at hl 2 rfl) ?_
  refine lv_iload_n hx hb dX5_putForged_6 rfl (lv_at hl 3 rfl) ?_
  refine wq_call0 (wc := [(fo, .inr (3, [.ref fa, .ref fb])), (fa, .inl (cA 0, 40, .inl ff)), (fb, .inl (cA 0, 40, .inl fg))]) (w1 := [(fo, .inr (3, [.ref fa, .ref fb])), (fa, .inl (cA 0, 40, .inl (upd ff i.toNatClampNeg v))), (fb, .inl (cA 0, 40, .inl (upd fg i.toNatClampNeg w)))]) (ws' := [(sg, .inr (4, [.ref mo, .ref fo])), (fo, .inr (3, [.ref fa, .ref fb])), (fa, .inl (cA 0, 40, .inl (upd ff i.toNatClampNeg v))), (fb, .inl (cA 0, 40, .inl (upd fg i.toNatClampNeg w)))]) (wn_V (As := [.int i, .int v, .int w]) (rest := []) (ci := 3) (fs := [.ref fa, .ref fb]) ⟨hx, hb, hml, hown, hts⟩ (c_X4_put l D cA fo fa fb ff fg i v w i0 hi0 hi4) rfl (cwV 3 hts gX5_putForged_X4_put rfl rfl rfl (by decide +kernel) ⟨Nat.le_of_ble_eq_true rfl, Nat.le_of_ble_eq_true rfl⟩) hK hP hD [1, 2, 3] rfl (by decide) rfl rfl rfl hl.1 rfl (Nat.le_of_ble_eq_true rfl) dX5_putForged_7 ⟨Nat.le_of_ble_eq_true rfl, Nat.le_of_ble_eq_true rfl⟩) hP hD hS [1, 2, 3] [0] rfl rfl rfl rfl rfl rfl (fun H locs hP hD hS => ?_)
  have hP9 : va_P D vwCl [(sg, .inr (4, [.ref mo, .ref fo])), (fo, .inr (3, [.ref fa, .ref fb])), (fa, .inl (cA 0, 40, .inl (upd ff i.toNatClampNeg v))), (fb, .inl (cA 0, 40, .inl (upd fg i.toNatClampNeg w)))] H := hP
  exact W.vret hx hb hr (fun t ht hW => ⟨rfl, by rw [ht]; exact hP9, hS.F ht⟩) hS.2.2 dX5_putForged_10

set_option maxHeartbeats 4000000 in
set_option maxRecDepth 100000 in
theorem c_X6_areEnough (l : Launch) (D : va_G) (cA : Nat → ClassId) (tt : Nat) (g : Nat) (ts : Int32) (tk : Int32) (tco : Nat) (t4 : Nat) (t5 : Nat) (t6 : Nat) (tv : Int32) : Met l yX6_areEnough wsX6_areEnough ({ frames := 0, cells := 0, slots := 0, locals := 0 }) (rPc vwCl D cA [(tt, .inr (5, [.ref g, .int ts, .int tk, .ref tco, .ref t4, .ref t5, .ref t6, .int tv]))] [.ref tt]) (rq_x (some (.int (bI (tk ≤ tv))))) 0 0 (fun _ => False) := by
  refine Met.ofW (cc := cX6_areEnough) (maxL := 1) (ret := (some .boolean)) (by decide) rfl ?_
  intro p e s m args below meth c s₁ B hml hv
  obtain ⟨rfl, hP, hK⟩ := hv
  have hx := B.exec
  have hb := B.bytes
  have hr := B.returns
  have hts := atoms_spec (ws := wsX6_areEnough) B.pre
  have hown : s.vm.findClass RX6 = some m.cls := findClass_of_methodNamed B.named
  have hlocks := B.notSynchronized
  have hin_X6 : ∀ w ∈ wsX60, w ∈ wsX6_areEnough := fun w h => List.mem_cons_of_mem _ (List.mem_append_right _ h)
  have w_RX6_56 := hts (.fieldLink RX6 56 "MixElection$Trustees" "givers" "I") (by decide +kernel)
  have w_RX6_37 := hts (.fieldLink RX6 37 "MixElection$Trustees" "threshold" "I") (by decide +kernel)
  have hl := lv_entry ([.ref tt]) (n := 1) (Nat.le_of_ble_eq_true rfl)
  rw [lg_entry_eq]
  generalize (lg_sl ([.ref tt]) ++ List.replicate (1 - (lg_sl ([.ref tt])).length) Slot.unset).toArray = ls at hl ⊢
  have hl : lv_has ls 1 [(0, .ref tt)] := hl
  refine lv_aload_n hx hb dX6_areEnough_0 rfl (lv_at hl 0 rfl) ?_
  refine va_get (D := D) (ci := 5) (v := .int tv) (C := RX6) (T := TX6) (N := 8) hx hb hts hin_X6 hown hK hP 0 rfl rfl 7 (by decide) (w_RX6_56) (fun _ h9 => h9) rfl dX6_areEnough_1 ?_
  refine lv_aload_n hx hb dX6_areEnough_4 rfl (lv_at hl 0 rfl) ?_
  refine va_get (D := D) (ci := 5) (v := .int tk) (C := RX6) (T := TX6) (N := 8) hx hb hts hin_X6 hown hK hP 0 rfl rfl 2 (by decide) (w_RX6_37) (fun _ h9 => h9) rfl dX6_areEnough_5 ?_
  refine lv_icmp_lt (tgt := 15) hx hb dX6_areEnough_8 (by decide) (fun c_8 => ?_) (fun c_8 => ?_)
  · skip
    refine lv_iconst (v := 0) hx hb dX6_areEnough_15 (by decide) ?_
    exact W.zret (v := 0) hx hb hr rfl (fun t ht hW => ⟨congrArg (fun z => Outcome.returned (some (Value.int z))) (bI_f (fun h => absurd c_8 (Int32.not_lt.mpr h))), ht⟩) (fun _ h => by cases h) dX6_areEnough_16
  · skip
    refine lv_iconst (v := 1) hx hb dX6_areEnough_11 (by decide) ?_
    refine lv_goto (tgt := 16) hx hb dX6_areEnough_12 (by decide) ?_
    exact W.zret (v := 1) hx hb hr rfl (fun t ht hW => ⟨congrArg (fun z => Outcome.returned (some (Value.int z))) (bI_t (Int32.not_lt.mp c_8)), ht⟩) (fun _ h => by cases h) dX6_areEnough_16

set_option maxHeartbeats 4000000 in
set_option maxRecDepth 100000 in
theorem c_X6_isTrustee (l : Launch) (D : va_G) (cA : Nat → ClassId) (tt : Nat) (g : Nat) (ts : Int32) (tk : Int32) (tco : Nat) (t4 : Nat) (t5 : Nat) (t6 : Nat) (tv : Int32) (j : Int32) : Met l yX6_isTrustee wsX6_isTrustee ({ frames := 0, cells := 0, slots := 0, locals := 0 }) (rPc vwCl D cA [(tt, .inr (5, [.ref g, .int ts, .int tk, .ref tco, .ref t4, .ref t5, .ref t6, .int tv]))] [.ref tt, .int j]) (rq_x (some (.int (bI (1 ≤ j ∧ j ≤ ts))))) 0 0 (fun _ => False) := by
  refine Met.ofW (cc := cX6_isTrustee) (maxL := 2) (ret := (some .boolean)) (by decide) rfl ?_
  intro p e s m args below meth c s₁ B hml hv
  obtain ⟨rfl, hP, hK⟩ := hv
  have hx := B.exec
  have hb := B.bytes
  have hr := B.returns
  have hts := atoms_spec (ws := wsX6_isTrustee) B.pre
  have hown : s.vm.findClass RX6 = some m.cls := findClass_of_methodNamed B.named
  have hlocks := B.notSynchronized
  have hin_X6 : ∀ w ∈ wsX60, w ∈ wsX6_isTrustee := fun w h => List.mem_cons_of_mem _ (List.mem_append_right _ h)
  have w_RX6_33 := hts (.fieldLink RX6 33 "MixElection$Trustees" "size" "I") (by decide +kernel)
  have hl := lv_entry ([.ref tt, .int j]) (n := 2) (Nat.le_of_ble_eq_true rfl)
  rw [lg_entry_eq]
  generalize (lg_sl ([.ref tt, .int j]) ++ List.replicate (2 - (lg_sl ([.ref tt, .int j])).length) Slot.unset).toArray = ls at hl ⊢
  have hl : lv_has ls 2 [(0, .ref tt), (1, .int j)] := hl
  refine lv_iload_n hx hb dX6_isTrustee_0 rfl (lv_at hl 1 rfl) ?_
  refine lv_iconst (v := 1) hx hb dX6_isTrustee_1 (by decide) ?_
  refine lv_icmp_lt (tgt := 17) hx hb dX6_isTrustee_2 (by decide) (fun c_2 => ?_) (fun c_2 => ?_)
  · skip
    refine lv_iconst (v := 0) hx hb dX6_isTrustee_17 (by decide) ?_
    exact W.zret (v := 0) hx hb hr rfl (fun t ht hW => ⟨congrArg (fun z => Outcome.returned (some (Value.int z))) (bI_f (fun h => absurd c_2 (Int32.not_lt.mpr h.1))), ht⟩) (fun _ h => by cases h) dX6_isTrustee_18
  · skip
    refine lv_iload_n hx hb dX6_isTrustee_5 rfl (lv_at hl 1 rfl) ?_
    refine lv_aload_n hx hb dX6_isTrustee_6 rfl (lv_at hl 0 rfl) ?_
    refine va_get (D := D) (ci := 5) (v := .int ts) (C := RX6) (T := TX6) (N := 8) hx hb hts hin_X6 hown hK hP 0 rfl rfl 1 (by decide) (w_RX6_33) (fun _ h9 => h9) rfl dX6_isTrustee_7 ?_
    refine lv_icmp_gt (tgt := 17) hx hb dX6_isTrustee_10 (by decide) (fun c_10 => ?_) (fun c_10 => ?_)
    · skip
      refine lv_iconst (v := 0) hx hb dX6_isTrustee_17 (by decide) ?_
      exact W.zret (v := 0) hx hb hr rfl (fun t ht hW => ⟨congrArg (fun z => Outcome.returned (some (Value.int z))) (bI_f (fun h => absurd c_10 (Int32.not_lt.mpr h.2))), ht⟩) (fun _ h => by cases h) dX6_isTrustee_18
    · skip
      refine lv_iconst (v := 1) hx hb dX6_isTrustee_13 (by decide) ?_
      refine lv_goto (tgt := 18) hx hb dX6_isTrustee_14 (by decide) ?_
      exact W.zret (v := 1) hx hb hr rfl (fun t ht hW => ⟨congrArg (fun z => Outcome.returned (some (Value.int z))) (bI_t ⟨Int32.not_lt.mp c_2, Int32.not_lt.mp c_10⟩), ht⟩) (fun _ h => by cases h) dX6_isTrustee_18

set_option maxHeartbeats 4000000 in
set_option maxRecDepth 100000 in
theorem c_X7_isBallot (l : Launch) (D : va_G) (cA : Nat → ClassId) (h0 : Nat) (x0 : Nat) (x1 : Nat) (x2 : Nat) (x3 : Int32) (x4 : Nat) (x5 : Nat) (x6 : Nat) (x7 : Nat) (x8 : Nat) (x9 : Nat) (x10 : Nat) (x11 : Nat) (x12 : Int32) (x13 : Int32) (x14 : Int32) (x15 : Int32) (x16 : Int32) (x17 : Int32) (x18 : Int32) (x19 : Int32) (i : Int32) : Met l yX7_isBallot wsX7_isBallot ({ frames := 0, cells := 0, slots := 0, locals := 0 }) (rPc vwCl D cA [(h0, .inr (6, [.ref x0, .ref x1, .ref x2, .int x3, .ref x4, .ref x5, .ref x6, .ref x7, .ref x8, .ref x9, .ref x10, .ref x11, .int x12, .int x13, .int x14, .int x15, .int x16, .int x17, .int x18, .int x19]))] [.ref h0, .int i]) (rq_x (some (.int (bI (0 ≤ i ∧ i < x14))))) 0 0 (fun _ => False) := by
  refine Met.ofW (cc := cX7_isBallot) (maxL := 2) (ret := (some .boolean)) (by decide) rfl ?_
  intro p e s m args below meth c s₁ B hml hv
  obtain ⟨rfl, hP, hK⟩ := hv
  have hx := B.exec
  have hb := B.bytes
  have hr := B.returns
  have hts := atoms_spec (ws := wsX7_isBallot) B.pre
  have hown : s.vm.findClass RX7 = some m.cls := findClass_of_methodNamed B.named
  have hlocks := B.notSynchronized
  have hin_X7 : ∀ w ∈ wsX70, w ∈ wsX7_isBallot := fun w h => List.mem_cons_of_mem _ (List.mem_append_right _ h)
  have w_RX7_158 := hts (.fieldLink RX7 158 "MixElection" "ballots" "I") (by decide +kernel)
  have hl := lv_entry ([.ref h0, .int i]) (n := 2) (Nat.le_of_ble_eq_true rfl)
  rw [lg_entry_eq]
  generalize (lg_sl ([.ref h0, .int i]) ++ List.replicate (2 - (lg_sl ([.ref h0, .int i])).length) Slot.unset).toArray = ls at hl ⊢
  have hl : lv_has ls 2 [(0, .ref h0), (1, .int i)] := hl
  refine lv_iload_n hx hb dX7_isBallot_0 rfl (lv_at hl 1 rfl) ?_
  refine lv_if_lt (tgt := 16) hx hb dX7_isBallot_1 (by decide) (fun c_1 => ?_) (fun c_1 => ?_)
  · skip
    refine lv_iconst (v := 0) hx hb dX7_isBallot_16 (by decide) ?_
    exact W.zret (v := 0) hx hb hr rfl (fun t ht hW => ⟨congrArg (fun z => Outcome.returned (some (Value.int z))) (bI_f (fun h => absurd c_1 (Int32.not_lt.mpr h.1))), ht⟩) (fun _ h => by cases h) dX7_isBallot_17
  · skip
    refine lv_iload_n hx hb dX7_isBallot_4 rfl (lv_at hl 1 rfl) ?_
    refine lv_aload_n hx hb dX7_isBallot_5 rfl (lv_at hl 0 rfl) ?_
    refine va_get (D := D) (ci := 6) (v := .int x14) (C := RX7) (T := TX7) (N := 20) hx hb hts hin_X7 hown hK hP 0 rfl rfl 14 (by decide) (w_RX7_158) (fun _ h9 => h9) rfl dX7_isBallot_6 ?_
    refine lv_icmp_ge (tgt := 16) hx hb dX7_isBallot_9 (by decide) (fun c_9 => ?_) (fun c_9 => ?_)
    · skip
      refine lv_iconst (v := 0) hx hb dX7_isBallot_16 (by decide) ?_
      exact W.zret (v := 0) hx hb hr rfl (fun t ht hW => ⟨congrArg (fun z => Outcome.returned (some (Value.int z))) (bI_f (fun h => absurd h.2 (Int32.not_lt.mpr c_9))), ht⟩) (fun _ h => by cases h) dX7_isBallot_17
    · skip
      refine lv_iconst (v := 1) hx hb dX7_isBallot_12 (by decide) ?_
      refine lv_goto (tgt := 17) hx hb dX7_isBallot_13 (by decide) ?_
      exact W.zret (v := 1) hx hb hr rfl (fun t ht hW => ⟨congrArg (fun z => Outcome.returned (some (Value.int z))) (bI_t ⟨Int32.not_lt.mp c_1, Int32.not_le.mp c_9⟩), ht⟩) (fun _ h => by cases h) dX7_isBallot_17

set_option maxHeartbeats 4000000 in
set_option maxRecDepth 100000 in
theorem c_X7_isCandidate (l : Launch) (D : va_G) (cA : Nat → ClassId) (h0 : Nat) (x0 : Nat) (x1 : Nat) (x2 : Nat) (x3 : Int32) (x4 : Nat) (x5 : Nat) (x6 : Nat) (x7 : Nat) (x8 : Nat) (x9 : Nat) (x10 : Nat) (x11 : Nat) (x12 : Int32) (x13 : Int32) (x14 : Int32) (x15 : Int32) (x16 : Int32) (x17 : Int32) (x18 : Int32) (x19 : Int32) (i : Int32) : Met l yX7_isCandidate wsX7_isCandidate ({ frames := 0, cells := 0, slots := 0, locals := 0 }) (rPc vwCl D cA [(h0, .inr (6, [.ref x0, .ref x1, .ref x2, .int x3, .ref x4, .ref x5, .ref x6, .ref x7, .ref x8, .ref x9, .ref x10, .ref x11, .int x12, .int x13, .int x14, .int x15, .int x16, .int x17, .int x18, .int x19]))] [.ref h0, .int i]) (rq_x (some (.int (bI (0 ≤ i ∧ i < x3))))) 0 0 (fun _ => False) := by
  refine Met.ofW (cc := cX7_isCandidate) (maxL := 2) (ret := (some .boolean)) (by decide) rfl ?_
  intro p e s m args below meth c s₁ B hml hv
  obtain ⟨rfl, hP, hK⟩ := hv
  have hx := B.exec
  have hb := B.bytes
  have hr := B.returns
  have hts := atoms_spec (ws := wsX7_isCandidate) B.pre
  have hown : s.vm.findClass RX7 = some m.cls := findClass_of_methodNamed B.named
  have hlocks := B.notSynchronized
  have hin_X7 : ∀ w ∈ wsX70, w ∈ wsX7_isCandidate := fun w h => List.mem_cons_of_mem _ (List.mem_append_right _ h)
  have w_RX7_39 := hts (.fieldLink RX7 39 "MixElection" "candidates" "I") (by decide +kernel)
  have hl := lv_entry ([.ref h0, .int i]) (n := 2) (Nat.le_of_ble_eq_true rfl)
  rw [lg_entry_eq]
  generalize (lg_sl ([.ref h0, .int i]) ++ List.replicate (2 - (lg_sl ([.ref h0, .int i])).length) Slot.unset).toArray = ls at hl ⊢
  have hl : lv_has ls 2 [(0, .ref h0), (1, .int i)] := hl
  refine lv_iload_n hx hb dX7_isCandidate_0 rfl (lv_at hl 1 rfl) ?_
  refine lv_if_lt (tgt := 16) hx hb dX7_isCandidate_1 (by decide) (fun c_1 => ?_) (fun c_1 => ?_)
  · skip
    refine lv_iconst (v := 0) hx hb dX7_isCandidate_16 (by decide) ?_
    exact W.zret (v := 0) hx hb hr rfl (fun t ht hW => ⟨congrArg (fun z => Outcome.returned (some (Value.int z))) (bI_f (fun h => absurd c_1 (Int32.not_lt.mpr h.1))), ht⟩) (fun _ h => by cases h) dX7_isCandidate_17
  · skip
    refine lv_iload_n hx hb dX7_isCandidate_4 rfl (lv_at hl 1 rfl) ?_
    refine lv_aload_n hx hb dX7_isCandidate_5 rfl (lv_at hl 0 rfl) ?_
    refine va_get (D := D) (ci := 6) (v := .int x3) (C := RX7) (T := TX7) (N := 20) hx hb hts hin_X7 hown hK hP 0 rfl rfl 3 (by decide) (w_RX7_39) (fun _ h9 => h9) rfl dX7_isCandidate_6 ?_
    refine lv_icmp_ge (tgt := 16) hx hb dX7_isCandidate_9 (by decide) (fun c_9 => ?_) (fun c_9 => ?_)
    · skip
      refine lv_iconst (v := 0) hx hb dX7_isCandidate_16 (by decide) ?_
      exact W.zret (v := 0) hx hb hr rfl (fun t ht hW => ⟨congrArg (fun z => Outcome.returned (some (Value.int z))) (bI_f (fun h => absurd h.2 (Int32.not_lt.mpr c_9))), ht⟩) (fun _ h => by cases h) dX7_isCandidate_17
    · skip
      refine lv_iconst (v := 1) hx hb dX7_isCandidate_12 (by decide) ?_
      refine lv_goto (tgt := 17) hx hb dX7_isCandidate_13 (by decide) ?_
      exact W.zret (v := 1) hx hb hr rfl (fun t ht hW => ⟨congrArg (fun z => Outcome.returned (some (Value.int z))) (bI_t ⟨Int32.not_lt.mp c_1, Int32.not_le.mp c_9⟩), ht⟩) (fun _ h => by cases h) dX7_isCandidate_17

set_option maxHeartbeats 4000000 in
set_option maxRecDepth 100000 in
theorem c_X7_post (l : Launch) (D : va_G) (cA : Nat → ClassId) (h0 : Nat) (x0 : Nat) (x1 : Nat) (x2 : Nat) (x3 : Int32) (x4 : Nat) (x5 : Nat) (x6 : Nat) (x7 : Nat) (x8 : Nat) (x9 : Nat) (x10 : Nat) (x11 : Nat) (x12 : Int32) (x13 : Int32) (x14 : Int32) (x15 : Int32) (x16 : Int32) (x17 : Int32) (x18 : Int32) (x19 : Int32) (la : Nat) (lb_ : Nat) (lf : Nat → Int32) (lg : Nat → Int32) (v : Int32) (va : Int32) (vb : Int32) (v0 : Nat) (ka : Nat) (xa : Nat) (ya : Nat) (za : Nat) (ca : Nat) (n : Int32) (kf : Nat → Int32) (xf : Nat → Int32) (yf : Nat → Int32) (zf : Nat → Int64) (cf : Nat → Int64) (n0 : Nat) (hv0 : v = nI v0) (hv4 : v0 < 40) (hbn : n = nI n0) (h6 : n0 < 600) : Met l yX7_post wsX7_post ({ frames := 3, cells := 0, slots := 0, locals := 69 }) (wPc vwCl D cA [(h0, .inr (6, [.ref x0, .ref x1, .ref x2, .int x3, .ref x4, .ref x5, .ref x6, .ref x7, .ref x8, .ref x9, .ref x10, .ref x11, .int x12, .int x13, .int x14, .int x15, .int x16, .int x17, .int x18, .int x19])), (x4, .inr (3, [.ref la, .ref lb_])), (la, .inl (cA 0, 40, .inl lf)), (lb_, .inl (cA 0, 40, .inl lg)), (x2, .inr (0, [.ref ka, .ref xa, .ref ya, .ref za, .ref ca, .int n])), (ka, .inl (cA 0, 600, .inl kf)), (xa, .inl (cA 0, 600, .inl xf)), (ya, .inl (cA 0, 600, .inl yf)), (za, .inl (cA 2, 600, .inr (.inl zf))), (ca, .inl (cA 2, 600, .inr (.inl cf)))] [.ref h0, .int v, .int va, .int vb]) (wq_x vwCl D [(h0, .inr (6, [.ref x0, .ref x1, .ref x2, .int x3, .ref x4, .ref x5, .ref x6, .ref x7, .ref x8, .ref x9, .ref x10, .ref x11, .int x12, .int x13, .int x14, .int x15, .int x16, .int x17, .int x18, .int x19])), (x4, .inr (3, [.ref la, .ref lb_])), (la, .inl (cA 0, 40, .inl (upd lf v.toNatClampNeg va))), (lb_, .inl (cA 0, 40, .inl (upd lg v.toNatClampNeg vb))), (x2, .inr (0, [.ref ka, .ref xa, .ref ya, .ref za, .ref ca, .int (n + 1)])), (ka, .inl (cA 0, 600, .inl (upd kf n.toNatClampNeg 2))), (xa, .inl (cA 0, 600, .inl (upd xf n.toNatClampNeg v))), (ya, .inl (cA 0, 600, .inl (upd yf n.toNatClampNeg va))), (za, .inl (cA 2, 600, .inr (.inl (vp_updL zf n.toNatClampNeg vb.toInt64)))), (ca, .inl (cA 2, 600, .inr (.inl (vp_updL cf n.toNatClampNeg (dg (dg (dg (dg (cho cf n (n - 1)) ((2 : Int32).toInt64)) (v.toInt64)) (va.toInt64)) vb.toInt64)))))] (some (.long (dg (dg (dg (dg (cho cf n (n - 1)) ((2 : Int32).toInt64)) (v.toInt64)) (va.toInt64)) vb.toInt64))) (wA [(h0, .inr (6, [.ref x0, .ref x1, .ref x2, .int x3, .ref x4, .ref x5, .ref x6, .ref x7, .ref x8, .ref x9, .ref x10, .ref x11, .int x12, .int x13, .int x14, .int x15, .int x16, .int x17, .int x18, .int x19])), (x4, .inr (3, [.ref la, .ref lb_])), (la, .inl (cA 0, 40, .inl lf)), (lb_, .inl (cA 0, 40, .inl lg)), (x2, .inr (0, [.ref ka, .ref xa, .ref ya, .ref za, .ref ca, .int n])), (ka, .inl (cA 0, 600, .inl kf)), (xa, .inl (cA 0, 600, .inl xf)), (ya, .inl (cA 0, 600, .inl yf)), (za, .inl (cA 2, 600, .inr (.inl zf))), (ca, .inl (cA 2, 600, .inr (.inl cf)))])) 0 0 (wA [(h0, .inr (6, [.ref x0, .ref x1, .ref x2, .int x3, .ref x4, .ref x5, .ref x6, .ref x7, .ref x8, .ref x9, .ref x10, .ref x11, .int x12, .int x13, .int x14, .int x15, .int x16, .int x17, .int x18, .int x19])), (x4, .inr (3, [.ref la, .ref lb_])), (la, .inl (cA 0, 40, .inl lf)), (lb_, .inl (cA 0, 40, .inl lg)), (x2, .inr (0, [.ref ka, .ref xa, .ref ya, .ref za, .ref ca, .int n])), (ka, .inl (cA 0, 600, .inl kf)), (xa, .inl (cA 0, 600, .inl xf)), (ya, .inl (cA 0, 600, .inl yf)), (za, .inl (cA 2, 600, .inr (.inl zf))), (ca, .inl (cA 2, 600, .inr (.inl cf)))]) := by
  refine Met.ofW (cc := cX7_post) (maxL := 4) (ret := (some .long)) (by decide) rfl ?_
  intro p e s m args below meth c s₁ B hml hv
  obtain ⟨rfl, hP, hK, hD0⟩ := hv
  have hx := B.exec
  have hb := B.bytes
  have hr := B.returns
  have hts := atoms_spec (ws := wsX7_post) B.pre
  have hown : s.vm.findClass RX7 = some m.cls := findClass_of_methodNamed B.named
  have hlocks := B.notSynchronized
  have hin_X7 : ∀ w ∈ wsX70, w ∈ wsX7_post := fun w h => List.mem_cons_of_mem _ (List.mem_append_left _ (List.mem_append_left _ (List.mem_append_right _ h)))
  have w_RX7_62 := hts (.fieldLink RX7 62 "MixElection" "lastBallots" "LMixElection$Pairs;") (by decide +kernel)
  have w_RX7_55 := hts (.fieldLink RX7 55 "MixElection" "board" "LMixElection$Board;") (by decide +kernel)
  have hD : va_D (wA [(h0, .inr (6, [.ref x0, .ref x1, .ref x2, .int x3, .ref x4, .ref x5, .ref x6, .ref x7, .ref x8, .ref x9, .ref x10, .ref x11, .int x12, .int x13, .int x14, .int x15, .int x16, .int x17, .int x18, .int x19])), (x4, .inr (3, [.ref la, .ref lb_])), (la, .inl (cA 0, 40, .inl lf)), (lb_, .inl (cA 0, 40, .inl lg)), (x2, .inr (0, [.ref ka, .ref xa, .ref ya, .ref za, .ref ca, .int n])), (ka, .inl (cA 0, 600, .inl kf)), (xa, .inl (cA 0, 600, .inl xf)), (ya, .inl (cA 0, 600, .inl yf)), (za, .inl (cA 2, 600, .inr (.inl zf))), (ca, .inl (cA 2, 600, .inr (.inl cf)))]) [(h0, .inr (6, [.ref x0, .ref x1, .ref x2, .int x3, .ref x4, .ref x5, .ref x6, .ref x7, .ref x8, .ref x9, .ref x10, .ref x11, .int x12, .int x13, .int x14, .int x15, .int x16, .int x17, .int x18, .int x19])), (x4, .inr (3, [.ref la, .ref lb_])), (la, .inl (cA 0, 40, .inl lf)), (lb_, .inl (cA 0, 40, .inl lg)), (x2, .inr (0, [.ref ka, .ref xa, .ref ya, .ref za, .ref ca, .int n])), (ka, .inl (cA 0, 600, .inl kf)), (xa, .inl (cA 0, 600, .inl xf)), (ya, .inl (cA 0, 600, .inl yf)), (za, .inl (cA 2, 600, .inr (.inl zf))), (ca, .inl (cA 2, 600, .inr (.inl cf)))] := ⟨hD0.1, fun k q h => List.mem_map.mpr ⟨q, List.mem_of_getElem? h, rfl⟩⟩
  have hS : va_S (wA [(h0, .inr (6, [.ref x0, .ref x1, .ref x2, .int x3, .ref x4, .ref x5, .ref x6, .ref x7, .ref x8, .ref x9, .ref x10, .ref x11, .int x12, .int x13, .int x14, .int x15, .int x16, .int x17, .int x18, .int x19])), (x4, .inr (3, [.ref la, .ref lb_])), (la, .inl (cA 0, 40, .inl lf)), (lb_, .inl (cA 0, 40, .inl lg)), (x2, .inr (0, [.ref ka, .ref xa, .ref ya, .ref za, .ref ca, .int n])), (ka, .inl (cA 0, 600, .inl kf)), (xa, .inl (cA 0, 600, .inl xf)), (ya, .inl (cA 0, 600, .inl yf)), (za, .inl (cA 2, 600, .inr (.inl zf))), (ca, .inl (cA 2, 600, .inr (.inl cf)))]) s.heap s.heap [] := va_S.rf
  generalize hAe : wA [(h0, .inr (6, [.ref x0, .ref x1, .ref x2, .int x3, .ref x4, .ref x5, .ref x6, .ref x7, .ref x8, .ref x9, .ref x10, .ref x11, .int x12, .int x13, .int x14, .int x15, .int x16, .int x17, .int x18, .int x19])), (x4, .inr (3, [.ref la, .ref lb_])), (la, .inl (cA 0, 40, .inl lf)), (lb_, .inl (cA 0, 40, .inl lg)), (x2, .inr (0, [.ref ka, .ref xa, .ref ya, .ref za, .ref ca, .int n])), (ka, .inl (cA 0, 600, .inl kf)), (xa, .inl (cA 0, 600, .inl xf)), (ya, .inl (cA 0, 600, .inl yf)), (za, .inl (cA 2, 600, .inr (.inl zf))), (ca, .inl (cA 2, 600, .inr (.inl cf)))] = A at hD hS ⊢
  have hP : va_P D vwCl [(h0, .inr (6, [.ref x0, .ref x1, .ref x2, .int x3, .ref x4, .ref x5, .ref x6, .ref x7, .ref x8, .ref x9, .ref x10, .ref x11, .int x12, .int x13, .int x14, .int x15, .int x16, .int x17, .int x18, .int x19])), (x4, .inr (3, [.ref la, .ref lb_])), (la, .inl (cA 0, 40, .inl lf)), (lb_, .inl (cA 0, 40, .inl lg)), (x2, .inr (0, [.ref ka, .ref xa, .ref ya, .ref za, .ref ca, .int n])), (ka, .inl (cA 0, 600, .inl kf)), (xa, .inl (cA 0, 600, .inl xf)), (ya, .inl (cA 0, 600, .inl yf)), (za, .inl (cA 2, 600, .inr (.inl zf))), (ca, .inl (cA 2, 600, .inr (.inl cf)))] s.heap := hP
  have hl := lv_entry ([.ref h0, .int v, .int va, .int vb]) (n := 4) (Nat.le_of_ble_eq_true rfl)
  rw [lg_entry_eq]
  generalize (lg_sl ([.ref h0, .int v, .int va, .int vb]) ++ List.replicate (4 - (lg_sl ([.ref h0, .int v, .int va, .int vb])).length) Slot.unset).toArray = ls at hl ⊢
  have hl : lv_has ls 4 [(0, .ref h0), (1, .int v), (2, .int va), (3, .int vb)] := hl
  refine lv_aload_n hx hb dX7_post_0 rfl (lv_at hl 0 rfl) ?_
  refine va_get (D := D) (ci := 6) (v := .ref x4) (C := RX7) (T := TX7) (N := 20) hx hb hts hin_X7 hown hK hP 0 rfl rfl 4 (by decide) (w_RX7_62) (fun _ h9 => h9) rfl dX7_post_1 ?_
  refine lv_iload_n hx hb dX7_post_4 rfl (lv_at hl 1 rfl) ?_
  refine lv_iload_n hx hb dX7_post_5 rfl (lv_at hl 2 rfl) ?_
  refine lv_iload_n hx hb dX7_post_6 rfl (lv_at hl 3 rfl) ?_
  refine wq_call0 (wc := [(x4, .inr (3, [.ref la, .ref lb_])), (la, .inl (cA 0, 40, .inl lf)), (lb_, .inl (cA 0, 40, .inl lg))]) (w1 := [(x4, .inr (3, [.ref la, .ref lb_])), (la, .inl (cA 0, 40, .inl (upd lf v.toNatClampNeg va))), (lb_, .inl (cA 0, 40, .inl (upd lg v.toNatClampNeg vb)))]) (ws' := [(h0, .inr (6, [.ref x0, .ref x1, .ref x2, .int x3, .ref x4, .ref x5, .ref x6, .ref x7, .ref x8, .ref x9, .ref x10, .ref x11, .int x12, .int x13, .int x14, .int x15, .int x16, .int x17, .int x18, .int x19])), (x4, .inr (3, [.ref la, .ref lb_])), (la, .inl (cA 0, 40, .inl (upd lf v.toNatClampNeg va))), (lb_, .inl (cA 0, 40, .inl (upd lg v.toNatClampNeg vb))), (x2, .inr (0, [.ref ka, .ref xa, .ref ya, .ref za, .ref ca, .int n])), (ka, .inl (cA 0, 600, .inl kf)), (xa, .inl (cA 0, 600, .inl xf)), (ya, .inl (cA 0, 600, .inl yf)), (za, .inl (cA 2, 600, .inr (.inl zf))), (ca, .inl (cA 2, 600, .inr (.inl cf)))]) (wn_V (As := [.int v, .int va, .int vb]) (rest := []) (ci := 3) (fs := [.ref la, .ref lb_]) ⟨hx, hb, hml, hown, hts⟩ (c_X4_put l D cA x4 la lb_ lf lg v va vb v0 hv0 hv4) rfl (cwV 3 hts gX7_post_X4_put rfl rfl rfl (by decide +kernel) ⟨Nat.le_of_ble_eq_true rfl, Nat.le_of_ble_eq_true rfl⟩) hK hP hD [1, 2, 3] rfl (by decide) rfl rfl rfl hl.1 rfl (Nat.le_of_ble_eq_true rfl) dX7_post_7 ⟨Nat.le_of_ble_eq_true rfl, Nat.le_of_ble_eq_true rfl⟩) hP hD hS [1, 2, 3] [0, 4, 5, 6, 7, 8, 9] rfl rfl rfl rfl rfl rfl (fun H locs hP hD hS => ?_)
  refine lv_aload_n hx hb dX7_post_10 rfl (lv_at hl 0 rfl) ?_
  refine va_get (D := D) (ci := 6) (v := .ref x2) (C := RX7) (T := TX7) (N := 20) hx hb hts hin_X7 hown hK hP 0 rfl rfl 2 (by decide) (w_RX7_55) (fun _ h9 => h9) rfl dX7_post_11 ?_
  refine lv_iconst (v := 2) hx hb dX7_post_14 (by decide) ?_
  refine lv_iload_n hx hb dX7_post_15 rfl (lv_at hl 1 rfl) ?_
  refine lv_iload_n hx hb dX7_post_16 rfl (lv_at hl 2 rfl) ?_
  refine lv_iload_n hx hb dX7_post_17 rfl (lv_at hl 3 rfl) ?_
  refine lv_i2l hx hb dX7_post_18 rfl ?_
  refine wq_call1 (v := .long (dg (dg (dg (dg (cho cf n (n - 1)) ((2 : Int32).toInt64)) (v.toInt64)) (va.toInt64)) vb.toInt64)) (wc := [(x2, .inr (0, [.ref ka, .ref xa, .ref ya, .ref za, .ref ca, .int n])), (ka, .inl (cA 0, 600, .inl kf)), (xa, .inl (cA 0, 600, .inl xf)), (ya, .inl (cA 0, 600, .inl yf)), (za, .inl (cA 2, 600, .inr (.inl zf))), (ca, .inl (cA 2, 600, .inr (.inl cf)))]) (w1 := [(x2, .inr (0, [.ref ka, .ref xa, .ref ya, .ref za, .ref ca, .int (n + 1)])), (ka, .inl (cA 0, 600, .inl (upd kf n.toNatClampNeg 2))), (xa, .inl (cA 0, 600, .inl (upd xf n.toNatClampNeg v))), (ya, .inl (cA 0, 600, .inl (upd yf n.toNatClampNeg va))), (za, .inl (cA 2, 600, .inr (.inl (vp_updL zf n.toNatClampNeg vb.toInt64)))), (ca, .inl (cA 2, 600, .inr (.inl (vp_updL cf n.toNatClampNeg (dg (dg (dg (dg (cho cf n (n - 1)) ((2 : Int32).toInt64)) (v.toInt64)) (va.toInt64)) vb.toInt64)))))]) (ws' := [(h0, .inr (6, [.ref x0, .ref x1, .ref x2, .int x3, .ref x4, .ref x5, .ref x6, .ref x7, .ref x8, .ref x9, .ref x10, .ref x11, .int x12, .int x13, .int x14, .int x15, .int x16, .int x17, .int x18, .int x19])), (x4, .inr (3, [.ref la, .ref lb_])), (la, .inl (cA 0, 40, .inl (upd lf v.toNatClampNeg va))), (lb_, .inl (cA 0, 40, .inl (upd lg v.toNatClampNeg vb))), (x2, .inr (0, [.ref ka, .ref xa, .ref ya, .ref za, .ref ca, .int (n + 1)])), (ka, .inl (cA 0, 600, .inl (upd kf n.toNatClampNeg 2))), (xa, .inl (cA 0, 600, .inl (upd xf n.toNatClampNeg v))), (ya, .inl (cA 0, 600, .inl (upd yf n.toNatClampNeg va))), (za, .inl (cA 2, 600, .inr (.inl (vp_updL zf n.toNatClampNeg vb.toInt64)))), (ca, .inl (cA 2, 600, .inr (.inl (vp_updL cf n.toNatClampNeg (dg (dg (dg (dg (cho cf n (n - 1)) ((2 : Int32).toInt64)) (v.toInt64)) (va.toInt64)) vb.toInt64)))))]) (wn_V (As := [.int 2, .int v, .int va, .long vb.toInt64]) (rest := []) (ci := 0) (fs := [.ref ka, .ref xa, .ref ya, .ref za, .ref ca, .int n]) ⟨hx, hb, hml, hown, hts⟩ (c_X0_add l D cA x2 ka xa ya za ca n kf xf yf zf cf 2 v va vb.toInt64 n0 hbn h6) rfl (cwV 4 hts gX7_post_X0_add rfl rfl rfl (by decide +kernel) ⟨Nat.le_of_ble_eq_true rfl, Nat.le_of_ble_eq_true rfl⟩) hK hP hD [4, 5, 6, 7, 8, 9] rfl (by decide) rfl rfl rfl hl.1 rfl (Nat.le_of_ble_eq_true rfl) dX7_post_19 ⟨Nat.le_of_ble_eq_true rfl, Nat.le_of_ble_eq_true rfl⟩) hP hD hS [4, 5, 6, 7, 8, 9] [0, 1, 2, 3] rfl rfl rfl rfl rfl rfl (fun H locs hP hD hS => ?_)
  have hP9 : va_P D vwCl [(h0, .inr (6, [.ref x0, .ref x1, .ref x2, .int x3, .ref x4, .ref x5, .ref x6, .ref x7, .ref x8, .ref x9, .ref x10, .ref x11, .int x12, .int x13, .int x14, .int x15, .int x16, .int x17, .int x18, .int x19])), (x4, .inr (3, [.ref la, .ref lb_])), (la, .inl (cA 0, 40, .inl (upd lf v.toNatClampNeg va))), (lb_, .inl (cA 0, 40, .inl (upd lg v.toNatClampNeg vb))), (x2, .inr (0, [.ref ka, .ref xa, .ref ya, .ref za, .ref ca, .int (n + 1)])), (ka, .inl (cA 0, 600, .inl (upd kf n.toNatClampNeg 2))), (xa, .inl (cA 0, 600, .inl (upd xf n.toNatClampNeg v))), (ya, .inl (cA 0, 600, .inl (upd yf n.toNatClampNeg va))), (za, .inl (cA 2, 600, .inr (.inl (vp_updL zf n.toNatClampNeg vb.toInt64)))), (ca, .inl (cA 2, 600, .inr (.inl (vp_updL cf n.toNatClampNeg (dg (dg (dg (dg (cho cf n (n - 1)) ((2 : Int32).toInt64)) (v.toInt64)) (va.toInt64)) vb.toInt64)))))] H := hP
  exact W.lret (v := (dg (dg (dg (dg (cho cf n (n - 1)) ((2 : Int32).toInt64)) (v.toInt64)) (va.toInt64)) vb.toInt64)) hx hb hr (fun t ht hW => ⟨congrArg (fun z => Outcome.returned (some (Value.long z))) (rfl), by rw [ht]; exact hP9, hS.F ht⟩) hS.2.2 dX7_post_22

set_option maxHeartbeats 4000000 in
set_option maxRecDepth 100000 in
theorem c_X7_mayCast (l : Launch) (D : va_G) (cA : Nat → ClassId) (h0 : Nat) (x0 : Nat) (x1 : Nat) (x2 : Nat) (x3 : Int32) (x4 : Nat) (x5 : Nat) (x6 : Nat) (x7 : Nat) (x8 : Nat) (x9 : Nat) (x10 : Nat) (x11 : Nat) (x12 : Int32) (x13 : Int32) (x14 : Int32) (x15 : Int32) (x16 : Int32) (x17 : Int32) (x18 : Int32) (x19 : Int32) (ka : Nat) (xa : Nat) (ya : Nat) (za : Nat) (ca : Nat) (n : Int32) (v : Int32) : Met l yX7_mayCast wsX7_mayCast ({ frames := 1, cells := 0, slots := 0, locals := 20 }) (rPc vwCl D cA [(h0, .inr (6, [.ref x0, .ref x1, .ref x2, .int x3, .ref x4, .ref x5, .ref x6, .ref x7, .ref x8, .ref x9, .ref x10, .ref x11, .int x12, .int x13, .int x14, .int x15, .int x16, .int x17, .int x18, .int x19])), (x2, .inr (0, [.ref ka, .ref xa, .ref ya, .ref za, .ref ca, .int n]))] [.ref h0, .int v]) (rq_x (some (.int (bI (x12 = 1 ∧ 0 ≤ v ∧ v < x13 ∧ n < 500))))) 0 0 (fun _ => False) := by
  refine Met.ofW (cc := cX7_mayCast) (maxL := 2) (ret := (some .boolean)) (by decide) rfl ?_
  intro p e s m args below meth c s₁ B hml hv
  obtain ⟨rfl, hP, hK⟩ := hv
  have hx := B.exec
  have hb := B.bytes
  have hr := B.returns
  have hts := atoms_spec (ws := wsX7_mayCast) B.pre
  have hown : s.vm.findClass RX7 = some m.cls := findClass_of_methodNamed B.named
  have hlocks := B.notSynchronized
  have hin_X7 : ∀ w ∈ wsX70, w ∈ wsX7_mayCast := fun w h => List.mem_cons_of_mem _ (List.mem_append_left _ (List.mem_append_right _ h))
  have w_RX7_97 := hts (.fieldLink RX7 97 "MixElection" "stage" "I") (by decide +kernel)
  have w_RX7_123 := hts (.fieldLink RX7 123 "MixElection" "voters" "I") (by decide +kernel)
  have w_RX7_55 := hts (.fieldLink RX7 55 "MixElection" "board" "LMixElection$Board;") (by decide +kernel)
  have hl := lv_entry ([.ref h0, .int v]) (n := 2) (Nat.le_of_ble_eq_true rfl)
  rw [lg_entry_eq]
  generalize (lg_sl ([.ref h0, .int v]) ++ List.replicate (2 - (lg_sl ([.ref h0, .int v])).length) Slot.unset).toArray = ls at hl ⊢
  have hl : lv_has ls 2 [(0, .ref h0), (1, .int v)] := hl
  refine lv_aload_n hx hb dX7_mayCast_0 rfl (lv_at hl 0 rfl) ?_
  refine va_get (D := D) (ci := 6) (v := .int x12) (C := RX7) (T := TX7) (N := 20) hx hb hts hin_X7 hown hK hP 0 rfl rfl 12 (by decide) (w_RX7_97) (fun _ h9 => h9) rfl dX7_mayCast_1 ?_
  refine lv_iconst (v := 1) hx hb dX7_mayCast_4 (by decide) ?_
  refine lv_icmp_ne (tgt := 37) hx hb dX7_mayCast_5 (by decide) (fun c_5 => ?_) (fun c_5 => ?_)
  · skip
    refine lv_iconst (v := 0) hx hb dX7_mayCast_37 (by decide) ?_
    exact W.zret (v := 0) hx hb hr rfl (fun t ht hW => ⟨congrArg (fun z => Outcome.returned (some (Value.int z))) (bI_f (fun h => c_5 h.1)), ht⟩) (fun _ h => by cases h) dX7_mayCast_38
  · skip
    refine lv_iload_n hx hb dX7_mayCast_8 rfl (lv_at hl 1 rfl) ?_
    refine lv_if_lt (tgt := 37) hx hb dX7_mayCast_9 (by decide) (fun c_9 => ?_) (fun c_9 => ?_)
    · skip
      refine lv_iconst (v := 0) hx hb dX7_mayCast_37 (by decide) ?_
      exact W.zret (v := 0) hx hb hr rfl (fun t ht hW => ⟨congrArg (fun z => Outcome.returned (some (Value.int z))) (bI_f (fun h => absurd c_9 (Int32.not_lt.mpr h.2.1))), ht⟩) (fun _ h => by cases h) dX7_mayCast_38
    · skip
      refine lv_iload_n hx hb dX7_mayCast_12 rfl (lv_at hl 1 rfl) ?_
      refine lv_aload_n hx hb dX7_mayCast_13 rfl (lv_at hl 0 rfl) ?_
      refine va_get (D := D) (ci := 6) (v := .int x13) (C := RX7) (T := TX7) (N := 20) hx hb hts hin_X7 hown hK hP 0 rfl rfl 13 (by decide) (w_RX7_123) (fun _ h9 => h9) rfl dX7_mayCast_14 ?_
      refine lv_icmp_ge (tgt := 37) hx hb dX7_mayCast_17 (by decide) (fun c_17 => ?_) (fun c_17 => ?_)
      · skip
        refine lv_iconst (v := 0) hx hb dX7_mayCast_37 (by decide) ?_
        exact W.zret (v := 0) hx hb hr rfl (fun t ht hW => ⟨congrArg (fun z => Outcome.returned (some (Value.int z))) (bI_f (fun h => absurd h.2.2.1 (Int32.not_lt.mpr c_17))), ht⟩) (fun _ h => by cases h) dX7_mayCast_38
      · skip
        refine lv_aload_n hx hb dX7_mayCast_20 rfl (lv_at hl 0 rfl) ?_
        refine va_get (D := D) (ci := 6) (v := .ref x2) (C := RX7) (T := TX7) (N := 20) hx hb hts hin_X7 hown hK hP 0 rfl rfl 2 (by decide) (w_RX7_55) (fun _ h9 => h9) rfl dX7_mayCast_21 ?_
        refine rq_call1 (v := .int n) (rn_V (As := []) (rest := []) (ci := 0) (fs := [.ref ka, .ref xa, .ref ya, .ref za, .ref ca, .int n]) ⟨hx, hb, hml, hown, hts⟩ (c_X0_size l D cA x2 ka xa ya za ca n) rfl (cwV 0 hts gX7_mayCast_X0_size rfl rfl rfl (by decide +kernel) ⟨Nat.le_of_ble_eq_true rfl, Nat.le_of_ble_eq_true rfl⟩) hK hP [1] rfl rfl rfl hl.1 rfl (Nat.le_of_ble_eq_true rfl) dX7_mayCast_24 ⟨Nat.le_of_ble_eq_true rfl, Nat.le_of_ble_eq_true rfl⟩) ?_
        refine lv_sipush (v := 500) hx hb dX7_mayCast_27 (by decide) ?_
        refine lv_icmp_ge (tgt := 37) hx hb dX7_mayCast_30 (by decide) (fun c_30 => ?_) (fun c_30 => ?_)
        · skip
          refine lv_iconst (v := 0) hx hb dX7_mayCast_37 (by decide) ?_
          exact W.zret (v := 0) hx hb hr rfl (fun t ht hW => ⟨congrArg (fun z => Outcome.returned (some (Value.int z))) (bI_f (fun h => absurd h.2.2.2 (Int32.not_lt.mpr c_30))), ht⟩) (fun _ h => by cases h) dX7_mayCast_38
        · skip
          refine lv_iconst (v := 1) hx hb dX7_mayCast_33 (by decide) ?_
          refine lv_goto (tgt := 38) hx hb dX7_mayCast_34 (by decide) ?_
          exact W.zret (v := 1) hx hb hr rfl (fun t ht hW => ⟨congrArg (fun z => Outcome.returned (some (Value.int z))) (bI_t ⟨c_5, Int32.not_lt.mp c_9, Int32.not_le.mp c_17, Int32.not_le.mp c_30⟩), ht⟩) (fun _ h => by cases h) dX7_mayCast_38

set_option maxHeartbeats 4000000 in
set_option maxRecDepth 100000 in
theorem c_X7_cast_no (l : Launch) (D : va_G) (cA : Nat → ClassId) (h0 : Nat) (x0 : Nat) (x1 : Nat) (x2 : Nat) (x3 : Int32) (x4 : Nat) (x5 : Nat) (x6 : Nat) (x7 : Nat) (x8 : Nat) (x9 : Nat) (x10 : Nat) (x11 : Nat) (x12 : Int32) (x13 : Int32) (x14 : Int32) (x15 : Int32) (x16 : Int32) (x17 : Int32) (x18 : Int32) (x19 : Int32) (gp : Int32) (gq : Int32) (gh : Int32) (ka : Nat) (xa : Nat) (ya : Nat) (za : Nat) (ca : Nat) (n : Int32) (v : Int32) (w : Int32) (r : Int32) (hno : ¬ ((x12 = 1 ∧ 0 ≤ v ∧ v < x13 ∧ n < 500) ∧ (0 ≤ w ∧ w < x3) ∧ (0 ≤ r ∧ r < gq))) : Met l yX7_cast wsX7_cast ({ frames := 2, cells := 0, slots := 0, locals := 41 }) (rPc vwCl D cA [(h0, .inr (6, [.ref x0, .ref x1, .ref x2, .int x3, .ref x4, .ref x5, .ref x6, .ref x7, .ref x8, .ref x9, .ref x10, .ref x11, .int x12, .int x13, .int x14, .int x15, .int x16, .int x17, .int x18, .int x19])), (x0, .inr (1, [.int gp, .int gq, .int gh])), (x2, .inr (0, [.ref ka, .ref xa, .ref ya, .ref za, .ref ca, .int n]))] [.ref h0, .int v, .int w, .int r]) (rq_x (some (.long 0))) 0 0 (fun _ => False) := by
  refine Met.ofW (cc := cX7_cast) (maxL := 4) (ret := (some .long)) (by decide) rfl ?_
  intro p e s m args below meth c s₁ B hml hv
  obtain ⟨rfl, hP, hK⟩ := hv
  have hx := B.exec
  have hb := B.bytes
  have hr := B.returns
  have hts := atoms_spec (ws := wsX7_cast) B.pre
  have hown : s.vm.findClass RX7 = some m.cls := findClass_of_methodNamed B.named
  have hlocks := B.notSynchronized
  have hin_X7 : ∀ w ∈ wsX70, w ∈ wsX7_cast := fun w h => List.mem_cons_of_mem _ (List.mem_append_left _ (List.mem_append_left _ (List.mem_append_left _ (List.mem_append_right _ h))))
  have w_RX7_25 := hts (.fieldLink RX7 25 "MixElection" "group" "LMixElection$Group;") (by decide +kernel)
  have hl := lv_entry ([.ref h0, .int v, .int w, .int r]) (n := 4) (Nat.le_of_ble_eq_true rfl)
  rw [lg_entry_eq]
  generalize (lg_sl ([.ref h0, .int v, .int w, .int r]) ++ List.replicate (4 - (lg_sl ([.ref h0, .int v, .int w, .int r])).length) Slot.unset).toArray = ls at hl ⊢
  have hl : lv_has ls 4 [(0, .ref h0), (1, .int v), (2, .int w), (3, .int r)] := hl
  refine lv_aload_n hx hb dX7_cast_0 rfl (lv_at hl 0 rfl) ?_
  refine lv_iload_n hx hb dX7_cast_1 rfl (lv_at hl 1 rfl) ?_
  refine rq_call1 (v := .int (bI (x12 = 1 ∧ 0 ≤ v ∧ v < x13 ∧ n < 500))) (rn_V (As := [.int v]) (rest := []) (ci := 6) (fs := [.ref x0, .ref x1, .ref x2, .int x3, .ref x4, .ref x5, .ref x6, .ref x7, .ref x8, .ref x9, .ref x10, .ref x11, .int x12, .int x13, .int x14, .int x15, .int x16, .int x17, .int x18, .int x19]) ⟨hx, hb, hml, hown, hts⟩ (c_X7_mayCast l D cA h0 x0 x1 x2 x3 x4 x5 x6 x7 x8 x9 x10 x11 x12 x13 x14 x15 x16 x17 x18 x19 ka xa ya za ca n v) rfl (cwV 1 hts gX7_cast_X7_mayCast rfl rfl rfl (by decide +kernel) ⟨Nat.le_of_ble_eq_true rfl, Nat.le_of_ble_eq_true rfl⟩) hK hP [0, 2] rfl rfl rfl hl.1 rfl (Nat.le_of_ble_eq_true rfl) dX7_cast_2 ⟨Nat.le_of_ble_eq_true rfl, Nat.le_of_ble_eq_true rfl⟩) ?_
  refine lv_if_eq (tgt := 27) hx hb dX7_cast_5 (by decide) (fun c_5 => ?_) (fun c_5 => ?_)
  · skip
    refine lv_lconst (v := 0) hx hb dX7_cast_27 (by decide) ?_
    exact W.lret (v := 0) hx hb hr (fun t ht hW => ⟨congrArg (fun z => Outcome.returned (some (Value.long z))) (rfl), ht⟩) (fun _ h => by cases h) dX7_cast_28
  · skip
    refine lv_aload_n hx hb dX7_cast_8 rfl (lv_at hl 0 rfl) ?_
    refine lv_iload_n hx hb dX7_cast_9 rfl (lv_at hl 2 rfl) ?_
    refine rq_call1 (v := .int (bI (0 ≤ w ∧ w < x3))) (rn_V (As := [.int w]) (rest := []) (ci := 6) (fs := [.ref x0, .ref x1, .ref x2, .int x3, .ref x4, .ref x5, .ref x6, .ref x7, .ref x8, .ref x9, .ref x10, .ref x11, .int x12, .int x13, .int x14, .int x15, .int x16, .int x17, .int x18, .int x19]) ⟨hx, hb, hml, hown, hts⟩ (c_X7_isCandidate l D cA h0 x0 x1 x2 x3 x4 x5 x6 x7 x8 x9 x10 x11 x12 x13 x14 x15 x16 x17 x18 x19 w) rfl (cwV 1 hts gX7_cast_X7_isCandidate rfl rfl rfl (by decide +kernel) ⟨Nat.le_of_ble_eq_true rfl, Nat.le_of_ble_eq_true rfl⟩) hK hP [0] rfl rfl rfl hl.1 rfl (Nat.le_of_ble_eq_true rfl) dX7_cast_10 ⟨Nat.le_of_ble_eq_true rfl, Nat.le_of_ble_eq_true rfl⟩) ?_
    refine lv_if_eq (tgt := 27) hx hb dX7_cast_13 (by decide) (fun c_13 => ?_) (fun c_13 => ?_)
    · skip
      refine lv_lconst (v := 0) hx hb dX7_cast_27 (by decide) ?_
      exact W.lret (v := 0) hx hb hr (fun t ht hW => ⟨congrArg (fun z => Outcome.returned (some (Value.long z))) (rfl), ht⟩) (fun _ h => by cases h) dX7_cast_28
    · skip
      refine lv_aload_n hx hb dX7_cast_16 rfl (lv_at hl 0 rfl) ?_
      refine va_get (D := D) (ci := 6) (v := .ref x0) (C := RX7) (T := TX7) (N := 20) hx hb hts hin_X7 hown hK hP 0 rfl rfl 0 (by decide) (w_RX7_25) (fun _ h9 => h9) rfl dX7_cast_17 ?_
      refine lv_iload_n hx hb dX7_cast_20 rfl (lv_at hl 3 rfl) ?_
      refine rq_call1 (v := .int (bI (0 ≤ r ∧ r < gq))) (rn_V (As := [.int r]) (rest := []) (ci := 1) (fs := [.int gp, .int gq, .int gh]) ⟨hx, hb, hml, hown, hts⟩ (c_X1_isExponent l D cA x0 gp gq gh r) rfl (cwV 1 hts gX7_cast_X1_isExponent rfl rfl rfl (by decide +kernel) ⟨Nat.le_of_ble_eq_true rfl, Nat.le_of_ble_eq_true rfl⟩) hK hP [1] rfl rfl rfl hl.1 rfl (Nat.le_of_ble_eq_true rfl) dX7_cast_21 ⟨Nat.le_of_ble_eq_true rfl, Nat.le_of_ble_eq_true rfl⟩) ?_
      refine lv_if_ne (tgt := 29) hx hb dX7_cast_24 (by decide) (fun c_24 => ?_) (fun c_24 => ?_)
      · skip
        exact absurd ⟨bI_1 c_5, bI_1 c_13, bI_1 c_24⟩ hno
      · skip
        refine lv_lconst (v := 0) hx hb dX7_cast_27 (by decide) ?_
        exact W.lret (v := 0) hx hb hr (fun t ht hW => ⟨congrArg (fun z => Outcome.returned (some (Value.long z))) (rfl), ht⟩) (fun _ h => by cases h) dX7_cast_28

set_option maxHeartbeats 4000000 in
set_option maxRecDepth 100000 in
theorem c_X7_cast_ok (l : Launch) (D : va_G) (cA : Nat → ClassId) (h0 : Nat) (x0 : Nat) (x1 : Nat) (x2 : Nat) (x3 : Int32) (x4 : Nat) (x5 : Nat) (x6 : Nat) (x7 : Nat) (x8 : Nat) (x9 : Nat) (x10 : Nat) (x11 : Nat) (x12 : Int32) (x13 : Int32) (x14 : Int32) (x15 : Int32) (x16 : Int32) (x17 : Int32) (x18 : Int32) (x19 : Int32) (gp : Int32) (gq : Int32) (gh : Int32) (ka : Nat) (xa : Nat) (ya : Nat) (za : Nat) (ca : Nat) (n : Int32) (v : Int32) (w : Int32) (r : Int32) (la : Nat) (lb_ : Nat) (lf : Nat → Int32) (lg : Nat → Int32) (kf : Nat → Int32) (xf : Nat → Int32) (yf : Nat → Int32) (zf : Nat → Int64) (cf : Nat → Int64) (v0 : Nat) (w0 : Nat) (r0 : Nat) (n0 : Nat) (hok : (x12 = 1 ∧ 0 ≤ v ∧ v < x13 ∧ n < 500) ∧ (0 ≤ w ∧ w < x3) ∧ (0 ≤ r ∧ r < gq)) (hv0 : v = nI v0) (hv4 : v0 < 40) (hbn : n = nI n0) (h6 : n0 < 600) (hw0 : w = nI w0) (hw9 : w0 < 1000) (hr0 : r = nI r0) (hr9 : r0 < 2 ^ 31) (hgp : 0 < gp) : Met l yX7_cast wsX7_cast ({ frames := 4, cells := 0, slots := 0, locals := 92 }) (wPc vwCl D cA [(h0, .inr (6, [.ref x0, .ref x1, .ref x2, .int x3, .ref x4, .ref x5, .ref x6, .ref x7, .ref x8, .ref x9, .ref x10, .ref x11, .int x12, .int x13, .int x14, .int x15, .int x16, .int x17, .int x18, .int x19])), (x0, .inr (1, [.int gp, .int gq, .int gh])), (x4, .inr (3, [.ref la, .ref lb_])), (la, .inl (cA 0, 40, .inl lf)), (lb_, .inl (cA 0, 40, .inl lg)), (x2, .inr (0, [.ref ka, .ref xa, .ref ya, .ref za, .ref ca, .int n])), (ka, .inl (cA 0, 600, .inl kf)), (xa, .inl (cA 0, 600, .inl xf)), (ya, .inl (cA 0, 600, .inl yf)), (za, .inl (cA 2, 600, .inr (.inl zf))), (ca, .inl (cA 2, 600, .inr (.inl cf)))] [.ref h0, .int v, .int w, .int r]) (wq_x vwCl D [(h0, .inr (6, [.ref x0, .ref x1, .ref x2, .int x3, .ref x4, .ref x5, .ref x6, .ref x7, .ref x8, .ref x9, .ref x10, .ref x11, .int x12, .int x13, .int x14, .int x15, .int x16, .int x17, .int x18, .int x19])), (x0, .inr (1, [.int gp, .int gq, .int gh])), (x4, .inr (3, [.ref la, .ref lb_])), (la, .inl (cA 0, 40, .inl (upd lf v.toNatClampNeg (tm gp 1 (pw gp 32 r0 1 4))))), (lb_, .inl (cA 0, 40, .inl (upd lg v.toNatClampNeg (tm gp (pw gp 32 (w0 + 1) 1 4) (pw gp 32 r0 1 gh))))), (x2, .inr (0, [.ref ka, .ref xa, .ref ya, .ref za, .ref ca, .int (n + 1)])), (ka, .inl (cA 0, 600, .inl (upd kf n.toNatClampNeg 2))), (xa, .inl (cA 0, 600, .inl (upd xf n.toNatClampNeg v))), (ya, .inl (cA 0, 600, .inl (upd yf n.toNatClampNeg (tm gp 1 (pw gp 32 r0 1 4))))), (za, .inl (cA 2, 600, .inr (.inl (vp_updL zf n.toNatClampNeg (tm gp (pw gp 32 (w0 + 1) 1 4) (pw gp 32 r0 1 gh)).toInt64)))), (ca, .inl (cA 2, 600, .inr (.inl (vp_updL cf n.toNatClampNeg (dg (dg (dg (dg (cho cf n (n - 1)) ((2 : Int32).toInt64)) (v.toInt64)) ((tm gp 1 (pw gp 32 r0 1 4)).toInt64)) (tm gp (pw gp 32 (w0 + 1) 1 4) (pw gp 32 r0 1 gh)).toInt64)))))] (some (.long (dg (dg (dg (dg (cho cf n (n - 1)) ((2 : Int32).toInt64)) (v.toInt64)) ((tm gp 1 (pw gp 32 r0 1 4)).toInt64)) (tm gp (pw gp 32 (w0 + 1) 1 4) (pw gp 32 r0 1 gh)).toInt64))) (wA [(h0, .inr (6, [.ref x0, .ref x1, .ref x2, .int x3, .ref x4, .ref x5, .ref x6, .ref x7, .ref x8, .ref x9, .ref x10, .ref x11, .int x12, .int x13, .int x14, .int x15, .int x16, .int x17, .int x18, .int x19])), (x0, .inr (1, [.int gp, .int gq, .int gh])), (x4, .inr (3, [.ref la, .ref lb_])), (la, .inl (cA 0, 40, .inl lf)), (lb_, .inl (cA 0, 40, .inl lg)), (x2, .inr (0, [.ref ka, .ref xa, .ref ya, .ref za, .ref ca, .int n])), (ka, .inl (cA 0, 600, .inl kf)), (xa, .inl (cA 0, 600, .inl xf)), (ya, .inl (cA 0, 600, .inl yf)), (za, .inl (cA 2, 600, .inr (.inl zf))), (ca, .inl (cA 2, 600, .inr (.inl cf)))])) 0 0 (wA [(h0, .inr (6, [.ref x0, .ref x1, .ref x2, .int x3, .ref x4, .ref x5, .ref x6, .ref x7, .ref x8, .ref x9, .ref x10, .ref x11, .int x12, .int x13, .int x14, .int x15, .int x16, .int x17, .int x18, .int x19])), (x0, .inr (1, [.int gp, .int gq, .int gh])), (x4, .inr (3, [.ref la, .ref lb_])), (la, .inl (cA 0, 40, .inl lf)), (lb_, .inl (cA 0, 40, .inl lg)), (x2, .inr (0, [.ref ka, .ref xa, .ref ya, .ref za, .ref ca, .int n])), (ka, .inl (cA 0, 600, .inl kf)), (xa, .inl (cA 0, 600, .inl xf)), (ya, .inl (cA 0, 600, .inl yf)), (za, .inl (cA 2, 600, .inr (.inl zf))), (ca, .inl (cA 2, 600, .inr (.inl cf)))]) := by
  refine Met.ofW (cc := cX7_cast) (maxL := 4) (ret := (some .long)) (by decide) rfl ?_
  intro p e s m args below meth c s₁ B hml hv
  obtain ⟨rfl, hP, hK, hD0⟩ := hv
  have hx := B.exec
  have hb := B.bytes
  have hr := B.returns
  have hts := atoms_spec (ws := wsX7_cast) B.pre
  have hown : s.vm.findClass RX7 = some m.cls := findClass_of_methodNamed B.named
  have hlocks := B.notSynchronized
  have hin_X7 : ∀ w ∈ wsX70, w ∈ wsX7_cast := fun w h => List.mem_cons_of_mem _ (List.mem_append_left _ (List.mem_append_left _ (List.mem_append_left _ (List.mem_append_right _ h))))
  have w_RX7_25 := hts (.fieldLink RX7 25 "MixElection" "group" "LMixElection$Group;") (by decide +kernel)
  have hD : va_D (wA [(h0, .inr (6, [.ref x0, .ref x1, .ref x2, .int x3, .ref x4, .ref x5, .ref x6, .ref x7, .ref x8, .ref x9, .ref x10, .ref x11, .int x12, .int x13, .int x14, .int x15, .int x16, .int x17, .int x18, .int x19])), (x0, .inr (1, [.int gp, .int gq, .int gh])), (x4, .inr (3, [.ref la, .ref lb_])), (la, .inl (cA 0, 40, .inl lf)), (lb_, .inl (cA 0, 40, .inl lg)), (x2, .inr (0, [.ref ka, .ref xa, .ref ya, .ref za, .ref ca, .int n])), (ka, .inl (cA 0, 600, .inl kf)), (xa, .inl (cA 0, 600, .inl xf)), (ya, .inl (cA 0, 600, .inl yf)), (za, .inl (cA 2, 600, .inr (.inl zf))), (ca, .inl (cA 2, 600, .inr (.inl cf)))]) [(h0, .inr (6, [.ref x0, .ref x1, .ref x2, .int x3, .ref x4, .ref x5, .ref x6, .ref x7, .ref x8, .ref x9, .ref x10, .ref x11, .int x12, .int x13, .int x14, .int x15, .int x16, .int x17, .int x18, .int x19])), (x0, .inr (1, [.int gp, .int gq, .int gh])), (x4, .inr (3, [.ref la, .ref lb_])), (la, .inl (cA 0, 40, .inl lf)), (lb_, .inl (cA 0, 40, .inl lg)), (x2, .inr (0, [.ref ka, .ref xa, .ref ya, .ref za, .ref ca, .int n])), (ka, .inl (cA 0, 600, .inl kf)), (xa, .inl (cA 0, 600, .inl xf)), (ya, .inl (cA 0, 600, .inl yf)), (za, .inl (cA 2, 600, .inr (.inl zf))), (ca, .inl (cA 2, 600, .inr (.inl cf)))] := ⟨hD0.1, fun k q h => List.mem_map.mpr ⟨q, List.mem_of_getElem? h, rfl⟩⟩
  have hS : va_S (wA [(h0, .inr (6, [.ref x0, .ref x1, .ref x2, .int x3, .ref x4, .ref x5, .ref x6, .ref x7, .ref x8, .ref x9, .ref x10, .ref x11, .int x12, .int x13, .int x14, .int x15, .int x16, .int x17, .int x18, .int x19])), (x0, .inr (1, [.int gp, .int gq, .int gh])), (x4, .inr (3, [.ref la, .ref lb_])), (la, .inl (cA 0, 40, .inl lf)), (lb_, .inl (cA 0, 40, .inl lg)), (x2, .inr (0, [.ref ka, .ref xa, .ref ya, .ref za, .ref ca, .int n])), (ka, .inl (cA 0, 600, .inl kf)), (xa, .inl (cA 0, 600, .inl xf)), (ya, .inl (cA 0, 600, .inl yf)), (za, .inl (cA 2, 600, .inr (.inl zf))), (ca, .inl (cA 2, 600, .inr (.inl cf)))]) s.heap s.heap [] := va_S.rf
  generalize hAe : wA [(h0, .inr (6, [.ref x0, .ref x1, .ref x2, .int x3, .ref x4, .ref x5, .ref x6, .ref x7, .ref x8, .ref x9, .ref x10, .ref x11, .int x12, .int x13, .int x14, .int x15, .int x16, .int x17, .int x18, .int x19])), (x0, .inr (1, [.int gp, .int gq, .int gh])), (x4, .inr (3, [.ref la, .ref lb_])), (la, .inl (cA 0, 40, .inl lf)), (lb_, .inl (cA 0, 40, .inl lg)), (x2, .inr (0, [.ref ka, .ref xa, .ref ya, .ref za, .ref ca, .int n])), (ka, .inl (cA 0, 600, .inl kf)), (xa, .inl (cA 0, 600, .inl xf)), (ya, .inl (cA 0, 600, .inl yf)), (za, .inl (cA 2, 600, .inr (.inl zf))), (ca, .inl (cA 2, 600, .inr (.inl cf)))] = A at hD hS ⊢
  have hP : va_P D vwCl [(h0, .inr (6, [.ref x0, .ref x1, .ref x2, .int x3, .ref x4, .ref x5, .ref x6, .ref x7, .ref x8, .ref x9, .ref x10, .ref x11, .int x12, .int x13, .int x14, .int x15, .int x16, .int x17, .int x18, .int x19])), (x0, .inr (1, [.int gp, .int gq, .int gh])), (x4, .inr (3, [.ref la, .ref lb_])), (la, .inl (cA 0, 40, .inl lf)), (lb_, .inl (cA 0, 40, .inl lg)), (x2, .inr (0, [.ref ka, .ref xa, .ref ya, .ref za, .ref ca, .int n])), (ka, .inl (cA 0, 600, .inl kf)), (xa, .inl (cA 0, 600, .inl xf)), (ya, .inl (cA 0, 600, .inl yf)), (za, .inl (cA 2, 600, .inr (.inl zf))), (ca, .inl (cA 2, 600, .inr (.inl cf)))] s.heap := hP
  have hl := lv_entry ([.ref h0, .int v, .int w, .int r]) (n := 4) (Nat.le_of_ble_eq_true rfl)
  rw [lg_entry_eq]
  generalize (lg_sl ([.ref h0, .int v, .int w, .int r]) ++ List.replicate (4 - (lg_sl ([.ref h0, .int v, .int w, .int r])).length) Slot.unset).toArray = ls at hl ⊢
  have hl : lv_has ls 4 [(0, .ref h0), (1, .int v), (2, .int w), (3, .int r)] := hl
  refine lv_aload_n hx hb dX7_cast_0 rfl (lv_at hl 0 rfl) ?_
  refine lv_iload_n hx hb dX7_cast_1 rfl (lv_at hl 1 rfl) ?_
  refine rq_call1 (v := .int (bI (x12 = 1 ∧ 0 ≤ v ∧ v < x13 ∧ n < 500))) (rn_V (As := [.int v]) (rest := []) (ci := 6) (fs := [.ref x0, .ref x1, .ref x2, .int x3, .ref x4, .ref x5, .ref x6, .ref x7, .ref x8, .ref x9, .ref x10, .ref x11, .int x12, .int x13, .int x14, .int x15, .int x16, .int x17, .int x18, .int x19]) ⟨hx, hb, hml, hown, hts⟩ (c_X7_mayCast l D cA h0 x0 x1 x2 x3 x4 x5 x6 x7 x8 x9 x10 x11 x12 x13 x14 x15 x16 x17 x18 x19 ka xa ya za ca n v) rfl (cwV 1 hts gX7_cast_X7_mayCast rfl rfl rfl (by decide +kernel) ⟨Nat.le_of_ble_eq_true rfl, Nat.le_of_ble_eq_true rfl⟩) hK hP [0, 5] rfl rfl rfl hl.1 rfl (Nat.le_of_ble_eq_true rfl) dX7_cast_2 ⟨Nat.le_of_ble_eq_true rfl, Nat.le_of_ble_eq_true rfl⟩) ?_
  refine lv_if_eq (tgt := 27) hx hb dX7_cast_5 (by decide) (fun c_5 => ?_) (fun c_5 => ?_)
  · skip
    exact absurd hok.1 (bI_0 c_5)
  · skip
    refine lv_aload_n hx hb dX7_cast_8 rfl (lv_at hl 0 rfl) ?_
    refine lv_iload_n hx hb dX7_cast_9 rfl (lv_at hl 2 rfl) ?_
    refine rq_call1 (v := .int (bI (0 ≤ w ∧ w < x3))) (rn_V (As := [.int w]) (rest := []) (ci := 6) (fs := [.ref x0, .ref x1, .ref x2, .int x3, .ref x4, .ref x5, .ref x6, .ref x7, .ref x8, .ref x9, .ref x10, .ref x11, .int x12, .int x13, .int x14, .int x15, .int x16, .int x17, .int x18, .int x19]) ⟨hx, hb, hml, hown, hts⟩ (c_X7_isCandidate l D cA h0 x0 x1 x2 x3 x4 x5 x6 x7 x8 x9 x10 x11 x12 x13 x14 x15 x16 x17 x18 x19 w) rfl (cwV 1 hts gX7_cast_X7_isCandidate rfl rfl rfl (by decide +kernel) ⟨Nat.le_of_ble_eq_true rfl, Nat.le_of_ble_eq_true rfl⟩) hK hP [0] rfl rfl rfl hl.1 rfl (Nat.le_of_ble_eq_true rfl) dX7_cast_10 ⟨Nat.le_of_ble_eq_true rfl, Nat.le_of_ble_eq_true rfl⟩) ?_
    refine lv_if_eq (tgt := 27) hx hb dX7_cast_13 (by decide) (fun c_13 => ?_) (fun c_13 => ?_)
    · skip
      exact absurd hok.2.1 (bI_0 c_13)
    · skip
      refine lv_aload_n hx hb dX7_cast_16 rfl (lv_at hl 0 rfl) ?_
      refine va_get (D := D) (ci := 6) (v := .ref x0) (C := RX7) (T := TX7) (N := 20) hx hb hts hin_X7 hown hK hP 0 rfl rfl 0 (by decide) (w_RX7_25) (fun _ h9 => h9) rfl dX7_cast_17 ?_
      refine lv_iload_n hx hb dX7_cast_20 rfl (lv_at hl 3 rfl) ?_
      refine rq_call1 (v := .int (bI (0 ≤ r ∧ r < gq))) (rn_V (As := [.int r]) (rest := []) (ci := 1) (fs := [.int gp, .int gq, .int gh]) ⟨hx, hb, hml, hown, hts⟩ (c_X1_isExponent l D cA x0 gp gq gh r) rfl (cwV 1 hts gX7_cast_X1_isExponent rfl rfl rfl (by decide +kernel) ⟨Nat.le_of_ble_eq_true rfl, Nat.le_of_ble_eq_true rfl⟩) hK hP [1] rfl rfl rfl hl.1 rfl (Nat.le_of_ble_eq_true rfl) dX7_cast_21 ⟨Nat.le_of_ble_eq_true rfl, Nat.le_of_ble_eq_true rfl⟩) ?_
      refine lv_if_ne (tgt := 29) hx hb dX7_cast_24 (by decide) (fun c_24 => ?_) (fun c_24 => ?_)
      · skip
        refine lv_aload_n hx hb dX7_cast_29 rfl (lv_at hl 0 rfl) ?_
        refine lv_iload_n hx hb dX7_cast_30 rfl (lv_at hl 1 rfl) ?_
        refine lv_aload_n hx hb dX7_cast_31 rfl (lv_at hl 0 rfl) ?_
        refine va_get (D := D) (ci := 6) (v := .ref x0) (C := RX7) (T := TX7) (N := 20) hx hb hts hin_X7 hown hK hP 0 rfl rfl 0 (by decide) (w_RX7_25) (fun _ h9 => h9) rfl dX7_cast_32 ?_
        refine lv_iconst (v := 1) hx hb dX7_cast_35 (by decide) ?_
        refine lv_iload_n hx hb dX7_cast_36 rfl (lv_at hl 3 rfl) ?_
        refine rq_call1 (v := .int (tm gp 1 (pw gp 32 r0 1 4))) (rn_V (As := [.int 1, .int r]) (rest := [.int v, .ref h0]) (ci := 1) (fs := [.int gp, .int gq, .int gh]) ⟨hx, hb, hml, hown, hts⟩ (c_X1_renewedFirst l D cA x0 gp gq gh 1 r r0 hr0 hr9 hgp) rfl (cwV 2 hts gX7_cast_X1_renewedFirst rfl rfl rfl (by decide +kernel) ⟨Nat.le_of_ble_eq_true rfl, Nat.le_of_ble_eq_true rfl⟩) hK hP [1] rfl rfl rfl hl.1 rfl (Nat.le_of_ble_eq_true rfl) dX7_cast_37 ⟨Nat.le_of_ble_eq_true rfl, Nat.le_of_ble_eq_true rfl⟩) ?_
        refine lv_aload_n hx hb dX7_cast_40 rfl (lv_at hl 0 rfl) ?_
        refine va_get (D := D) (ci := 6) (v := .ref x0) (C := RX7) (T := TX7) (N := 20) hx hb hts hin_X7 hown hK hP 0 rfl rfl 0 (by decide) (w_RX7_25) (fun _ h9 => h9) rfl dX7_cast_41 ?_
        refine lv_aload_n hx hb dX7_cast_44 rfl (lv_at hl 0 rfl) ?_
        refine va_get (D := D) (ci := 6) (v := .ref x0) (C := RX7) (T := TX7) (N := 20) hx hb hts hin_X7 hown hK hP 0 rfl rfl 0 (by decide) (w_RX7_25) (fun _ h9 => h9) rfl dX7_cast_45 ?_
        refine lv_iload_n hx hb dX7_cast_48 rfl (lv_at hl 2 rfl) ?_
        refine rq_call1 (v := .int (pw gp 32 (w0 + 1) 1 4)) (rn_V (As := [.int w]) (rest := [.ref x0, .int (tm gp 1 (pw gp 32 r0 1 4)), .int v, .ref h0]) (ci := 1) (fs := [.int gp, .int gq, .int gh]) ⟨hx, hb, hml, hown, hts⟩ (c_X1_markOf l D cA x0 gp gq gh w w0 hw0 hw9 hgp) rfl (cwV 1 hts gX7_cast_X1_markOf rfl rfl rfl (by decide +kernel) ⟨Nat.le_of_ble_eq_true rfl, Nat.le_of_ble_eq_true rfl⟩) hK hP [1] rfl rfl rfl hl.1 rfl (Nat.le_of_ble_eq_true rfl) dX7_cast_49 ⟨Nat.le_of_ble_eq_true rfl, Nat.le_of_ble_eq_true rfl⟩) ?_
        refine lv_iload_n hx hb dX7_cast_52 rfl (lv_at hl 3 rfl) ?_
        refine rq_call1 (v := .int (tm gp (pw gp 32 (w0 + 1) 1 4) (pw gp 32 r0 1 gh))) (rn_V (As := [.int (pw gp 32 (w0 + 1) 1 4), .int r]) (rest := [.int (tm gp 1 (pw gp 32 r0 1 4)), .int v, .ref h0]) (ci := 1) (fs := [.int gp, .int gq, .int gh]) ⟨hx, hb, hml, hown, hts⟩ (c_X1_renewedSecond l D cA x0 gp gq gh (pw gp 32 (w0 + 1) 1 4) r r0 hr0 hr9 hgp) rfl (cwV 2 hts gX7_cast_X1_renewedSecond rfl rfl rfl (by decide +kernel) ⟨Nat.le_of_ble_eq_true rfl, Nat.le_of_ble_eq_true rfl⟩) hK hP [1] rfl rfl rfl hl.1 rfl (Nat.le_of_ble_eq_true rfl) dX7_cast_53 ⟨Nat.le_of_ble_eq_true rfl, Nat.le_of_ble_eq_true rfl⟩) ?_
        refine wq_call1 (v := .long (dg (dg (dg (dg (cho cf n (n - 1)) ((2 : Int32).toInt64)) (v.toInt64)) ((tm gp 1 (pw gp 32 r0 1 4)).toInt64)) (tm gp (pw gp 32 (w0 + 1) 1 4) (pw gp 32 r0 1 gh)).toInt64)) (wc := [(h0, .inr (6, [.ref x0, .ref x1, .ref x2, .int x3, .ref x4, .ref x5, .ref x6, .ref x7, .ref x8, .ref x9, .ref x10, .ref x11, .int x12, .int x13, .int x14, .int x15, .int x16, .int x17, .int x18, .int x19])), (x4, .inr (3, [.ref la, .ref lb_])), (la, .inl (cA 0, 40, .inl lf)), (lb_, .inl (cA 0, 40, .inl lg)), (x2, .inr (0, [.ref ka, .ref xa, .ref ya, .ref za, .ref ca, .int n])), (ka, .inl (cA 0, 600, .inl kf)), (xa, .inl (cA 0, 600, .inl xf)), (ya, .inl (cA 0, 600, .inl yf)), (za, .inl (cA 2, 600, .inr (.inl zf))), (ca, .inl (cA 2, 600, .inr (.inl cf)))]) (w1 := [(h0, .inr (6, [.ref x0, .ref x1, .ref x2, .int x3, .ref x4, .ref x5, .ref x6, .ref x7, .ref x8, .ref x9, .ref x10, .ref x11, .int x12, .int x13, .int x14, .int x15, .int x16, .int x17, .int x18, .int x19])), (x4, .inr (3, [.ref la, .ref lb_])), (la, .inl (cA 0, 40, .inl (upd lf v.toNatClampNeg (tm gp 1 (pw gp 32 r0 1 4))))), (lb_, .inl (cA 0, 40, .inl (upd lg v.toNatClampNeg (tm gp (pw gp 32 (w0 + 1) 1 4) (pw gp 32 r0 1 gh))))), (x2, .inr (0, [.ref ka, .ref xa, .ref ya, .ref za, .ref ca, .int (n + 1)])), (ka, .inl (cA 0, 600, .inl (upd kf n.toNatClampNeg 2))), (xa, .inl (cA 0, 600, .inl (upd xf n.toNatClampNeg v))), (ya, .inl (cA 0, 600, .inl (upd yf n.toNatClampNeg (tm gp 1 (pw gp 32 r0 1 4))))), (za, .inl (cA 2, 600, .inr (.inl (vp_updL zf n.toNatClampNeg (tm gp (pw gp 32 (w0 + 1) 1 4) (pw gp 32 r0 1 gh)).toInt64)))), (ca, .inl (cA 2, 600, .inr (.inl (vp_updL cf n.toNatClampNeg (dg (dg (dg (dg (cho cf n (n - 1)) ((2 : Int32).toInt64)) (v.toInt64)) ((tm gp 1 (pw gp 32 r0 1 4)).toInt64)) (tm gp (pw gp 32 (w0 + 1) 1 4) (pw gp 32 r0 1 gh)).toInt64)))))]) (ws' := [(h0, .inr (6, [.ref x0, .ref x1, .ref x2, .int x3, .ref x4, .ref x5, .ref x6, .ref x7, .ref x8, .ref x9, .ref x10, .ref x11, .int x12, .int x13, .int x14, .int x15, .int x16, .int x17, .int x18, .int x19])), (x0, .inr (1, [.int gp, .int gq, .int gh])), (x4, .inr (3, [.ref la, .ref lb_])), (la, .inl (cA 0, 40, .inl (upd lf v.toNatClampNeg (tm gp 1 (pw gp 32 r0 1 4))))), (lb_, .inl (cA 0, 40, .inl (upd lg v.toNatClampNeg (tm gp (pw gp 32 (w0 + 1) 1 4) (pw gp 32 r0 1 gh))))), (x2, .inr (0, [.ref ka, .ref xa, .ref ya, .ref za, .ref ca, .int (n + 1)])), (ka, .inl (cA 0, 600, .inl (upd kf n.toNatClampNeg 2))), (xa, .inl (cA 0, 600, .inl (upd xf n.toNatClampNeg v))), (ya, .inl (cA 0, 600, .inl (upd yf n.toNatClampNeg (tm gp 1 (pw gp 32 r0 1 4))))), (za, .inl (cA 2, 600, .inr (.inl (vp_updL zf n.toNatClampNeg (tm gp (pw gp 32 (w0 + 1) 1 4) (pw gp 32 r0 1 gh)).toInt64)))), (ca, .inl (cA 2, 600, .inr (.inl (vp_updL cf n.toNatClampNeg (dg (dg (dg (dg (cho cf n (n - 1)) ((2 : Int32).toInt64)) (v.toInt64)) ((tm gp 1 (pw gp 32 r0 1 4)).toInt64)) (tm gp (pw gp 32 (w0 + 1) 1 4) (pw gp 32 r0 1 gh)).toInt64)))))]) (wn_V (As := [.int v, .int (tm gp 1 (pw gp 32 r0 1 4)), .int (tm gp (pw gp 32 (w0 + 1) 1 4) (pw gp 32 r0 1 gh))]) (rest := []) (ci := 6) (fs := [.ref x0, .ref x1, .ref x2, .int x3, .ref x4, .ref x5, .ref x6, .ref x7, .ref x8, .ref x9, .ref x10, .ref x11, .int x12, .int x13, .int x14, .int x15, .int x16, .int x17, .int x18, .int x19]) ⟨hx, hb, hml, hown, hts⟩ (c_X7_post l D cA h0 x0 x1 x2 x3 x4 x5 x6 x7 x8 x9 x10 x11 x12 x13 x14 x15 x16 x17 x18 x19 la lb_ lf lg v (tm gp 1 (pw gp 32 r0 1 4)) (tm gp (pw gp 32 (w0 + 1) 1 4) (pw gp 32 r0 1 gh)) v0 ka xa ya za ca n kf xf yf zf cf n0 hv0 hv4 hbn h6) rfl (cwV 3 hts gX7_cast_X7_post rfl rfl rfl (by decide +kernel) ⟨Nat.le_of_ble_eq_true rfl, Nat.le_of_ble_eq_true rfl⟩) hK hP hD [0, 2, 3, 4, 5, 6, 7, 8, 9, 10] rfl (by decide) rfl rfl rfl hl.1 rfl (Nat.le_of_ble_eq_true rfl) dX7_cast_56 ⟨Nat.le_of_ble_eq_true rfl, Nat.le_of_ble_eq_true rfl⟩) hP hD hS [0, 2, 3, 4, 5, 6, 7, 8, 9, 10] [1] rfl rfl rfl rfl rfl rfl (fun H locs hP hD hS => ?_)
        have hP9 : va_P D vwCl [(h0, .inr (6, [.ref x0, .ref x1, .ref x2, .int x3, .ref x4, .ref x5, .ref x6, .ref x7, .ref x8, .ref x9, .ref x10, .ref x11, .int x12, .int x13, .int x14, .int x15, .int x16, .int x17, .int x18, .int x19])), (x0, .inr (1, [.int gp, .int gq, .int gh])), (x4, .inr (3, [.ref la, .ref lb_])), (la, .inl (cA 0, 40, .inl (upd lf v.toNatClampNeg (tm gp 1 (pw gp 32 r0 1 4))))), (lb_, .inl (cA 0, 40, .inl (upd lg v.toNatClampNeg (tm gp (pw gp 32 (w0 + 1) 1 4) (pw gp 32 r0 1 gh))))), (x2, .inr (0, [.ref ka, .ref xa, .ref ya, .ref za, .ref ca, .int (n + 1)])), (ka, .inl (cA 0, 600, .inl (upd kf n.toNatClampNeg 2))), (xa, .inl (cA 0, 600, .inl (upd xf n.toNatClampNeg v))), (ya, .inl (cA 0, 600, .inl (upd yf n.toNatClampNeg (tm gp 1 (pw gp 32 r0 1 4))))), (za, .inl (cA 2, 600, .inr (.inl (vp_updL zf n.toNatClampNeg (tm gp (pw gp 32 (w0 + 1) 1 4) (pw gp 32 r0 1 gh)).toInt64)))), (ca, .inl (cA 2, 600, .inr (.inl (vp_updL cf n.toNatClampNeg (dg (dg (dg (dg (cho cf n (n - 1)) ((2 : Int32).toInt64)) (v.toInt64)) ((tm gp 1 (pw gp 32 r0 1 4)).toInt64)) (tm gp (pw gp 32 (w0 + 1) 1 4) (pw gp 32 r0 1 gh)).toInt64)))))] H := hP
        exact W.lret (v := (dg (dg (dg (dg (cho cf n (n - 1)) ((2 : Int32).toInt64)) (v.toInt64)) ((tm gp 1 (pw gp 32 r0 1 4)).toInt64)) (tm gp (pw gp 32 (w0 + 1) 1 4) (pw gp 32 r0 1 gh)).toInt64)) hx hb hr (fun t ht hW => ⟨congrArg (fun z => Outcome.returned (some (Value.long z))) (rfl), by rw [ht]; exact hP9, hS.F ht⟩) hS.2.2 dX7_cast_59
      · skip
        exact absurd hok.2.2 (bI_0 c_24)

set_option maxHeartbeats 4000000 in
set_option maxRecDepth 100000 in
theorem c_X7_castPair_no (l : Launch) (D : va_G) (cA : Nat → ClassId) (h0 : Nat) (x0 : Nat) (x1 : Nat) (x2 : Nat) (x3 : Int32) (x4 : Nat) (x5 : Nat) (x6 : Nat) (x7 : Nat) (x8 : Nat) (x9 : Nat) (x10 : Nat) (x11 : Nat) (x12 : Int32) (x13 : Int32) (x14 : Int32) (x15 : Int32) (x16 : Int32) (x17 : Int32) (x18 : Int32) (x19 : Int32) (gp : Int32) (gq : Int32) (gh : Int32) (ka : Nat) (xa : Nat) (ya : Nat) (za : Nat) (ca : Nat) (n : Int32) (v : Int32) (w : Int32) (r : Int32) (q0 : Nat) (hno : ¬ ((x12 = 1 ∧ 0 ≤ v ∧ v < x13 ∧ n < 500) ∧ (1 ≤ w ∧ w < gp ∧ pw gp 32 q0 1 w = 1) ∧ (1 ≤ r ∧ r < gp ∧ pw gp 32 q0 1 r = 1))) (hq0 : gq = nI q0) (hQ : q0 < 2 ^ 31) (hgp : 0 < gp) : Met l yX7_castPair wsX7_castPair ({ frames := 5, cells := 0, slots := 0, locals := 112 }) (rPc vwCl D cA [(h0, .inr (6, [.ref x0, .ref x1, .ref x2, .int x3, .ref x4, .ref x5, .ref x6, .ref x7, .ref x8, .ref x9, .ref x10, .ref x11, .int x12, .int x13, .int x14, .int x15, .int x16, .int x17, .int x18, .int x19])), (x0, .inr (1, [.int gp, .int gq, .int gh])), (x2, .inr (0, [.ref ka, .ref xa, .ref ya, .ref za, .ref ca, .int n]))] [.ref h0, .int v, .int w, .int r]) (rq_x (some (.long 0))) 0 0 (fun _ => False) := by
  refine Met.ofW (cc := cX7_castPair) (maxL := 4) (ret := (some .long)) (by decide) rfl ?_
  intro p e s m args below meth c s₁ B hml hv
  obtain ⟨rfl, hP, hK⟩ := hv
  have hx := B.exec
  have hb := B.bytes
  have hr := B.returns
  have hts := atoms_spec (ws := wsX7_castPair) B.pre
  have hown : s.vm.findClass RX7 = some m.cls := findClass_of_methodNamed B.named
  have hlocks := B.notSynchronized
  have hin_X7 : ∀ w ∈ wsX70, w ∈ wsX7_castPair := fun w h => List.mem_cons_of_mem _ (List.mem_append_left _ (List.mem_append_left _ (List.mem_append_left _ (List.mem_append_right _ h))))
  have w_RX7_25 := hts (.fieldLink RX7 25 "MixElection" "group" "LMixElection$Group;") (by decide +kernel)
  have hl := lv_entry ([.ref h0, .int v, .int w, .int r]) (n := 4) (Nat.le_of_ble_eq_true rfl)
  rw [lg_entry_eq]
  generalize (lg_sl ([.ref h0, .int v, .int w, .int r]) ++ List.replicate (4 - (lg_sl ([.ref h0, .int v, .int w, .int r])).length) Slot.unset).toArray = ls at hl ⊢
  have hl : lv_has ls 4 [(0, .ref h0), (1, .int v), (2, .int w), (3, .int r)] := hl
  refine lv_aload_n hx hb dX7_castPair_0 rfl (lv_at hl 0 rfl) ?_
  refine lv_iload_n hx hb dX7_castPair_1 rfl (lv_at hl 1 rfl) ?_
  refine rq_call1 (v := .int (bI (x12 = 1 ∧ 0 ≤ v ∧ v < x13 ∧ n < 500))) (rn_V (As := [.int v]) (rest := []) (ci := 6) (fs := [.ref x0, .ref x1, .ref x2, .int x3, .ref x4, .ref x5, .ref x6, .ref x7, .ref x8, .ref x9, .ref x10, .ref x11, .int x12, .int x13, .int x14, .int x15, .int x16, .int x17, .int x18, .int x19]) ⟨hx, hb, hml, hown, hts⟩ (c_X7_mayCast l D cA h0 x0 x1 x2 x3 x4 x5 x6 x7 x8 x9 x10 x11 x12 x13 x14 x15 x16 x17 x18 x19 ka xa ya za ca n v) rfl (cwV 1 hts gX7_castPair_X7_mayCast rfl rfl rfl (by decide +kernel) ⟨Nat.le_of_ble_eq_true rfl, Nat.le_of_ble_eq_true rfl⟩) hK hP [0, 2] rfl rfl rfl hl.1 rfl (Nat.le_of_ble_eq_true rfl) dX7_castPair_2 ⟨Nat.le_of_ble_eq_true rfl, Nat.le_of_ble_eq_true rfl⟩) ?_
  refine lv_if_eq (tgt := 20) hx hb dX7_castPair_5 (by decide) (fun c_5 => ?_) (fun c_5 => ?_)
  · skip
    refine lv_lconst (v := 0) hx hb dX7_castPair_20 (by decide) ?_
    exact W.lret (v := 0) hx hb hr (fun t ht hW => ⟨congrArg (fun z => Outcome.returned (some (Value.long z))) (rfl), ht⟩) (fun _ h => by cases h) dX7_castPair_21
  · skip
    refine lv_aload_n hx hb dX7_castPair_8 rfl (lv_at hl 0 rfl) ?_
    refine va_get (D := D) (ci := 6) (v := .ref x0) (C := RX7) (T := TX7) (N := 20) hx hb hts hin_X7 hown hK hP 0 rfl rfl 0 (by decide) (w_RX7_25) (fun _ h9 => h9) rfl dX7_castPair_9 ?_
    refine lv_iload_n hx hb dX7_castPair_12 rfl (lv_at hl 2 rfl) ?_
    refine lv_iload_n hx hb dX7_castPair_13 rfl (lv_at hl 3 rfl) ?_
    refine rq_call1 (v := .int (bI ((1 ≤ w ∧ w < gp ∧ pw gp 32 q0 1 w = 1) ∧ (1 ≤ r ∧ r < gp ∧ pw gp 32 q0 1 r = 1)))) (rn_V (As := [.int w, .int r]) (rest := []) (ci := 1) (fs := [.int gp, .int gq, .int gh]) ⟨hx, hb, hml, hown, hts⟩ (c_X1_holdsPair l D cA x0 gp gq gh w r q0 hq0 hQ hgp) rfl (cwV 2 hts gX7_castPair_X1_holdsPair rfl rfl rfl (by decide +kernel) ⟨Nat.le_of_ble_eq_true rfl, Nat.le_of_ble_eq_true rfl⟩) hK hP [1] rfl rfl rfl hl.1 rfl (Nat.le_of_ble_eq_true rfl) dX7_castPair_14 ⟨Nat.le_of_ble_eq_true rfl, Nat.le_of_ble_eq_true rfl⟩) ?_
    refine lv_if_ne (tgt := 22) hx hb dX7_castPair_17 (by decide) (fun c_17 => ?_) (fun c_17 => ?_)
    · skip
      exact absurd ⟨bI_1 c_5, bI_1 c_17⟩ hno
    · skip
      refine lv_lconst (v := 0) hx hb dX7_castPair_20 (by decide) ?_
      exact W.lret (v := 0) hx hb hr (fun t ht hW => ⟨congrArg (fun z => Outcome.returned (some (Value.long z))) (rfl), ht⟩) (fun _ h => by cases h) dX7_castPair_21

set_option maxHeartbeats 4000000 in
set_option maxRecDepth 100000 in
theorem c_X7_castPair_ok (l : Launch) (D : va_G) (cA : Nat → ClassId) (h0 : Nat) (x0 : Nat) (x1 : Nat) (x2 : Nat) (x3 : Int32) (x4 : Nat) (x5 : Nat) (x6 : Nat) (x7 : Nat) (x8 : Nat) (x9 : Nat) (x10 : Nat) (x11 : Nat) (x12 : Int32) (x13 : Int32) (x14 : Int32) (x15 : Int32) (x16 : Int32) (x17 : Int32) (x18 : Int32) (x19 : Int32) (gp : Int32) (gq : Int32) (gh : Int32) (ka : Nat) (xa : Nat) (ya : Nat) (za : Nat) (ca : Nat) (n : Int32) (v : Int32) (w : Int32) (r : Int32) (la : Nat) (lb_ : Nat) (lf : Nat → Int32) (lg : Nat → Int32) (kf : Nat → Int32) (xf : Nat → Int32) (yf : Nat → Int32) (zf : Nat → Int64) (cf : Nat → Int64) (v0 : Nat) (n0 : Nat) (q0 : Nat) (hok : (x12 = 1 ∧ 0 ≤ v ∧ v < x13 ∧ n < 500) ∧ (1 ≤ w ∧ w < gp ∧ pw gp 32 q0 1 w = 1) ∧ (1 ≤ r ∧ r < gp ∧ pw gp 32 q0 1 r = 1)) (hv0 : v = nI v0) (hv4 : v0 < 40) (hbn : n = nI n0) (h6 : n0 < 600) (hq0 : gq = nI q0) (hQ : q0 < 2 ^ 31) (hgp : 0 < gp) : Met l yX7_castPair wsX7_castPair ({ frames := 5, cells := 0, slots := 0, locals := 112 }) (wPc vwCl D cA [(h0, .inr (6, [.ref x0, .ref x1, .ref x2, .int x3, .ref x4, .ref x5, .ref x6, .ref x7, .ref x8, .ref x9, .ref x10, .ref x11, .int x12, .int x13, .int x14, .int x15, .int x16, .int x17, .int x18, .int x19])), (x0, .inr (1, [.int gp, .int gq, .int gh])), (x4, .inr (3, [.ref la, .ref lb_])), (la, .inl (cA 0, 40, .inl lf)), (lb_, .inl (cA 0, 40, .inl lg)), (x2, .inr (0, [.ref ka, .ref xa, .ref ya, .ref za, .ref ca, .int n])), (ka, .inl (cA 0, 600, .inl kf)), (xa, .inl (cA 0, 600, .inl xf)), (ya, .inl (cA 0, 600, .inl yf)), (za, .inl (cA 2, 600, .inr (.inl zf))), (ca, .inl (cA 2, 600, .inr (.inl cf)))] [.ref h0, .int v, .int w, .int r]) (wq_x vwCl D [(h0, .inr (6, [.ref x0, .ref x1, .ref x2, .int x3, .ref x4, .ref x5, .ref x6, .ref x7, .ref x8, .ref x9, .ref x10, .ref x11, .int x12, .int x13, .int x14, .int x15, .int x16, .int x17, .int x18, .int x19])), (x0, .inr (1, [.int gp, .int gq, .int gh])), (x4, .inr (3, [.ref la, .ref lb_])), (la, .inl (cA 0, 40, .inl (upd lf v.toNatClampNeg w))), (lb_, .inl (cA 0, 40, .inl (upd lg v.toNatClampNeg r))), (x2, .inr (0, [.ref ka, .ref xa, .ref ya, .ref za, .ref ca, .int (n + 1)])), (ka, .inl (cA 0, 600, .inl (upd kf n.toNatClampNeg 2))), (xa, .inl (cA 0, 600, .inl (upd xf n.toNatClampNeg v))), (ya, .inl (cA 0, 600, .inl (upd yf n.toNatClampNeg w))), (za, .inl (cA 2, 600, .inr (.inl (vp_updL zf n.toNatClampNeg r.toInt64)))), (ca, .inl (cA 2, 600, .inr (.inl (vp_updL cf n.toNatClampNeg (dg (dg (dg (dg (cho cf n (n - 1)) ((2 : Int32).toInt64)) (v.toInt64)) (w.toInt64)) r.toInt64)))))] (some (.long (dg (dg (dg (dg (cho cf n (n - 1)) ((2 : Int32).toInt64)) (v.toInt64)) (w.toInt64)) r.toInt64))) (wA [(h0, .inr (6, [.ref x0, .ref x1, .ref x2, .int x3, .ref x4, .ref x5, .ref x6, .ref x7, .ref x8, .ref x9, .ref x10, .ref x11, .int x12, .int x13, .int x14, .int x15, .int x16, .int x17, .int x18, .int x19])), (x0, .inr (1, [.int gp, .int gq, .int gh])), (x4, .inr (3, [.ref la, .ref lb_])), (la, .inl (cA 0, 40, .inl lf)), (lb_, .inl (cA 0, 40, .inl lg)), (x2, .inr (0, [.ref ka, .ref xa, .ref ya, .ref za, .ref ca, .int n])), (ka, .inl (cA 0, 600, .inl kf)), (xa, .inl (cA 0, 600, .inl xf)), (ya, .inl (cA 0, 600, .inl yf)), (za, .inl (cA 2, 600, .inr (.inl zf))), (ca, .inl (cA 2, 600, .inr (.inl cf)))])) 0 0 (wA [(h0, .inr (6, [.ref x0, .ref x1, .ref x2, .int x3, .ref x4, .ref x5, .ref x6, .ref x7, .ref x8, .ref x9, .ref x10, .ref x11, .int x12, .int x13, .int x14, .int x15, .int x16, .int x17, .int x18, .int x19])), (x0, .inr (1, [.int gp, .int gq, .int gh])), (x4, .inr (3, [.ref la, .ref lb_])), (la, .inl (cA 0, 40, .inl lf)), (lb_, .inl (cA 0, 40, .inl lg)), (x2, .inr (0, [.ref ka, .ref xa, .ref ya, .ref za, .ref ca, .int n])), (ka, .inl (cA 0, 600, .inl kf)), (xa, .inl (cA 0, 600, .inl xf)), (ya, .inl (cA 0, 600, .inl yf)), (za, .inl (cA 2, 600, .inr (.inl zf))), (ca, .inl (cA 2, 600, .inr (.inl cf)))]) := by
  refine Met.ofW (cc := cX7_castPair) (maxL := 4) (ret := (some .long)) (by decide) rfl ?_
  intro p e s m args below meth c s₁ B hml hv
  obtain ⟨rfl, hP, hK, hD0⟩ := hv
  have hx := B.exec
  have hb := B.bytes
  have hr := B.returns
  have hts := atoms_spec (ws := wsX7_castPair) B.pre
  have hown : s.vm.findClass RX7 = some m.cls := findClass_of_methodNamed B.named
  have hlocks := B.notSynchronized
  have hin_X7 : ∀ w ∈ wsX70, w ∈ wsX7_castPair := fun w h => List.mem_cons_of_mem _ (List.mem_append_left _ (List.mem_append_left _ (List.mem_append_left _ (List.mem_append_right _ h))))
  have w_RX7_25 := hts (.fieldLink RX7 25 "MixElection" "group" "LMixElection$Group;") (by decide +kernel)
  have hD : va_D (wA [(h0, .inr (6, [.ref x0, .ref x1, .ref x2, .int x3, .ref x4, .ref x5, .ref x6, .ref x7, .ref x8, .ref x9, .ref x10, .ref x11, .int x12, .int x13, .int x14, .int x15, .int x16, .int x17, .int x18, .int x19])), (x0, .inr (1, [.int gp, .int gq, .int gh])), (x4, .inr (3, [.ref la, .ref lb_])), (la, .inl (cA 0, 40, .inl lf)), (lb_, .inl (cA 0, 40, .inl lg)), (x2, .inr (0, [.ref ka, .ref xa, .ref ya, .ref za, .ref ca, .int n])), (ka, .inl (cA 0, 600, .inl kf)), (xa, .inl (cA 0, 600, .inl xf)), (ya, .inl (cA 0, 600, .inl yf)), (za, .inl (cA 2, 600, .inr (.inl zf))), (ca, .inl (cA 2, 600, .inr (.inl cf)))]) [(h0, .inr (6, [.ref x0, .ref x1, .ref x2, .int x3, .ref x4, .ref x5, .ref x6, .ref x7, .ref x8, .ref x9, .ref x10, .ref x11, .int x12, .int x13, .int x14, .int x15, .int x16, .int x17, .int x18, .int x19])), (x0, .inr (1, [.int gp, .int gq, .int gh])), (x4, .inr (3, [.ref la, .ref lb_])), (la, .inl (cA 0, 40, .inl lf)), (lb_, .inl (cA 0, 40, .inl lg)), (x2, .inr (0, [.ref ka, .ref xa, .ref ya, .ref za, .ref ca, .int n])), (ka, .inl (cA 0, 600, .inl kf)), (xa, .inl (cA 0, 600, .inl xf)), (ya, .inl (cA 0, 600, .inl yf)), (za, .inl (cA 2, 600, .inr (.inl zf))), (ca, .inl (cA 2, 600, .inr (.inl cf)))] := ⟨hD0.1, fun k q h => List.mem_map.mpr ⟨q, List.mem_of_getElem? h, rfl⟩⟩
  have hS : va_S (wA [(h0, .inr (6, [.ref x0, .ref x1, .ref x2, .int x3, .ref x4, .ref x5, .ref x6, .ref x7, .ref x8, .ref x9, .ref x10, .ref x11, .int x12, .int x13, .int x14, .int x15, .int x16, .int x17, .int x18, .int x19])), (x0, .inr (1, [.int gp, .int gq, .int gh])), (x4, .inr (3, [.ref la, .ref lb_])), (la, .inl (cA 0, 40, .inl lf)), (lb_, .inl (cA 0, 40, .inl lg)), (x2, .inr (0, [.ref ka, .ref xa, .ref ya, .ref za, .ref ca, .int n])), (ka, .inl (cA 0, 600, .inl kf)), (xa, .inl (cA 0, 600, .inl xf)), (ya, .inl (cA 0, 600, .inl yf)), (za, .inl (cA 2, 600, .inr (.inl zf))), (ca, .inl (cA 2, 600, .inr (.inl cf)))]) s.heap s.heap [] := va_S.rf
  generalize hAe : wA [(h0, .inr (6, [.ref x0, .ref x1, .ref x2, .int x3, .ref x4, .ref x5, .ref x6, .ref x7, .ref x8, .ref x9, .ref x10, .ref x11, .int x12, .int x13, .int x14, .int x15, .int x16, .int x17, .int x18, .int x19])), (x0, .inr (1, [.int gp, .int gq, .int gh])), (x4, .inr (3, [.ref la, .ref lb_])), (la, .inl (cA 0, 40, .inl lf)), (lb_, .inl (cA 0, 40, .inl lg)), (x2, .inr (0, [.ref ka, .ref xa, .ref ya, .ref za, .ref ca, .int n])), (ka, .inl (cA 0, 600, .inl kf)), (xa, .inl (cA 0, 600, .inl xf)), (ya, .inl (cA 0, 600, .inl yf)), (za, .inl (cA 2, 600, .inr (.inl zf))), (ca, .inl (cA 2, 600, .inr (.inl cf)))] = A at hD hS ⊢
  have hP : va_P D vwCl [(h0, .inr (6, [.ref x0, .ref x1, .ref x2, .int x3, .ref x4, .ref x5, .ref x6, .ref x7, .ref x8, .ref x9, .ref x10, .ref x11, .int x12, .int x13, .int x14, .int x15, .int x16, .int x17, .int x18, .int x19])), (x0, .inr (1, [.int gp, .int gq, .int gh])), (x4, .inr (3, [.ref la, .ref lb_])), (la, .inl (cA 0, 40, .inl lf)), (lb_, .inl (cA 0, 40, .inl lg)), (x2, .inr (0, [.ref ka, .ref xa, .ref ya, .ref za, .ref ca, .int n])), (ka, .inl (cA 0, 600, .inl kf)), (xa, .inl (cA 0, 600, .inl xf)), (ya, .inl (cA 0, 600, .inl yf)), (za, .inl (cA 2, 600, .inr (.inl zf))), (ca, .inl (cA 2, 600, .inr (.inl cf)))] s.heap := hP
  have hl := lv_entry ([.ref h0, .int v, .int w, .int r]) (n := 4) (Nat.le_of_ble_eq_true rfl)
  rw [lg_entry_eq]
  generalize (lg_sl ([.ref h0, .int v, .int w, .int r]) ++ List.replicate (4 - (lg_sl ([.ref h0, .int v, .int w, .int r])).length) Slot.unset).toArray = ls at hl ⊢
  have hl : lv_has ls 4 [(0, .ref h0), (1, .int v), (2, .int w), (3, .int r)] := hl
  refine lv_aload_n hx hb dX7_castPair_0 rfl (lv_at hl 0 rfl) ?_
  refine lv_iload_n hx hb dX7_castPair_1 rfl (lv_at hl 1 rfl) ?_
  refine rq_call1 (v := .int (bI (x12 = 1 ∧ 0 ≤ v ∧ v < x13 ∧ n < 500))) (rn_V (As := [.int v]) (rest := []) (ci := 6) (fs := [.ref x0, .ref x1, .ref x2, .int x3, .ref x4, .ref x5, .ref x6, .ref x7, .ref x8, .ref x9, .ref x10, .ref x11, .int x12, .int x13, .int x14, .int x15, .int x16, .int x17, .int x18, .int x19]) ⟨hx, hb, hml, hown, hts⟩ (c_X7_mayCast l D cA h0 x0 x1 x2 x3 x4 x5 x6 x7 x8 x9 x10 x11 x12 x13 x14 x15 x16 x17 x18 x19 ka xa ya za ca n v) rfl (cwV 1 hts gX7_castPair_X7_mayCast rfl rfl rfl (by decide +kernel) ⟨Nat.le_of_ble_eq_true rfl, Nat.le_of_ble_eq_true rfl⟩) hK hP [0, 5] rfl rfl rfl hl.1 rfl (Nat.le_of_ble_eq_true rfl) dX7_castPair_2 ⟨Nat.le_of_ble_eq_true rfl, Nat.le_of_ble_eq_true rfl⟩) ?_
  refine lv_if_eq (tgt := 20) hx hb dX7_castPair_5 (by decide) (fun c_5 => ?_) (fun c_5 => ?_)
  · skip
    exact absurd hok.1 (bI_0 c_5)
  · skip
    refine lv_aload_n hx hb dX7_castPair_8 rfl (lv_at hl 0 rfl) ?_
    refine va_get (D := D) (ci := 6) (v := .ref x0) (C := RX7) (T := TX7) (N := 20) hx hb hts hin_X7 hown hK hP 0 rfl rfl 0 (by decide) (w_RX7_25) (fun _ h9 => h9) rfl dX7_castPair_9 ?_
    refine lv_iload_n hx hb dX7_castPair_12 rfl (lv_at hl 2 rfl) ?_
    refine lv_iload_n hx hb dX7_castPair_13 rfl (lv_at hl 3 rfl) ?_
    refine rq_call1 (v := .int (bI ((1 ≤ w ∧ w < gp ∧ pw gp 32 q0 1 w = 1) ∧ (1 ≤ r ∧ r < gp ∧ pw gp 32 q0 1 r = 1)))) (rn_V (As := [.int w, .int r]) (rest := []) (ci := 1) (fs := [.int gp, .int gq, .int gh]) ⟨hx, hb, hml, hown, hts⟩ (c_X1_holdsPair l D cA x0 gp gq gh w r q0 hq0 hQ hgp) rfl (cwV 2 hts gX7_castPair_X1_holdsPair rfl rfl rfl (by decide +kernel) ⟨Nat.le_of_ble_eq_true rfl, Nat.le_of_ble_eq_true rfl⟩) hK hP [1] rfl rfl rfl hl.1 rfl (Nat.le_of_ble_eq_true rfl) dX7_castPair_14 ⟨Nat.le_of_ble_eq_true rfl, Nat.le_of_ble_eq_true rfl⟩) ?_
    refine lv_if_ne (tgt := 22) hx hb dX7_castPair_17 (by decide) (fun c_17 => ?_) (fun c_17 => ?_)
    · skip
      refine lv_aload_n hx hb dX7_castPair_22 rfl (lv_at hl 0 rfl) ?_
      refine lv_iload_n hx hb dX7_castPair_23 rfl (lv_at hl 1 rfl) ?_
      refine lv_iload_n hx hb dX7_castPair_24 rfl (lv_at hl 2 rfl) ?_
      refine lv_iload_n hx hb dX7_castPair_25 rfl (lv_at hl 3 rfl) ?_
      refine wq_call1 (v := .long (dg (dg (dg (dg (cho cf n (n - 1)) ((2 : Int32).toInt64)) (v.toInt64)) (w.toInt64)) r.toInt64)) (wc := [(h0, .inr (6, [.ref x0, .ref x1, .ref x2, .int x3, .ref x4, .ref x5, .ref x6, .ref x7, .ref x8, .ref x9, .ref x10, .ref x11, .int x12, .int x13, .int x14, .int x15, .int x16, .int x17, .int x18, .int x19])), (x4, .inr (3, [.ref la, .ref lb_])), (la, .inl (cA 0, 40, .inl lf)), (lb_, .inl (cA 0, 40, .inl lg)), (x2, .inr (0, [.ref ka, .ref xa, .ref ya, .ref za, .ref ca, .int n])), (ka, .inl (cA 0, 600, .inl kf)), (xa, .inl (cA 0, 600, .inl xf)), (ya, .inl (cA 0, 600, .inl yf)), (za, .inl (cA 2, 600, .inr (.inl zf))), (ca, .inl (cA 2, 600, .inr (.inl cf)))]) (w1 := [(h0, .inr (6, [.ref x0, .ref x1, .ref x2, .int x3, .ref x4, .ref x5, .ref x6, .ref x7, .ref x8, .ref x9, .ref x10, .ref x11, .int x12, .int x13, .int x14, .int x15, .int x16, .int x17, .int x18, .int x19])), (x4, .inr (3, [.ref la, .ref lb_])), (la, .inl (cA 0, 40, .inl (upd lf v.toNatClampNeg w))), (lb_, .inl (cA 0, 40, .inl (upd lg v.toNatClampNeg r))), (x2, .inr (0, [.ref ka, .ref xa, .ref ya, .ref za, .ref ca, .int (n + 1)])), (ka, .inl (cA 0, 600, .inl (upd kf n.toNatClampNeg 2))), (xa, .inl (cA 0, 600, .inl (upd xf n.toNatClampNeg v))), (ya, .inl (cA 0, 600, .inl (upd yf n.toNatClampNeg w))), (za, .inl (cA 2, 600, .inr (.inl (vp_updL zf n.toNatClampNeg r.toInt64)))), (ca, .inl (cA 2, 600, .inr (.inl (vp_updL cf n.toNatClampNeg (dg (dg (dg (dg (cho cf n (n - 1)) ((2 : Int32).toInt64)) (v.toInt64)) (w.toInt64)) r.toInt64)))))]) (ws' := [(h0, .inr (6, [.ref x0, .ref x1, .ref x2, .int x3, .ref x4, .ref x5, .ref x6, .ref x7, .ref x8, .ref x9, .ref x10, .ref x11, .int x12, .int x13, .int x14, .int x15, .int x16, .int x17, .int x18, .int x19])), (x0, .inr (1, [.int gp, .int gq, .int gh])), (x4, .inr (3, [.ref la, .ref lb_])), (la, .inl (cA 0, 40, .inl (upd lf v.toNatClampNeg w))), (lb_, .inl (cA 0, 40, .inl (upd lg v.toNatClampNeg r))), (x2, .inr (0, [.ref ka, .ref xa, .ref ya, .ref za, .ref ca, .int (n + 1)])), (ka, .inl (cA 0, 600, .inl (upd kf n.toNatClampNeg 2))), (xa, .inl (cA 0, 600, .inl (upd xf n.toNatClampNeg v))), (ya, .inl (cA 0, 600, .inl (upd yf n.toNatClampNeg w))), (za, .inl (cA 2, 600, .inr (.inl (vp_updL zf n.toNatClampNeg r.toInt64)))), (ca, .inl (cA 2, 600, .inr (.inl (vp_updL cf n.toNatClampNeg (dg (dg (dg (dg (cho cf n (n - 1)) ((2 : Int32).toInt64)) (v.toInt64)) (w.toInt64)) r.toInt64)))))]) (wn_V (As := [.int v, .int w, .int r]) (rest := []) (ci := 6) (fs := [.ref x0, .ref x1, .ref x2, .int x3, .ref x4, .ref x5, .ref x6, .ref x7, .ref x8, .ref x9, .ref x10, .ref x11, .int x12, .int x13, .int x14, .int x15, .int x16, .int x17, .int x18, .int x19]) ⟨hx, hb, hml, hown, hts⟩ (c_X7_post l D cA h0 x0 x1 x2 x3 x4 x5 x6 x7 x8 x9 x10 x11 x12 x13 x14 x15 x16 x17 x18 x19 la lb_ lf lg v w r v0 ka xa ya za ca n kf xf yf zf cf n0 hv0 hv4 hbn h6) rfl (cwV 3 hts gX7_castPair_X7_post rfl rfl rfl (by decide +kernel) ⟨Nat.le_of_ble_eq_true rfl, Nat.le_of_ble_eq_true rfl⟩) hK hP hD [0, 2, 3, 4, 5, 6, 7, 8, 9, 10] rfl (by decide) rfl rfl rfl hl.1 rfl (Nat.le_of_ble_eq_true rfl) dX7_castPair_26 ⟨Nat.le_of_ble_eq_true rfl, Nat.le_of_ble_eq_true rfl⟩) hP hD hS [0, 2, 3, 4, 5, 6, 7, 8, 9, 10] [1] rfl rfl rfl rfl rfl rfl (fun H locs hP hD hS => ?_)
      have hP9 : va_P D vwCl [(h0, .inr (6, [.ref x0, .ref x1, .ref x2, .int x3, .ref x4, .ref x5, .ref x6, .ref x7, .ref x8, .ref x9, .ref x10, .ref x11, .int x12, .int x13, .int x14, .int x15, .int x16, .int x17, .int x18, .int x19])), (x0, .inr (1, [.int gp, .int gq, .int gh])), (x4, .inr (3, [.ref la, .ref lb_])), (la, .inl (cA 0, 40, .inl (upd lf v.toNatClampNeg w))), (lb_, .inl (cA 0, 40, .inl (upd lg v.toNatClampNeg r))), (x2, .inr (0, [.ref ka, .ref xa, .ref ya, .ref za, .ref ca, .int (n + 1)])), (ka, .inl (cA 0, 600, .inl (upd kf n.toNatClampNeg 2))), (xa, .inl (cA 0, 600, .inl (upd xf n.toNatClampNeg v))), (ya, .inl (cA 0, 600, .inl (upd yf n.toNatClampNeg w))), (za, .inl (cA 2, 600, .inr (.inl (vp_updL zf n.toNatClampNeg r.toInt64)))), (ca, .inl (cA 2, 600, .inr (.inl (vp_updL cf n.toNatClampNeg (dg (dg (dg (dg (cho cf n (n - 1)) ((2 : Int32).toInt64)) (v.toInt64)) (w.toInt64)) r.toInt64)))))] H := hP
      exact W.lret (v := (dg (dg (dg (dg (cho cf n (n - 1)) ((2 : Int32).toInt64)) (v.toInt64)) (w.toInt64)) r.toInt64)) hx hb hr (fun t ht hW => ⟨congrArg (fun z => Outcome.returned (some (Value.long z))) (rfl), by rw [ht]; exact hP9, hS.F ht⟩) hS.2.2 dX7_castPair_29
    · skip
      exact absurd hok.2 (bI_0 c_17)

set_option maxHeartbeats 4000000 in
set_option maxRecDepth 100000 in
theorem c_X7_place_no (l : Launch) (D : va_G) (cA : Nat → ClassId) (h0 : Nat) (x0 : Nat) (x1 : Nat) (x2 : Nat) (x3 : Int32) (x4 : Nat) (x5 : Nat) (x6 : Nat) (x7 : Nat) (x8 : Nat) (x9 : Nat) (x10 : Nat) (x11 : Nat) (x12 : Int32) (x13 : Int32) (x14 : Int32) (x15 : Int32) (x16 : Int32) (x17 : Int32) (x18 : Int32) (x19 : Int32) (gp : Int32) (gq : Int32) (gh : Int32) (v : Int32) (w : Int32) (r : Int32) (hno : ¬ (x12 = 2 ∧ (0 ≤ v ∧ v < x14) ∧ (0 ≤ w ∧ w < x14) ∧ (0 ≤ r ∧ r < gq))) : Met l yX7_place wsX7_place ({ frames := 1, cells := 0, slots := 0, locals := 21 }) (rPc vwCl D cA [(h0, .inr (6, [.ref x0, .ref x1, .ref x2, .int x3, .ref x4, .ref x5, .ref x6, .ref x7, .ref x8, .ref x9, .ref x10, .ref x11, .int x12, .int x13, .int x14, .int x15, .int x16, .int x17, .int x18, .int x19])), (x0, .inr (1, [.int gp, .int gq, .int gh]))] [.ref h0, .int v, .int w, .int r]) (rq_x (some (.int 0))) 0 0 (fun _ => False) := by
  refine Met.ofW (cc := cX7_place) (maxL := 4) (ret := (some .boolean)) (by decide) rfl ?_
  intro p e s m args below meth c s₁ B hml hv
  obtain ⟨rfl, hP, hK⟩ := hv
  have hx := B.exec
  have hb := B.bytes
  have hr := B.returns
  have hts := atoms_spec (ws := wsX7_place) B.pre
  have hown : s.vm.findClass RX7 = some m.cls := findClass_of_methodNamed B.named
  have hlocks := B.notSynchronized
  have hin_X7 : ∀ w ∈ wsX70, w ∈ wsX7_place := fun w h => List.mem_cons_of_mem _ (List.mem_append_left _ (List.mem_append_left _ (List.mem_append_left _ (List.mem_append_right _ h))))
  have w_RX7_97 := hts (.fieldLink RX7 97 "MixElection" "stage" "I") (by decide +kernel)
  have w_RX7_25 := hts (.fieldLink RX7 25 "MixElection" "group" "LMixElection$Group;") (by decide +kernel)
  have hl := lv_entry ([.ref h0, .int v, .int w, .int r]) (n := 4) (Nat.le_of_ble_eq_true rfl)
  rw [lg_entry_eq]
  generalize (lg_sl ([.ref h0, .int v, .int w, .int r]) ++ List.replicate (4 - (lg_sl ([.ref h0, .int v, .int w, .int r])).length) Slot.unset).toArray = ls at hl ⊢
  have hl : lv_has ls 4 [(0, .ref h0), (1, .int v), (2, .int w), (3, .int r)] := hl
  refine lv_aload_n hx hb dX7_place_0 rfl (lv_at hl 0 rfl) ?_
  refine va_get (D := D) (ci := 6) (v := .int x12) (C := RX7) (T := TX7) (N := 20) hx hb hts hin_X7 hown hK hP 0 rfl rfl 12 (by decide) (w_RX7_97) (fun _ h9 => h9) rfl dX7_place_1 ?_
  refine lv_iconst (v := 2) hx hb dX7_place_4 (by decide) ?_
  refine lv_icmp_ne (tgt := 35) hx hb dX7_place_5 (by decide) (fun c_5 => ?_) (fun c_5 => ?_)
  · skip
    refine lv_iconst (v := 0) hx hb dX7_place_35 (by decide) ?_
    exact W.zret (v := 0) hx hb hr rfl (fun t ht hW => ⟨congrArg (fun z => Outcome.returned (some (Value.int z))) (rfl), ht⟩) (fun _ h => by cases h) dX7_place_36
  · skip
    refine lv_aload_n hx hb dX7_place_8 rfl (lv_at hl 0 rfl) ?_
    refine lv_iload_n hx hb dX7_place_9 rfl (lv_at hl 1 rfl) ?_
    refine rq_call1 (v := .int (bI (0 ≤ v ∧ v < x14))) (rn_V (As := [.int v]) (rest := []) (ci := 6) (fs := [.ref x0, .ref x1, .ref x2, .int x3, .ref x4, .ref x5, .ref x6, .ref x7, .ref x8, .ref x9, .ref x10, .ref x11, .int x12, .int x13, .int x14, .int x15, .int x16, .int x17, .int x18, .int x19]) ⟨hx, hb, hml, hown, hts⟩ (c_X7_isBallot l D cA h0 x0 x1 x2 x3 x4 x5 x6 x7 x8 x9 x10 x11 x12 x13 x14 x15 x16 x17 x18 x19 v) rfl (cwV 1 hts gX7_place_X7_isBallot rfl rfl rfl (by decide +kernel) ⟨Nat.le_of_ble_eq_true rfl, Nat.le_of_ble_eq_true rfl⟩) hK hP [0] rfl rfl rfl hl.1 rfl (Nat.le_of_ble_eq_true rfl) dX7_place_10 ⟨Nat.le_of_ble_eq_true rfl, Nat.le_of_ble_eq_true rfl⟩) ?_
    refine lv_if_eq (tgt := 35) hx hb dX7_place_13 (by decide) (fun c_13 => ?_) (fun c_13 => ?_)
    · skip
      refine lv_iconst (v := 0) hx hb dX7_place_35 (by decide) ?_
      exact W.zret (v := 0) hx hb hr rfl (fun t ht hW => ⟨congrArg (fun z => Outcome.returned (some (Value.int z))) (rfl), ht⟩) (fun _ h => by cases h) dX7_place_36
    · skip
      refine lv_aload_n hx hb dX7_place_16 rfl (lv_at hl 0 rfl) ?_
      refine lv_iload_n hx hb dX7_place_17 rfl (lv_at hl 2 rfl) ?_
      refine rq_call1 (v := .int (bI (0 ≤ w ∧ w < x14))) (rn_V (As := [.int w]) (rest := []) (ci := 6) (fs := [.ref x0, .ref x1, .ref x2, .int x3, .ref x4, .ref x5, .ref x6, .ref x7, .ref x8, .ref x9, .ref x10, .ref x11, .int x12, .int x13, .int x14, .int x15, .int x16, .int x17, .int x18, .int x19]) ⟨hx, hb, hml, hown, hts⟩ (c_X7_isBallot l D cA h0 x0 x1 x2 x3 x4 x5 x6 x7 x8 x9 x10 x11 x12 x13 x14 x15 x16 x17 x18 x19 w) rfl (cwV 1 hts gX7_place_X7_isBallot rfl rfl rfl (by decide +kernel) ⟨Nat.le_of_ble_eq_true rfl, Nat.le_of_ble_eq_true rfl⟩) hK hP [0] rfl rfl rfl hl.1 rfl (Nat.le_of_ble_eq_true rfl) dX7_place_18 ⟨Nat.le_of_ble_eq_true rfl, Nat.le_of_ble_eq_true rfl⟩) ?_
      refine lv_if_eq (tgt := 35) hx hb dX7_place_21 (by decide) (fun c_21 => ?_) (fun c_21 => ?_)
      · skip
        refine lv_iconst (v := 0) hx hb dX7_place_35 (by decide) ?_
        exact W.zret (v := 0) hx hb hr rfl (fun t ht hW => ⟨congrArg (fun z => Outcome.returned (some (Value.int z))) (rfl), ht⟩) (fun _ h => by cases h) dX7_place_36
      · skip
        refine lv_aload_n hx hb dX7_place_24 rfl (lv_at hl 0 rfl) ?_
        refine va_get (D := D) (ci := 6) (v := .ref x0) (C := RX7) (T := TX7) (N := 20) hx hb hts hin_X7 hown hK hP 0 rfl rfl 0 (by decide) (w_RX7_25) (fun _ h9 => h9) rfl dX7_place_25 ?_
        refine lv_iload_n hx hb dX7_place_28 rfl (lv_at hl 3 rfl) ?_
        refine rq_call1 (v := .int (bI (0 ≤ r ∧ r < gq))) (rn_V (As := [.int r]) (rest := []) (ci := 1) (fs := [.int gp, .int gq, .int gh]) ⟨hx, hb, hml, hown, hts⟩ (c_X1_isExponent l D cA x0 gp gq gh r) rfl (cwV 1 hts gX7_place_X1_isExponent rfl rfl rfl (by decide +kernel) ⟨Nat.le_of_ble_eq_true rfl, Nat.le_of_ble_eq_true rfl⟩) hK hP [1] rfl rfl rfl hl.1 rfl (Nat.le_of_ble_eq_true rfl) dX7_place_29 ⟨Nat.le_of_ble_eq_true rfl, Nat.le_of_ble_eq_true rfl⟩) ?_
        refine lv_if_ne (tgt := 37) hx hb dX7_place_32 (by decide) (fun c_32 => ?_) (fun c_32 => ?_)
        · skip
          exact absurd ⟨c_5, bI_1 c_13, bI_1 c_21, bI_1 c_32⟩ hno
        · skip
          refine lv_iconst (v := 0) hx hb dX7_place_35 (by decide) ?_
          exact W.zret (v := 0) hx hb hr rfl (fun t ht hW => ⟨congrArg (fun z => Outcome.returned (some (Value.int z))) (rfl), ht⟩) (fun _ h => by cases h) dX7_place_36

set_option maxHeartbeats 4000000 in
set_option maxRecDepth 100000 in
theorem c_X7_place_ok (l : Launch) (D : va_G) (cA : Nat → ClassId) (h0 : Nat) (x0 : Nat) (x1 : Nat) (x2 : Nat) (x3 : Int32) (x4 : Nat) (x5 : Nat) (x6 : Nat) (x7 : Nat) (x8 : Nat) (x9 : Nat) (x10 : Nat) (x11 : Nat) (x12 : Int32) (x13 : Int32) (x14 : Int32) (x15 : Int32) (x16 : Int32) (x17 : Int32) (x18 : Int32) (x19 : Int32) (gp : Int32) (gq : Int32) (gh : Int32) (v : Int32) (w : Int32) (r : Int32) (mo : Nat) (ma : Nat) (mb : Nat) (fo : Nat) (mt : Nat → Int32) (me : Nat → Int32) (v0 : Nat) (hok : x12 = 2 ∧ (0 ≤ v ∧ v < x14) ∧ (0 ≤ w ∧ w < x14) ∧ (0 ≤ r ∧ r < gq)) (hv0 : v = nI v0) (hv4 : v0 < 40) : Met l yX7_place wsX7_place ({ frames := 2, cells := 0, slots := 0, locals := 46 }) (wPc vwCl D cA [(h0, .inr (6, [.ref x0, .ref x1, .ref x2, .int x3, .ref x4, .ref x5, .ref x6, .ref x7, .ref x8, .ref x9, .ref x10, .ref x11, .int x12, .int x13, .int x14, .int x15, .int x16, .int x17, .int x18, .int x19])), (x0, .inr (1, [.int gp, .int gq, .int gh])), (x7, .inr (4, [.ref mo, .ref fo])), (mo, .inr (2, [.ref ma, .ref mb])), (ma, .inl (cA 0, 40, .inl mt)), (mb, .inl (cA 0, 40, .inl me))] [.ref h0, .int v, .int w, .int r]) (wq_x vwCl D [(h0, .inr (6, [.ref x0, .ref x1, .ref x2, .int x3, .ref x4, .ref x5, .ref x6, .ref x7, .ref x8, .ref x9, .ref x10, .ref x11, .int x12, .int x13, .int x14, .int x15, .int x16, .int x17, .int x18, .int x19])), (x0, .inr (1, [.int gp, .int gq, .int gh])), (x7, .inr (4, [.ref mo, .ref fo])), (mo, .inr (2, [.ref ma, .ref mb])), (ma, .inl (cA 0, 40, .inl (upd mt v.toNatClampNeg w))), (mb, .inl (cA 0, 40, .inl (upd me v.toNatClampNeg r)))] (some (.int 1)) (wA [(h0, .inr (6, [.ref x0, .ref x1, .ref x2, .int x3, .ref x4, .ref x5, .ref x6, .ref x7, .ref x8, .ref x9, .ref x10, .ref x11, .int x12, .int x13, .int x14, .int x15, .int x16, .int x17, .int x18, .int x19])), (x0, .inr (1, [.int gp, .int gq, .int gh])), (x7, .inr (4, [.ref mo, .ref fo])), (mo, .inr (2, [.ref ma, .ref mb])), (ma, .inl (cA 0, 40, .inl mt)), (mb, .inl (cA 0, 40, .inl me))])) 0 0 (wA [(h0, .inr (6, [.ref x0, .ref x1, .ref x2, .int x3, .ref x4, .ref x5, .ref x6, .ref x7, .ref x8, .ref x9, .ref x10, .ref x11, .int x12, .int x13, .int x14, .int x15, .int x16, .int x17, .int x18, .int x19])), (x0, .inr (1, [.int gp, .int gq, .int gh])), (x7, .inr (4, [.ref mo, .ref fo])), (mo, .inr (2, [.ref ma, .ref mb])), (ma, .inl (cA 0, 40, .inl mt)), (mb, .inl (cA 0, 40, .inl me))]) := by
  refine Met.ofW (cc := cX7_place) (maxL := 4) (ret := (some .boolean)) (by decide) rfl ?_
  intro p e s m args below meth c s₁ B hml hv
  obtain ⟨rfl, hP, hK, hD0⟩ := hv
  have hx := B.exec
  have hb := B.bytes
  have hr := B.returns
  have hts := atoms_spec (ws := wsX7_place) B.pre
  have hown : s.vm.findClass RX7 = some m.cls := findClass_of_methodNamed B.named
  have hlocks := B.notSynchronized
  have hin_X7 : ∀ w ∈ wsX70, w ∈ wsX7_place := fun w h => List.mem_cons_of_mem _ (List.mem_append_left _ (List.mem_append_left _ (List.mem_append_left _ (List.mem_append_right _ h))))
  have w_RX7_97 := hts (.fieldLink RX7 97 "MixElection" "stage" "I") (by decide +kernel)
  have w_RX7_25 := hts (.fieldLink RX7 25 "MixElection" "group" "LMixElection$Group;") (by decide +kernel)
  have w_RX7_76 := hts (.fieldLink RX7 76 "MixElection" "staging" "LMixElection$Staging;") (by decide +kernel)
  have hD : va_D (wA [(h0, .inr (6, [.ref x0, .ref x1, .ref x2, .int x3, .ref x4, .ref x5, .ref x6, .ref x7, .ref x8, .ref x9, .ref x10, .ref x11, .int x12, .int x13, .int x14, .int x15, .int x16, .int x17, .int x18, .int x19])), (x0, .inr (1, [.int gp, .int gq, .int gh])), (x7, .inr (4, [.ref mo, .ref fo])), (mo, .inr (2, [.ref ma, .ref mb])), (ma, .inl (cA 0, 40, .inl mt)), (mb, .inl (cA 0, 40, .inl me))]) [(h0, .inr (6, [.ref x0, .ref x1, .ref x2, .int x3, .ref x4, .ref x5, .ref x6, .ref x7, .ref x8, .ref x9, .ref x10, .ref x11, .int x12, .int x13, .int x14, .int x15, .int x16, .int x17, .int x18, .int x19])), (x0, .inr (1, [.int gp, .int gq, .int gh])), (x7, .inr (4, [.ref mo, .ref fo])), (mo, .inr (2, [.ref ma, .ref mb])), (ma, .inl (cA 0, 40, .inl mt)), (mb, .inl (cA 0, 40, .inl me))] := ⟨hD0.1, fun k q h => List.mem_map.mpr ⟨q, List.mem_of_getElem? h, rfl⟩⟩
  have hS : va_S (wA [(h0, .inr (6, [.ref x0, .ref x1, .ref x2, .int x3, .ref x4, .ref x5, .ref x6, .ref x7, .ref x8, .ref x9, .ref x10, .ref x11, .int x12, .int x13, .int x14, .int x15, .int x16, .int x17, .int x18, .int x19])), (x0, .inr (1, [.int gp, .int gq, .int gh])), (x7, .inr (4, [.ref mo, .ref fo])), (mo, .inr (2, [.ref ma, .ref mb])), (ma, .inl (cA 0, 40, .inl mt)), (mb, .inl (cA 0, 40, .inl me))]) s.heap s.heap [] := va_S.rf
  generalize hAe : wA [(h0, .inr (6, [.ref x0, .ref x1, .ref x2, .int x3, .ref x4, .ref x5, .ref x6, .ref x7, .ref x8, .ref x9, .ref x10, .ref x11, .int x12, .int x13, .int x14, .int x15, .int x16, .int x17, .int x18, .int x19])), (x0, .inr (1, [.int gp, .int gq, .int gh])), (x7, .inr (4, [.ref mo, .ref fo])), (mo, .inr (2, [.ref ma, .ref mb])), (ma, .inl (cA 0, 40, .inl mt)), (mb, .inl (cA 0, 40, .inl me))] = A at hD hS ⊢
  have hP : va_P D vwCl [(h0, .inr (6, [.ref x0, .ref x1, .ref x2, .int x3, .ref x4, .ref x5, .ref x6, .ref x7, .ref x8, .ref x9, .ref x10, .ref x11, .int x12, .int x13, .int x14, .int x15, .int x16, .int x17, .int x18, .int x19])), (x0, .inr (1, [.int gp, .int gq, .int gh])), (x7, .inr (4, [.ref mo, .ref fo])), (mo, .inr (2, [.ref ma, .ref mb])), (ma, .inl (cA 0, 40, .inl mt)), (mb, .inl (cA 0, 40, .inl me))] s.heap := hP
  have hl := lv_entry ([.ref h0, .int v, .int w, .int r]) (n := 4) (Nat.le_of_ble_eq_true rfl)
  rw [lg_entry_eq]
  generalize (lg_sl ([.ref h0, .int v, .int w, .int r]) ++ List.replicate (4 - (lg_sl ([.ref h0, .int v, .int w, .int r])).length) Slot.unset).toArray = ls at hl ⊢
  have hl : lv_has ls 4 [(0, .ref h0), (1, .int v), (2, .int w), (3, .int r)] := hl
  refine lv_aload_n hx hb dX7_place_0 rfl (lv_at hl 0 rfl) ?_
  refine va_get (D := D) (ci := 6) (v := .int x12) (C := RX7) (T := TX7) (N := 20) hx hb hts hin_X7 hown hK hP 0 rfl rfl 12 (by decide) (w_RX7_97) (fun _ h9 => h9) rfl dX7_place_1 ?_
  refine lv_iconst (v := 2) hx hb dX7_place_4 (by decide) ?_
  refine lv_icmp_ne (tgt := 35) hx hb dX7_place_5 (by decide) (fun c_5 => ?_) (fun c_5 => ?_)
  · skip
    exact absurd hok.1 c_5
  · skip
    refine lv_aload_n hx hb dX7_place_8 rfl (lv_at hl 0 rfl) ?_
    refine lv_iload_n hx hb dX7_place_9 rfl (lv_at hl 1 rfl) ?_
    refine rq_call1 (v := .int (bI (0 ≤ v ∧ v < x14))) (rn_V (As := [.int v]) (rest := []) (ci := 6) (fs := [.ref x0, .ref x1, .ref x2, .int x3, .ref x4, .ref x5, .ref x6, .ref x7, .ref x8, .ref x9, .ref x10, .ref x11, .int x12, .int x13, .int x14, .int x15, .int x16, .int x17, .int x18, .int x19]) ⟨hx, hb, hml, hown, hts⟩ (c_X7_isBallot l D cA h0 x0 x1 x2 x3 x4 x5 x6 x7 x8 x9 x10 x11 x12 x13 x14 x15 x16 x17 x18 x19 v) rfl (cwV 1 hts gX7_place_X7_isBallot rfl rfl rfl (by decide +kernel) ⟨Nat.le_of_ble_eq_true rfl, Nat.le_of_ble_eq_true rfl⟩) hK hP [0] rfl rfl rfl hl.1 rfl (Nat.le_of_ble_eq_true rfl) dX7_place_10 ⟨Nat.le_of_ble_eq_true rfl, Nat.le_of_ble_eq_true rfl⟩) ?_
    refine lv_if_eq (tgt := 35) hx hb dX7_place_13 (by decide) (fun c_13 => ?_) (fun c_13 => ?_)
    · skip
      exact absurd hok.2.1 (bI_0 c_13)
    · skip
      refine lv_aload_n hx hb dX7_place_16 rfl (lv_at hl 0 rfl) ?_
      refine lv_iload_n hx hb dX7_place_17 rfl (lv_at hl 2 rfl) ?_
      refine rq_call1 (v := .int (bI (0 ≤ w ∧ w < x14))) (rn_V (As := [.int w]) (rest := []) (ci := 6) (fs := [.ref x0, .ref x1, .ref x2, .int x3, .ref x4, .ref x5, .ref x6, .ref x7, .ref x8, .ref x9, .ref x10, .ref x11, .int x12, .int x13, .int x14, .int x15, .int x16, .int x17, .int x18, .int x19]) ⟨hx, hb, hml, hown, hts⟩ (c_X7_isBallot l D cA h0 x0 x1 x2 x3 x4 x5 x6 x7 x8 x9 x10 x11 x12 x13 x14 x15 x16 x17 x18 x19 w) rfl (cwV 1 hts gX7_place_X7_isBallot rfl rfl rfl (by decide +kernel) ⟨Nat.le_of_ble_eq_true rfl, Nat.le_of_ble_eq_true rfl⟩) hK hP [0] rfl rfl rfl hl.1 rfl (Nat.le_of_ble_eq_true rfl) dX7_place_18 ⟨Nat.le_of_ble_eq_true rfl, Nat.le_of_ble_eq_true rfl⟩) ?_
      refine lv_if_eq (tgt := 35) hx hb dX7_place_21 (by decide) (fun c_21 => ?_) (fun c_21 => ?_)
      · skip
        exact absurd hok.2.2.1 (bI_0 c_21)
      · skip
        refine lv_aload_n hx hb dX7_place_24 rfl (lv_at hl 0 rfl) ?_
        refine va_get (D := D) (ci := 6) (v := .ref x0) (C := RX7) (T := TX7) (N := 20) hx hb hts hin_X7 hown hK hP 0 rfl rfl 0 (by decide) (w_RX7_25) (fun _ h9 => h9) rfl dX7_place_25 ?_
        refine lv_iload_n hx hb dX7_place_28 rfl (lv_at hl 3 rfl) ?_
        refine rq_call1 (v := .int (bI (0 ≤ r ∧ r < gq))) (rn_V (As := [.int r]) (rest := []) (ci := 1) (fs := [.int gp, .int gq, .int gh]) ⟨hx, hb, hml, hown, hts⟩ (c_X1_isExponent l D cA x0 gp gq gh r) rfl (cwV 1 hts gX7_place_X1_isExponent rfl rfl rfl (by decide +kernel) ⟨Nat.le_of_ble_eq_true rfl, Nat.le_of_ble_eq_true rfl⟩) hK hP [1] rfl rfl rfl hl.1 rfl (Nat.le_of_ble_eq_true rfl) dX7_place_29 ⟨Nat.le_of_ble_eq_true rfl, Nat.le_of_ble_eq_true rfl⟩) ?_
        refine lv_if_ne (tgt := 37) hx hb dX7_place_32 (by decide) (fun c_32 => ?_) (fun c_32 => ?_)
        · skip
          refine lv_aload_n hx hb dX7_place_37 rfl (lv_at hl 0 rfl) ?_
          refine va_get (D := D) (ci := 6) (v := .ref x7) (C := RX7) (T := TX7) (N := 20) hx hb hts hin_X7 hown hK hP 0 rfl rfl 7 (by decide) (w_RX7_76) (fun _ h9 => h9) rfl dX7_place_38 ?_
          refine lv_iload_n hx hb dX7_place_41 rfl (lv_at hl 1 rfl) ?_
          refine lv_iload_n hx hb dX7_place_42 rfl (lv_at hl 2 rfl) ?_
          refine lv_iload_n hx hb dX7_place_43 rfl (lv_at hl 3 rfl) ?_
          refine wq_call0 (wc := [(x7, .inr (4, [.ref mo, .ref fo])), (mo, .inr (2, [.ref ma, .ref mb])), (ma, .inl (cA 0, 40, .inl mt)), (mb, .inl (cA 0, 40, .inl me))]) (w1 := [(x7, .inr (4, [.ref mo, .ref fo])), (mo, .inr (2, [.ref ma, .ref mb])), (ma, .inl (cA 0, 40, .inl (upd mt v.toNatClampNeg w))), (mb, .inl (cA 0, 40, .inl (upd me v.toNatClampNeg r)))]) (ws' := [(h0, .inr (6, [.ref x0, .ref x1, .ref x2, .int x3, .ref x4, .ref x5, .ref x6, .ref x7, .ref x8, .ref x9, .ref x10, .ref x11, .int x12, .int x13, .int x14, .int x15, .int x16, .int x17, .int x18, .int x19])), (x0, .inr (1, [.int gp, .int gq, .int gh])), (x7, .inr (4, [.ref mo, .ref fo])), (mo, .inr (2, [.ref ma, .ref mb])), (ma, .inl (cA 0, 40, .inl (upd mt v.toNatClampNeg w))), (mb, .inl (cA 0, 40, .inl (upd me v.toNatClampNeg r)))]) (wn_V (As := [.int v, .int w, .int r]) (rest := []) (ci := 4) (fs := [.ref mo, .ref fo]) ⟨hx, hb, hml, hown, hts⟩ (c_X5_move l D cA x7 mo ma mb fo mt me v w r v0 hv0 hv4) rfl (cwV 3 hts gX7_place_X5_move rfl rfl rfl (by decide +kernel) ⟨Nat.le_of_ble_eq_true rfl, Nat.le_of_ble_eq_true rfl⟩) hK hP hD [2, 3, 4, 5] rfl (by decide) rfl rfl rfl hl.1 rfl (Nat.le_of_ble_eq_true rfl) dX7_place_44 ⟨Nat.le_of_ble_eq_true rfl, Nat.le_of_ble_eq_true rfl⟩) hP hD hS [2, 3, 4, 5] [0, 1] rfl rfl rfl rfl rfl rfl (fun H locs hP hD hS => ?_)
          refine lv_iconst (v := 1) hx hb dX7_place_47 (by decide) ?_
          have hP9 : va_P D vwCl [(h0, .inr (6, [.ref x0, .ref x1, .ref x2, .int x3, .ref x4, .ref x5, .ref x6, .ref x7, .ref x8, .ref x9, .ref x10, .ref x11, .int x12, .int x13, .int x14, .int x15, .int x16, .int x17, .int x18, .int x19])), (x0, .inr (1, [.int gp, .int gq, .int gh])), (x7, .inr (4, [.ref mo, .ref fo])), (mo, .inr (2, [.ref ma, .ref mb])), (ma, .inl (cA 0, 40, .inl (upd mt v.toNatClampNeg w))), (mb, .inl (cA 0, 40, .inl (upd me v.toNatClampNeg r)))] H := hP
          exact W.zret (v := 1) hx hb hr rfl (fun t ht hW => ⟨congrArg (fun z => Outcome.returned (some (Value.int z))) (rfl), by rw [ht]; exact hP9, hS.F ht⟩) hS.2.2 dX7_place_48
        · skip
          exact absurd hok.2.2.2 (bI_0 c_32)

set_option maxHeartbeats 4000000 in
set_option maxRecDepth 100000 in
theorem c_X7_forge_no (l : Launch) (D : va_G) (cA : Nat → ClassId) (h0 : Nat) (x0 : Nat) (x1 : Nat) (x2 : Nat) (x3 : Int32) (x4 : Nat) (x5 : Nat) (x6 : Nat) (x7 : Nat) (x8 : Nat) (x9 : Nat) (x10 : Nat) (x11 : Nat) (x12 : Int32) (x13 : Int32) (x14 : Int32) (x15 : Int32) (x16 : Int32) (x17 : Int32) (x18 : Int32) (x19 : Int32) (gp : Int32) (gq : Int32) (gh : Int32) (v : Int32) (w : Int32) (r : Int32) (q0 : Nat) (hno : ¬ (x12 = 2 ∧ (0 ≤ v ∧ v < x14) ∧ (1 ≤ w ∧ w < gp ∧ pw gp 32 q0 1 w = 1) ∧ (1 ≤ r ∧ r < gp ∧ pw gp 32 q0 1 r = 1))) (hq0 : gq = nI q0) (hQ : q0 < 2 ^ 31) (hgp : 0 < gp) : Met l yX7_forge wsX7_forge ({ frames := 5, cells := 0, slots := 0, locals := 112 }) (rPc vwCl D cA [(h0, .inr (6, [.ref x0, .ref x1, .ref x2, .int x3, .ref x4, .ref x5, .ref x6, .ref x7, .ref x8, .ref x9, .ref x10, .ref x11, .int x12, .int x13, .int x14, .int x15, .int x16, .int x17, .int x18, .int x19])), (x0, .inr (1, [.int gp, .int gq, .int gh]))] [.ref h0, .int v, .int w, .int r]) (rq_x (some (.int 0))) 0 0 (fun _ => False) := by
  refine Met.ofW (cc := cX7_forge) (maxL := 4) (ret := (some .boolean)) (by decide) rfl ?_
  intro p e s m args below meth c s₁ B hml hv
  obtain ⟨rfl, hP, hK⟩ := hv
  have hx := B.exec
  have hb := B.bytes
  have hr := B.returns
  have hts := atoms_spec (ws := wsX7_forge) B.pre
  have hown : s.vm.findClass RX7 = some m.cls := findClass_of_methodNamed B.named
  have hlocks := B.notSynchronized
  have hin_X7 : ∀ w ∈ wsX70, w ∈ wsX7_forge := fun w h => List.mem_cons_of_mem _ (List.mem_append_left _ (List.mem_append_left _ (List.mem_append_left _ (List.mem_append_right _ h))))
  have w_RX7_97 := hts (.fieldLink RX7 97 "MixElection" "stage" "I") (by decide +kernel)
  have w_RX7_25 := hts (.fieldLink RX7 25 "MixElection" "group" "LMixElection$Group;") (by decide +kernel)
  have hl := lv_entry ([.ref h0, .int v, .int w, .int r]) (n := 4) (Nat.le_of_ble_eq_true rfl)
  rw [lg_entry_eq]
  generalize (lg_sl ([.ref h0, .int v, .int w, .int r]) ++ List.replicate (4 - (lg_sl ([.ref h0, .int v, .int w, .int r])).length) Slot.unset).toArray = ls at hl ⊢
  have hl : lv_has ls 4 [(0, .ref h0), (1, .int v), (2, .int w), (3, .int r)] := hl
  refine lv_aload_n hx hb dX7_forge_0 rfl (lv_at hl 0 rfl) ?_
  refine va_get (D := D) (ci := 6) (v := .int x12) (C := RX7) (T := TX7) (N := 20) hx hb hts hin_X7 hown hK hP 0 rfl rfl 12 (by decide) (w_RX7_97) (fun _ h9 => h9) rfl dX7_forge_1 ?_
  refine lv_iconst (v := 2) hx hb dX7_forge_4 (by decide) ?_
  refine lv_icmp_ne (tgt := 28) hx hb dX7_forge_5 (by decide) (fun c_5 => ?_) (fun c_5 => ?_)
  · skip
    refine lv_iconst (v := 0) hx hb dX7_forge_28 (by decide) ?_
    exact W.zret (v := 0) hx hb hr rfl (fun t ht hW => ⟨congrArg (fun z => Outcome.returned (some (Value.int z))) (rfl), ht⟩) (fun _ h => by cases h) dX7_forge_29
  · skip
    refine lv_aload_n hx hb dX7_forge_8 rfl (lv_at hl 0 rfl) ?_
    refine lv_iload_n hx hb dX7_forge_9 rfl (lv_at hl 1 rfl) ?_
    refine rq_call1 (v := .int (bI (0 ≤ v ∧ v < x14))) (rn_V (As := [.int v]) (rest := []) (ci := 6) (fs := [.ref x0, .ref x1, .ref x2, .int x3, .ref x4, .ref x5, .ref x6, .ref x7, .ref x8, .ref x9, .ref x10, .ref x11, .int x12, .int x13, .int x14, .int x15, .int x16, .int x17, .int x18, .int x19]) ⟨hx, hb, hml, hown, hts⟩ (c_X7_isBallot l D cA h0 x0 x1 x2 x3 x4 x5 x6 x7 x8 x9 x10 x11 x12 x13 x14 x15 x16 x17 x18 x19 v) rfl (cwV 1 hts gX7_forge_X7_isBallot rfl rfl rfl (by decide +kernel) ⟨Nat.le_of_ble_eq_true rfl, Nat.le_of_ble_eq_true rfl⟩) hK hP [0] rfl rfl rfl hl.1 rfl (Nat.le_of_ble_eq_true rfl) dX7_forge_10 ⟨Nat.le_of_ble_eq_true rfl, Nat.le_of_ble_eq_true rfl⟩) ?_
    refine lv_if_eq (tgt := 28) hx hb dX7_forge_13 (by decide) (fun c_13 => ?_) (fun c_13 => ?_)
    · skip
      refine lv_iconst (v := 0) hx hb dX7_forge_28 (by decide) ?_
      exact W.zret (v := 0) hx hb hr rfl (fun t ht hW => ⟨congrArg (fun z => Outcome.returned (some (Value.int z))) (rfl), ht⟩) (fun _ h => by cases h) dX7_forge_29
    · skip
      refine lv_aload_n hx hb dX7_forge_16 rfl (lv_at hl 0 rfl) ?_
      refine va_get (D := D) (ci := 6) (v := .ref x0) (C := RX7) (T := TX7) (N := 20) hx hb hts hin_X7 hown hK hP 0 rfl rfl 0 (by decide) (w_RX7_25) (fun _ h9 => h9) rfl dX7_forge_17 ?_
      refine lv_iload_n hx hb dX7_forge_20 rfl (lv_at hl 2 rfl) ?_
      refine lv_iload_n hx hb dX7_forge_21 rfl (lv_at hl 3 rfl) ?_
      refine rq_call1 (v := .int (bI ((1 ≤ w ∧ w < gp ∧ pw gp 32 q0 1 w = 1) ∧ (1 ≤ r ∧ r < gp ∧ pw gp 32 q0 1 r = 1)))) (rn_V (As := [.int w, .int r]) (rest := []) (ci := 1) (fs := [.int gp, .int gq, .int gh]) ⟨hx, hb, hml, hown, hts⟩ (c_X1_holdsPair l D cA x0 gp gq gh w r q0 hq0 hQ hgp) rfl (cwV 2 hts gX7_forge_X1_holdsPair rfl rfl rfl (by decide +kernel) ⟨Nat.le_of_ble_eq_true rfl, Nat.le_of_ble_eq_true rfl⟩) hK hP [1] rfl rfl rfl hl.1 rfl (Nat.le_of_ble_eq_true rfl) dX7_forge_22 ⟨Nat.le_of_ble_eq_true rfl, Nat.le_of_ble_eq_true rfl⟩) ?_
      refine lv_if_ne (tgt := 30) hx hb dX7_forge_25 (by decide) (fun c_25 => ?_) (fun c_25 => ?_)
      · skip
        exact absurd ⟨c_5, bI_1 c_13, bI_1 c_25⟩ hno
      · skip
        refine lv_iconst (v := 0) hx hb dX7_forge_28 (by decide) ?_
        exact W.zret (v := 0) hx hb hr rfl (fun t ht hW => ⟨congrArg (fun z => Outcome.returned (some (Value.int z))) (rfl), ht⟩) (fun _ h => by cases h) dX7_forge_29

set_option maxHeartbeats 4000000 in
set_option maxRecDepth 100000 in
theorem c_X7_forge_ok (l : Launch) (D : va_G) (cA : Nat → ClassId) (h0 : Nat) (x0 : Nat) (x1 : Nat) (x2 : Nat) (x3 : Int32) (x4 : Nat) (x5 : Nat) (x6 : Nat) (x7 : Nat) (x8 : Nat) (x9 : Nat) (x10 : Nat) (x11 : Nat) (x12 : Int32) (x13 : Int32) (x14 : Int32) (x15 : Int32) (x16 : Int32) (x17 : Int32) (x18 : Int32) (x19 : Int32) (gp : Int32) (gq : Int32) (gh : Int32) (v : Int32) (w : Int32) (r : Int32) (mo : Nat) (fo : Nat) (fa : Nat) (fb : Nat) (ff : Nat → Int32) (fg : Nat → Int32) (v0 : Nat) (q0 : Nat) (hok : x12 = 2 ∧ (0 ≤ v ∧ v < x14) ∧ (1 ≤ w ∧ w < gp ∧ pw gp 32 q0 1 w = 1) ∧ (1 ≤ r ∧ r < gp ∧ pw gp 32 q0 1 r = 1)) (hv0 : v = nI v0) (hv4 : v0 < 40) (hq0 : gq = nI q0) (hQ : q0 < 2 ^ 31) (hgp : 0 < gp) : Met l yX7_forge wsX7_forge ({ frames := 5, cells := 0, slots := 0, locals := 112 }) (wPc vwCl D cA [(h0, .inr (6, [.ref x0, .ref x1, .ref x2, .int x3, .ref x4, .ref x5, .ref x6, .ref x7, .ref x8, .ref x9, .ref x10, .ref x11, .int x12, .int x13, .int x14, .int x15, .int x16, .int x17, .int x18, .int x19])), (x0, .inr (1, [.int gp, .int gq, .int gh])), (x7, .inr (4, [.ref mo, .ref fo])), (fo, .inr (3, [.ref fa, .ref fb])), (fa, .inl (cA 0, 40, .inl ff)), (fb, .inl (cA 0, 40, .inl fg))] [.ref h0, .int v, .int w, .int r]) (wq_x vwCl D [(h0, .inr (6, [.ref x0, .ref x1, .ref x2, .int x3, .ref x4, .ref x5, .ref x6, .ref x7, .ref x8, .ref x9, .ref x10, .ref x11, .int x12, .int x13, .int x14, .int x15, .int x16, .int x17, .int x18, .int x19])), (x0, .inr (1, [.int gp, .int gq, .int gh])), (x7, .inr (4, [.ref mo, .ref fo])), (fo, .inr (3, [.ref fa, .ref fb])), (fa, .inl (cA 0, 40, .inl (upd ff v.toNatClampNeg w))), (fb, .inl (cA 0, 40, .inl (upd fg v.toNatClampNeg r)))] (some (.int 1)) (wA [(h0, .inr (6, [.ref x0, .ref x1, .ref x2, .int x3, .ref x4, .ref x5, .ref x6, .ref x7, .ref x8, .ref x9, .ref x10, .ref x11, .int x12, .int x13, .int x14, .int x15, .int x16, .int x17, .int x18, .int x19])), (x0, .inr (1, [.int gp, .int gq, .int gh])), (x7, .inr (4, [.ref mo, .ref fo])), (fo, .inr (3, [.ref fa, .ref fb])), (fa, .inl (cA 0, 40, .inl ff)), (fb, .inl (cA 0, 40, .inl fg))])) 0 0 (wA [(h0, .inr (6, [.ref x0, .ref x1, .ref x2, .int x3, .ref x4, .ref x5, .ref x6, .ref x7, .ref x8, .ref x9, .ref x10, .ref x11, .int x12, .int x13, .int x14, .int x15, .int x16, .int x17, .int x18, .int x19])), (x0, .inr (1, [.int gp, .int gq, .int gh])), (x7, .inr (4, [.ref mo, .ref fo])), (fo, .inr (3, [.ref fa, .ref fb])), (fa, .inl (cA 0, 40, .inl ff)), (fb, .inl (cA 0, 40, .inl fg))]) := by
  refine Met.ofW (cc := cX7_forge) (maxL := 4) (ret := (some .boolean)) (by decide) rfl ?_
  intro p e s m args below meth c s₁ B hml hv
  obtain ⟨rfl, hP, hK, hD0⟩ := hv
  have hx := B.exec
  have hb := B.bytes
  have hr := B.returns
  have hts := atoms_spec (ws := wsX7_forge) B.pre
  have hown : s.vm.findClass RX7 = some m.cls := findClass_of_methodNamed B.named
  have hlocks := B.notSynchronized
  have hin_X7 : ∀ w ∈ wsX70, w ∈ wsX7_forge := fun w h => List.mem_cons_of_mem _ (List.mem_append_left _ (List.mem_append_left _ (List.mem_append_left _ (List.mem_append_right _ h))))
  have w_RX7_97 := hts (.fieldLink RX7 97 "MixElection" "stage" "I") (by decide +kernel)
  have w_RX7_25 := hts (.fieldLink RX7 25 "MixElection" "group" "LMixElection$Group;") (by decide +kernel)
  have w_RX7_76 := hts (.fieldLink RX7 76 "MixElection" "staging" "LMixElection$Staging;") (by decide +kernel)
  have hD : va_D (wA [(h0, .inr (6, [.ref x0, .ref x1, .ref x2, .int x3, .ref x4, .ref x5, .ref x6, .ref x7, .ref x8, .ref x9, .ref x10, .ref x11, .int x12, .int x13, .int x14, .int x15, .int x16, .int x17, .int x18, .int x19])), (x0, .inr (1, [.int gp, .int gq, .int gh])), (x7, .inr (4, [.ref mo, .ref fo])), (fo, .inr (3, [.ref fa, .ref fb])), (fa, .inl (cA 0, 40, .inl ff)), (fb, .inl (cA 0, 40, .inl fg))]) [(h0, .inr (6, [.ref x0, .ref x1, .ref x2, .int x3, .ref x4, .ref x5, .ref x6, .ref x7, .ref x8, .ref x9, .ref x10, .ref x11, .int x12, .int x13, .int x14, .int x15, .int x16, .int x17, .int x18, .int x19])), (x0, .inr (1, [.int gp, .int gq, .int gh])), (x7, .inr (4, [.ref mo, .ref fo])), (fo, .inr (3, [.ref fa, .ref fb])), (fa, .inl (cA 0, 40, .inl ff)), (fb, .inl (cA 0, 40, .inl fg))] := ⟨hD0.1, fun k q h => List.mem_map.mpr ⟨q, List.mem_of_getElem? h, rfl⟩⟩
  have hS : va_S (wA [(h0, .inr (6, [.ref x0, .ref x1, .ref x2, .int x3, .ref x4, .ref x5, .ref x6, .ref x7, .ref x8, .ref x9, .ref x10, .ref x11, .int x12, .int x13, .int x14, .int x15, .int x16, .int x17, .int x18, .int x19])), (x0, .inr (1, [.int gp, .int gq, .int gh])), (x7, .inr (4, [.ref mo, .ref fo])), (fo, .inr (3, [.ref fa, .ref fb])), (fa, .inl (cA 0, 40, .inl ff)), (fb, .inl (cA 0, 40, .inl fg))]) s.heap s.heap [] := va_S.rf
  generalize hAe : wA [(h0, .inr (6, [.ref x0, .ref x1, .ref x2, .int x3, .ref x4, .ref x5, .ref x6, .ref x7, .ref x8, .ref x9, .ref x10, .ref x11, .int x12, .int x13, .int x14, .int x15, .int x16, .int x17, .int x18, .int x19])), (x0, .inr (1, [.int gp, .int gq, .int gh])), (x7, .inr (4, [.ref mo, .ref fo])), (fo, .inr (3, [.ref fa, .ref fb])), (fa, .inl (cA 0, 40, .inl ff)), (fb, .inl (cA 0, 40, .inl fg))] = A at hD hS ⊢
  have hP : va_P D vwCl [(h0, .inr (6, [.ref x0, .ref x1, .ref x2, .int x3, .ref x4, .ref x5, .ref x6, .ref x7, .ref x8, .ref x9, .ref x10, .ref x11, .int x12, .int x13, .int x14, .int x15, .int x16, .int x17, .int x18, .int x19])), (x0, .inr (1, [.int gp, .int gq, .int gh])), (x7, .inr (4, [.ref mo, .ref fo])), (fo, .inr (3, [.ref fa, .ref fb])), (fa, .inl (cA 0, 40, .inl ff)), (fb, .inl (cA 0, 40, .inl fg))] s.heap := hP
  have hl := lv_entry ([.ref h0, .int v, .int w, .int r]) (n := 4) (Nat.le_of_ble_eq_true rfl)
  rw [lg_entry_eq]
  generalize (lg_sl ([.ref h0, .int v, .int w, .int r]) ++ List.replicate (4 - (lg_sl ([.ref h0, .int v, .int w, .int r])).length) Slot.unset).toArray = ls at hl ⊢
  have hl : lv_has ls 4 [(0, .ref h0), (1, .int v), (2, .int w), (3, .int r)] := hl
  refine lv_aload_n hx hb dX7_forge_0 rfl (lv_at hl 0 rfl) ?_
  refine va_get (D := D) (ci := 6) (v := .int x12) (C := RX7) (T := TX7) (N := 20) hx hb hts hin_X7 hown hK hP 0 rfl rfl 12 (by decide) (w_RX7_97) (fun _ h9 => h9) rfl dX7_forge_1 ?_
  refine lv_iconst (v := 2) hx hb dX7_forge_4 (by decide) ?_
  refine lv_icmp_ne (tgt := 28) hx hb dX7_forge_5 (by decide) (fun c_5 => ?_) (fun c_5 => ?_)
  · skip
    exact absurd hok.1 c_5
  · skip
    refine lv_aload_n hx hb dX7_forge_8 rfl (lv_at hl 0 rfl) ?_
    refine lv_iload_n hx hb dX7_forge_9 rfl (lv_at hl 1 rfl) ?_
    refine rq_call1 (v := .int (bI (0 ≤ v ∧ v < x14))) (rn_V (As := [.int v]) (rest := []) (ci := 6) (fs := [.ref x0, .ref x1, .ref x2, .int x3, .ref x4, .ref x5, .ref x6, .ref x7, .ref x8, .ref x9, .ref x10, .ref x11, .int x12, .int x13, .int x14, .int x15, .int x16, .int x17, .int x18, .int x19]) ⟨hx, hb, hml, hown, hts⟩ (c_X7_isBallot l D cA h0 x0 x1 x2 x3 x4 x5 x6 x7 x8 x9 x10 x11 x12 x13 x14 x15 x16 x17 x18 x19 v) rfl (cwV 1 hts gX7_forge_X7_isBallot rfl rfl rfl (by decide +kernel) ⟨Nat.le_of_ble_eq_true rfl, Nat.le_of_ble_eq_true rfl⟩) hK hP [0] rfl rfl rfl hl.1 rfl (Nat.le_of_ble_eq_true rfl) dX7_forge_10 ⟨Nat.le_of_ble_eq_true rfl, Nat.le_of_ble_eq_true rfl⟩) ?_
    refine lv_if_eq (tgt := 28) hx hb dX7_forge_13 (by decide) (fun c_13 => ?_) (fun c_13 => ?_)
    · skip
      exact absurd hok.2.1 (bI_0 c_13)
    · skip
      refine lv_aload_n hx hb dX7_forge_16 rfl (lv_at hl 0 rfl) ?_
      refine va_get (D := D) (ci := 6) (v := .ref x0) (C := RX7) (T := TX7) (N := 20) hx hb hts hin_X7 hown hK hP 0 rfl rfl 0 (by decide) (w_RX7_25) (fun _ h9 => h9) rfl dX7_forge_17 ?_
      refine lv_iload_n hx hb dX7_forge_20 rfl (lv_at hl 2 rfl) ?_
      refine lv_iload_n hx hb dX7_forge_21 rfl (lv_at hl 3 rfl) ?_
      refine rq_call1 (v := .int (bI ((1 ≤ w ∧ w < gp ∧ pw gp 32 q0 1 w = 1) ∧ (1 ≤ r ∧ r < gp ∧ pw gp 32 q0 1 r = 1)))) (rn_V (As := [.int w, .int r]) (rest := []) (ci := 1) (fs := [.int gp, .int gq, .int gh]) ⟨hx, hb, hml, hown, hts⟩ (c_X1_holdsPair l D cA x0 gp gq gh w r q0 hq0 hQ hgp) rfl (cwV 2 hts gX7_forge_X1_holdsPair rfl rfl rfl (by decide +kernel) ⟨Nat.le_of_ble_eq_true rfl, Nat.le_of_ble_eq_true rfl⟩) hK hP [1] rfl rfl rfl hl.1 rfl (Nat.le_of_ble_eq_true rfl) dX7_forge_22 ⟨Nat.le_of_ble_eq_true rfl, Nat.le_of_ble_eq_true rfl⟩) ?_
      refine lv_if_ne (tgt := 30) hx hb dX7_forge_25 (by decide) (fun c_25 => ?_) (fun c_25 => ?_)
      · skip
        refine lv_aload_n hx hb dX7_forge_30 rfl (lv_at hl 0 rfl) ?_
        refine va_get (D := D) (ci := 6) (v := .ref x7) (C := RX7) (T := TX7) (N := 20) hx hb hts hin_X7 hown hK hP 0 rfl rfl 7 (by decide) (w_RX7_76) (fun _ h9 => h9) rfl dX7_forge_31 ?_
        refine lv_iload_n hx hb dX7_forge_34 rfl (lv_at hl 1 rfl) ?_
        refine lv_iload_n hx hb dX7_forge_35 rfl (lv_at hl 2 rfl) ?_
        refine lv_iload_n hx hb dX7_forge_36 rfl (lv_at hl 3 rfl) ?_
        refine wq_call0 (wc := [(x7, .inr (4, [.ref mo, .ref fo])), (fo, .inr (3, [.ref fa, .ref fb])), (fa, .inl (cA 0, 40, .inl ff)), (fb, .inl (cA 0, 40, .inl fg))]) (w1 := [(x7, .inr (4, [.ref mo, .ref fo])), (fo, .inr (3, [.ref fa, .ref fb])), (fa, .inl (cA 0, 40, .inl (upd ff v.toNatClampNeg w))), (fb, .inl (cA 0, 40, .inl (upd fg v.toNatClampNeg r)))]) (ws' := [(h0, .inr (6, [.ref x0, .ref x1, .ref x2, .int x3, .ref x4, .ref x5, .ref x6, .ref x7, .ref x8, .ref x9, .ref x10, .ref x11, .int x12, .int x13, .int x14, .int x15, .int x16, .int x17, .int x18, .int x19])), (x0, .inr (1, [.int gp, .int gq, .int gh])), (x7, .inr (4, [.ref mo, .ref fo])), (fo, .inr (3, [.ref fa, .ref fb])), (fa, .inl (cA 0, 40, .inl (upd ff v.toNatClampNeg w))), (fb, .inl (cA 0, 40, .inl (upd fg v.toNatClampNeg r)))]) (wn_V (As := [.int v, .int w, .int r]) (rest := []) (ci := 4) (fs := [.ref mo, .ref fo]) ⟨hx, hb, hml, hown, hts⟩ (c_X5_putForged l D cA x7 mo fo fa fb ff fg v w r v0 hv0 hv4) rfl (cwV 3 hts gX7_forge_X5_putForged rfl rfl rfl (by decide +kernel) ⟨Nat.le_of_ble_eq_true rfl, Nat.le_of_ble_eq_true rfl⟩) hK hP hD [2, 3, 4, 5] rfl (by decide) rfl rfl rfl hl.1 rfl (Nat.le_of_ble_eq_true rfl) dX7_forge_37 ⟨Nat.le_of_ble_eq_true rfl, Nat.le_of_ble_eq_true rfl⟩) hP hD hS [2, 3, 4, 5] [0, 1] rfl rfl rfl rfl rfl rfl (fun H locs hP hD hS => ?_)
        refine lv_iconst (v := 1) hx hb dX7_forge_40 (by decide) ?_
        have hP9 : va_P D vwCl [(h0, .inr (6, [.ref x0, .ref x1, .ref x2, .int x3, .ref x4, .ref x5, .ref x6, .ref x7, .ref x8, .ref x9, .ref x10, .ref x11, .int x12, .int x13, .int x14, .int x15, .int x16, .int x17, .int x18, .int x19])), (x0, .inr (1, [.int gp, .int gq, .int gh])), (x7, .inr (4, [.ref mo, .ref fo])), (fo, .inr (3, [.ref fa, .ref fb])), (fa, .inl (cA 0, 40, .inl (upd ff v.toNatClampNeg w))), (fb, .inl (cA 0, 40, .inl (upd fg v.toNatClampNeg r)))] H := hP
        exact W.zret (v := 1) hx hb hr rfl (fun t ht hW => ⟨congrArg (fun z => Outcome.returned (some (Value.int z))) (rfl), by rw [ht]; exact hP9, hS.F ht⟩) hS.2.2 dX7_forge_41
      · skip
        exact absurd hok.2.2 (bI_0 c_25)

set_option maxHeartbeats 4000000 in
set_option maxRecDepth 100000 in
theorem c_X4_part (l : Launch) (D : va_G) (cA : Nat → ClassId) (h0 : Nat) (a : Nat) (b : Nat) (pf : Nat → Int32) (pg : Nat → Int32) (i : Int32) (w : Int32) : Met l yX4_part wsX4_part ({ frames := 1, cells := 0, slots := 0, locals := 21 }) (rPc vwCl D cA [(h0, .inr (3, [.ref a, .ref b])), (a, .inl (cA 0, 40, .inl pf)), (b, .inl (cA 0, 40, .inl pg))] [.ref h0, .int i, .int w]) (rq_x (some (.int (prt pf pg i w)))) 0 0 (fun _ => False) := by
  refine Met.ofW (cc := cX4_part) (maxL := 3) (ret := (some .int)) (by decide) rfl ?_
  intro p e s m args below meth c s₁ B hml hv
  obtain ⟨rfl, hP, hK⟩ := hv
  have hx := B.exec
  have hb := B.bytes
  have hr := B.returns
  have hts := atoms_spec (ws := wsX4_part) B.pre
  have hown : s.vm.findClass RX4 = some m.cls := findClass_of_methodNamed B.named
  have hlocks := B.notSynchronized
  have hl := lv_entry ([.ref h0, .int i, .int w]) (n := 3) (Nat.le_of_ble_eq_true rfl)
  rw [lg_entry_eq]
  generalize (lg_sl ([.ref h0, .int i, .int w]) ++ List.replicate (3 - (lg_sl ([.ref h0, .int i, .int w])).length) Slot.unset).toArray = ls at hl ⊢
  have hl : lv_has ls 3 [(0, .ref h0), (1, .int i), (2, .int w)] := hl
  refine lv_iload_n hx hb dX4_part_0 rfl (lv_at hl 2 rfl) ?_
  by_cases hw0 : w = 0
  · refine lv_lookup (off := 27) (tgt := 28) hx hb dX4_part_1 (by decide) (by rw [hw0]; decide) (by decide) ?_
    refine lv_aload_n hx hb dX4_part_28 rfl (lv_at hl 0 rfl) ?_
    refine lv_iload_n hx hb dX4_part_29 rfl (lv_at hl 1 rfl) ?_
    refine rq_call1 (v := .int (g40 pf i)) (rn_V (As := [.int i]) (rest := []) (ci := 3) (fs := [.ref a, .ref b]) ⟨hx, hb, hml, hown, hts⟩ (c_X4_first l D cA h0 a b pf pg i) rfl (cwV 1 hts gX4_part_X4_first rfl rfl rfl (by decide +kernel) ⟨Nat.le_of_ble_eq_true rfl, Nat.le_of_ble_eq_true rfl⟩) hK hP [0, 1, 2] rfl rfl rfl hl.1 rfl (Nat.le_of_ble_eq_true rfl) dX4_part_30 ⟨Nat.le_of_ble_eq_true rfl, Nat.le_of_ble_eq_true rfl⟩) ?_
    exact W.iret (v := (g40 pf i)) hx hb hr (fun t ht hW => ⟨congrArg (fun z => Outcome.returned (some (Value.int z))) ((by rw [prt, if_pos hw0])), ht⟩) (fun _ h => by cases h) dX4_part_33
  by_cases hw1 : w = 1
  · refine lv_lookup (off := 33) (tgt := 34) hx hb dX4_part_1 (by decide) (by rw [hw1]; decide) (by decide) ?_
    refine lv_aload_n hx hb dX4_part_34 rfl (lv_at hl 0 rfl) ?_
    refine lv_iload_n hx hb dX4_part_35 rfl (lv_at hl 1 rfl) ?_
    refine rq_call1 (v := .int (g40 pg i)) (rn_V (As := [.int i]) (rest := []) (ci := 3) (fs := [.ref a, .ref b]) ⟨hx, hb, hml, hown, hts⟩ (c_X4_second l D cA h0 a b pf pg i) rfl (cwV 1 hts gX4_part_X4_second rfl rfl rfl (by decide +kernel) ⟨Nat.le_of_ble_eq_true rfl, Nat.le_of_ble_eq_true rfl⟩) hK hP [0, 1, 2] rfl rfl rfl hl.1 rfl (Nat.le_of_ble_eq_true rfl) dX4_part_36 ⟨Nat.le_of_ble_eq_true rfl, Nat.le_of_ble_eq_true rfl⟩) ?_
    exact W.iret (v := (g40 pg i)) hx hb hr (fun t ht hW => ⟨congrArg (fun z => Outcome.returned (some (Value.int z))) ((by rw [prt, if_neg hw0, if_pos hw1])), ht⟩) (fun _ h => by cases h) dX4_part_39
  refine lv_lookup (off := 39) (tgt := 40) hx hb dX4_part_1 (by decide) (by show Op.lookupswitch.offset [(0, 27), (1, 33)] (39) _ = _; rw [lv_osw hw0 (by decide), lv_osw hw1 (by decide)]; rfl) (by decide) ?_
  refine lv_iconst (v := (-1)) hx hb dX4_part_40 (by decide) ?_
  exact W.iret (v := (-1)) hx hb hr (fun t ht hW => ⟨congrArg (fun z => Outcome.returned (some (Value.int z))) ((by rw [prt, if_neg hw0, if_neg hw1])), ht⟩) (fun _ h => by cases h) dX4_part_41

set_option maxHeartbeats 4000000 in
set_option maxRecDepth 100000 in
theorem c_X5_copyMovesTo (l : Launch) (D : va_G) (cA : Nat → ClassId) (sg : Nat) (mo : Nat) (ma : Nat) (mb : Nat) (fo : Nat) (kp : Nat) (kpa : Nat) (kpb : Nat) (mt : Nat → Int32) (me : Nat → Int32) (kf_ : Nat → Int32) (kg_ : Nat → Int32) : Met l yX5_copyMovesTo wsX5_copyMovesTo ({ frames := 2, cells := 0, slots := 0, locals := 45 }) (wPc vwCl D cA [(sg, .inr (4, [.ref mo, .ref fo])), (mo, .inr (2, [.ref ma, .ref mb])), (ma, .inl (cA 0, 40, .inl mt)), (mb, .inl (cA 0, 40, .inl me)), (kp, .inr (2, [.ref kpa, .ref kpb])), (kpa, .inl (cA 0, 40, .inl kf_)), (kpb, .inl (cA 0, 40, .inl kg_))] [.ref sg, .ref kp]) (wq_x vwCl D [(sg, .inr (4, [.ref mo, .ref fo])), (mo, .inr (2, [.ref ma, .ref mb])), (ma, .inl (cA 0, 40, .inl mt)), (mb, .inl (cA 0, 40, .inl me)), (kp, .inr (2, [.ref kpa, .ref kpb])), (kpa, .inl (cA 0, 40, .inl mt)), (kpb, .inl (cA 0, 40, .inl me))] none (wA [(sg, .inr (4, [.ref mo, .ref fo])), (mo, .inr (2, [.ref ma, .ref mb])), (ma, .inl (cA 0, 40, .inl mt)), (mb, .inl (cA 0, 40, .inl me)), (kp, .inr (2, [.ref kpa, .ref kpb])), (kpa, .inl (cA 0, 40, .inl kf_)), (kpb, .inl (cA 0, 40, .inl kg_))])) 0 0 (wA [(sg, .inr (4, [.ref mo, .ref fo])), (mo, .inr (2, [.ref ma, .ref mb])), (ma, .inl (cA 0, 40, .inl mt)), (mb, .inl (cA 0, 40, .inl me)), (kp, .inr (2, [.ref kpa, .ref kpb])), (kpa, .inl (cA 0, 40, .inl kf_)), (kpb, .inl (cA 0, 40, .inl kg_))]) := by
  refine Met.ofW (cc := cX5_copyMovesTo) (maxL := 2) (ret := none) (by decide) rfl ?_
  intro p e s m args below meth c s₁ B hml hv
  obtain ⟨rfl, hP, hK, hD0⟩ := hv
  have hx := B.exec
  have hb := B.bytes
  have hr := B.returns
  have hts := atoms_spec (ws := wsX5_copyMovesTo) B.pre
  have hown : s.vm.findClass RX5 = some m.cls := findClass_of_methodNamed B.named
  have hlocks := B.notSynchronized
  have hin_X5 : ∀ w ∈ wsX50, w ∈ wsX5_copyMovesTo := fun w h => List.mem_cons_of_mem _ (List.mem_append_left _ (List.mem_append_right _ h))
  have w_RX5_12 := hts (.fieldLink RX5 12 "MixElection$Staging" "moves" "LMixElection$Moves;") (by decide +kernel)
  have hD : va_D (wA [(sg, .inr (4, [.ref mo, .ref fo])), (mo, .inr (2, [.ref ma, .ref mb])), (ma, .inl (cA 0, 40, .inl mt)), (mb, .inl (cA 0, 40, .inl me)), (kp, .inr (2, [.ref kpa, .ref kpb])), (kpa, .inl (cA 0, 40, .inl kf_)), (kpb, .inl (cA 0, 40, .inl kg_))]) [(sg, .inr (4, [.ref mo, .ref fo])), (mo, .inr (2, [.ref ma, .ref mb])), (ma, .inl (cA 0, 40, .inl mt)), (mb, .inl (cA 0, 40, .inl me)), (kp, .inr (2, [.ref kpa, .ref kpb])), (kpa, .inl (cA 0, 40, .inl kf_)), (kpb, .inl (cA 0, 40, .inl kg_))] := ⟨hD0.1, fun k q h => List.mem_map.mpr ⟨q, List.mem_of_getElem? h, rfl⟩⟩
  have hS : va_S (wA [(sg, .inr (4, [.ref mo, .ref fo])), (mo, .inr (2, [.ref ma, .ref mb])), (ma, .inl (cA 0, 40, .inl mt)), (mb, .inl (cA 0, 40, .inl me)), (kp, .inr (2, [.ref kpa, .ref kpb])), (kpa, .inl (cA 0, 40, .inl kf_)), (kpb, .inl (cA 0, 40, .inl kg_))]) s.heap s.heap [] := va_S.rf
  generalize hAe : wA [(sg, .inr (4, [.ref mo, .ref fo])), (mo, .inr (2, [.ref ma, .ref mb])), (ma, .inl (cA 0, 40, .inl mt)), (mb, .inl (cA 0, 40, .inl me)), (kp, .inr (2, [.ref kpa, .ref kpb])), (kpa, .inl (cA 0, 40, .inl kf_)), (kpb, .inl (cA 0, 40, .inl kg_))] = A at hD hS ⊢
  have hP : va_P D vwCl [(sg, .inr (4, [.ref mo, .ref fo])), (mo, .inr (2, [.ref ma, .ref mb])), (ma, .inl (cA 0, 40, .inl mt)), (mb, .inl (cA 0, 40, .inl me)), (kp, .inr (2, [.ref kpa, .ref kpb])), (kpa, .inl (cA 0, 40, .inl kf_)), (kpb, .inl (cA 0, 40, .inl kg_))] s.heap := hP
  have hl := lv_entry ([.ref sg, .ref kp]) (n := 2) (Nat.le_of_ble_eq_true rfl)
  rw [lg_entry_eq]
  generalize (lg_sl ([.ref sg, .ref kp]) ++ List.replicate (2 - (lg_sl ([.ref sg, .ref kp])).length) Slot.unset).toArray = ls at hl ⊢
  have hl : lv_has ls 2 [(0, .ref sg), (1, .ref kp)] := hl
  refine lv_aload_n hx hb dX5_copyMovesTo_0 rfl (lv_at hl 1 rfl) ?_
  refine lv_aload_n hx hb dX5_copyMovesTo_1 rfl (lv_at hl 0 rfl) ?_
  refine va_get (D := D) (ci := 4) (v := .ref mo) (C := RX5) (T := TX5) (N := 2) hx hb hts hin_X5 hown hK hP 0 rfl rfl 0 (by decide) (w_RX5_12) (fun _ h9 => h9) rfl dX5_copyMovesTo_2 ?_
  refine wq_call0 (wc := [(kp, .inr (2, [.ref kpa, .ref kpb])), (kpa, .inl (cA 0, 40, .inl kf_)), (kpb, .inl (cA 0, 40, .inl kg_)), (mo, .inr (2, [.ref ma, .ref mb])), (ma, .inl (cA 0, 40, .inl mt)), (mb, .inl (cA 0, 40, .inl me))]) (w1 := [(kp, .inr (2, [.ref kpa, .ref kpb])), (kpa, .inl (cA 0, 40, .inl mt)), (kpb, .inl (cA 0, 40, .inl me)), (mo, .inr (2, [.ref ma, .ref mb])), (ma, .inl (cA 0, 40, .inl mt)), (mb, .inl (cA 0, 40, .inl me))]) (ws' := [(sg, .inr (4, [.ref mo, .ref fo])), (mo, .inr (2, [.ref ma, .ref mb])), (ma, .inl (cA 0, 40, .inl mt)), (mb, .inl (cA 0, 40, .inl me)), (kp, .inr (2, [.ref kpa, .ref kpb])), (kpa, .inl (cA 0, 40, .inl mt)), (kpb, .inl (cA 0, 40, .inl me))]) (wn_V (As := [.ref mo]) (rest := []) (ci := 2) (fs := [.ref kpa, .ref kpb]) ⟨hx, hb, hml, hown, hts⟩ (c_X2_copyFrom l D cA kp kpa kpb mo ma mb kf_ kg_ mt me) rfl (cwV 1 hts gX5_copyMovesTo_X2_copyFrom rfl rfl rfl (by decide +kernel) ⟨Nat.le_of_ble_eq_true rfl, Nat.le_of_ble_eq_true rfl⟩) hK hP hD [4, 5, 6, 1, 2, 3] rfl (by decide) rfl rfl rfl hl.1 rfl (Nat.le_of_ble_eq_true rfl) dX5_copyMovesTo_5 ⟨Nat.le_of_ble_eq_true rfl, Nat.le_of_ble_eq_true rfl⟩) hP hD hS [4, 5, 6, 1, 2, 3] [0] rfl rfl rfl rfl rfl rfl (fun H locs hP hD hS => ?_)
  have hP9 : va_P D vwCl [(sg, .inr (4, [.ref mo, .ref fo])), (mo, .inr (2, [.ref ma, .ref mb])), (ma, .inl (cA 0, 40, .inl mt)), (mb, .inl (cA 0, 40, .inl me)), (kp, .inr (2, [.ref kpa, .ref kpb])), (kpa, .inl (cA 0, 40, .inl mt)), (kpb, .inl (cA 0, 40, .inl me))] H := hP
  exact W.vret hx hb hr (fun t ht hW => ⟨rfl, by rw [ht]; exact hP9, hS.F ht⟩) hS.2.2 dX5_copyMovesTo_8

set_option maxHeartbeats 4000000 in
set_option maxRecDepth 100000 in
theorem c_X6_mayGive (l : Launch) (D : va_G) (cA : Nat → ClassId) (tt : Nat) (g : Nat) (ts : Int32) (tk : Int32) (tco : Nat) (t4 : Nat) (t5 : Nat) (t6 : Nat) (tv : Int32) (j : Int32) (gvn : Nat → Int32) (t0 : Nat) (hts0 : ts = nI t0) (ht5 : t0 ≤ 5) : Met l yX6_mayGive wsX6_mayGive ({ frames := 1, cells := 0, slots := 0, locals := 21 }) (rPc vwCl D cA [(tt, .inr (5, [.ref g, .int ts, .int tk, .ref tco, .ref t4, .ref t5, .ref t6, .int tv])), (t4, .inl (cA 1, (t0 + 1), .inl gvn))] [.ref tt, .int j]) (rq_x (some (.int (bI ((1 ≤ j ∧ j ≤ ts) ∧ gvn j.toNatClampNeg = 0))))) 0 0 (fun _ => False) := by
  refine Met.ofW (cc := cX6_mayGive) (maxL := 2) (ret := (some .boolean)) (by decide) rfl ?_
  intro p e s m args below meth c s₁ B hml hv
  obtain ⟨rfl, hP, hK⟩ := hv
  have hx := B.exec
  have hb := B.bytes
  have hr := B.returns
  have hts := atoms_spec (ws := wsX6_mayGive) B.pre
  have hown : s.vm.findClass RX6 = some m.cls := findClass_of_methodNamed B.named
  have hlocks := B.notSynchronized
  have hin_X6 : ∀ w ∈ wsX60, w ∈ wsX6_mayGive := fun w h => List.mem_cons_of_mem _ (List.mem_append_right _ h)
  have w_RX6_44 := hts (.fieldLink RX6 44 "MixElection$Trustees" "hasGiven" "[Z") (by decide +kernel)
  have hl := lv_entry ([.ref tt, .int j]) (n := 2) (Nat.le_of_ble_eq_true rfl)
  rw [lg_entry_eq]
  generalize (lg_sl ([.ref tt, .int j]) ++ List.replicate (2 - (lg_sl ([.ref tt, .int j])).length) Slot.unset).toArray = ls at hl ⊢
  have hl : lv_has ls 2 [(0, .ref tt), (1, .int j)] := hl
  refine lv_aload_n hx hb dX6_mayGive_0 rfl (lv_at hl 0 rfl) ?_
  refine lv_iload_n hx hb dX6_mayGive_1 rfl (lv_at hl 1 rfl) ?_
  refine rq_call1 (v := .int (bI (1 ≤ j ∧ j ≤ ts))) (rn_V (As := [.int j]) (rest := []) (ci := 5) (fs := [.ref g, .int ts, .int tk, .ref tco, .ref t4, .ref t5, .ref t6, .int tv]) ⟨hx, hb, hml, hown, hts⟩ (c_X6_isTrustee l D cA tt g ts tk tco t4 t5 t6 tv j) rfl (cwV 1 hts gX6_mayGive_X6_isTrustee rfl rfl rfl (by decide +kernel) ⟨Nat.le_of_ble_eq_true rfl, Nat.le_of_ble_eq_true rfl⟩) hK hP [0] rfl rfl rfl hl.1 rfl (Nat.le_of_ble_eq_true rfl) dX6_mayGive_2 ⟨Nat.le_of_ble_eq_true rfl, Nat.le_of_ble_eq_true rfl⟩) ?_
  refine lv_if_eq (tgt := 21) hx hb dX6_mayGive_5 (by decide) (fun c_5 => ?_) (fun c_5 => ?_)
  · skip
    refine lv_iconst (v := 0) hx hb dX6_mayGive_21 (by decide) ?_
    exact W.zret (v := 0) hx hb hr rfl (fun t ht hW => ⟨congrArg (fun z => Outcome.returned (some (Value.int z))) (bI_f (fun h => bI_0 c_5 h.1)), ht⟩) (fun _ h => by cases h) dX6_mayGive_22
  · skip
    refine lv_aload_n hx hb dX6_mayGive_8 rfl (lv_at hl 0 rfl) ?_
    refine va_get (D := D) (ci := 5) (v := .ref t4) (C := RX6) (T := TX6) (N := 8) hx hb hts hin_X6 hown hK hP 0 rfl rfl 4 (by decide) (w_RX6_44) (fun _ h9 => h9) rfl dX6_mayGive_9 ?_
    refine lv_iload_n hx hb dX6_mayGive_12 rfl (lv_at hl 1 rfl) ?_
    refine va_zald hx hb hK hP 1 1 rfl rfl (gv_i1 (bI_1 c_5) hts0 ht5) dX6_mayGive_13 ?_
    refine lv_if_ne (tgt := 21) hx hb dX6_mayGive_14 (by decide) (fun c_14 => ?_) (fun c_14 => ?_)
    · skip
      refine lv_iconst (v := 0) hx hb dX6_mayGive_21 (by decide) ?_
      exact W.zret (v := 0) hx hb hr rfl (fun t ht hW => ⟨congrArg (fun z => Outcome.returned (some (Value.int z))) (bI_f (fun h => c_14 h.2)), ht⟩) (fun _ h => by cases h) dX6_mayGive_22
    · skip
      refine lv_iconst (v := 1) hx hb dX6_mayGive_17 (by decide) ?_
      refine lv_goto (tgt := 22) hx hb dX6_mayGive_18 (by decide) ?_
      exact W.zret (v := 1) hx hb hr rfl (fun t ht hW => ⟨congrArg (fun z => Outcome.returned (some (Value.int z))) (bI_t ⟨bI_1 c_5, c_14⟩), ht⟩) (fun _ h => by cases h) dX6_mayGive_22

set_option maxHeartbeats 4000000 in
set_option maxRecDepth 100000 in
theorem c_X6_gave (l : Launch) (D : va_G) (cA : Nat → ClassId) (tt : Nat) (g : Nat) (ts : Int32) (tk : Int32) (tco : Nat) (t4 : Nat) (t5 : Nat) (t6 : Nat) (tv : Int32) (j : Int32) (gvn : Nat → Int32) (t0 : Nat) (hts0 : ts = nI t0) (ht5 : t0 ≤ 5) : Met l yX6_gave wsX6_gave ({ frames := 1, cells := 0, slots := 0, locals := 21 }) (rPc vwCl D cA [(tt, .inr (5, [.ref g, .int ts, .int tk, .ref tco, .ref t4, .ref t5, .ref t6, .int tv])), (t4, .inl (cA 1, (t0 + 1), .inl gvn))] [.ref tt, .int j]) (rq_x (some (.int (bI ((1 ≤ j ∧ j ≤ ts) ∧ ¬ gvn j.toNatClampNeg = 0))))) 0 0 (fun _ => False) := by
  refine Met.ofW (cc := cX6_gave) (maxL := 2) (ret := (some .boolean)) (by decide) rfl ?_
  intro p e s m args below meth c s₁ B hml hv
  obtain ⟨rfl, hP, hK⟩ := hv
  have hx := B.exec
  have hb := B.bytes
  have hr := B.returns
  have hts := atoms_spec (ws := wsX6_gave) B.pre
  have hown : s.vm.findClass RX6 = some m.cls := findClass_of_methodNamed B.named
  have hlocks := B.notSynchronized
  have hin_X6 : ∀ w ∈ wsX60, w ∈ wsX6_gave := fun w h => List.mem_cons_of_mem _ (List.mem_append_right _ h)
  have w_RX6_44 := hts (.fieldLink RX6 44 "MixElection$Trustees" "hasGiven" "[Z") (by decide +kernel)
  have hl := lv_entry ([.ref tt, .int j]) (n := 2) (Nat.le_of_ble_eq_true rfl)
  rw [lg_entry_eq]
  generalize (lg_sl ([.ref tt, .int j]) ++ List.replicate (2 - (lg_sl ([.ref tt, .int j])).length) Slot.unset).toArray = ls at hl ⊢
  have hl : lv_has ls 2 [(0, .ref tt), (1, .int j)] := hl
  refine lv_aload_n hx hb dX6_gave_0 rfl (lv_at hl 0 rfl) ?_
  refine lv_iload_n hx hb dX6_gave_1 rfl (lv_at hl 1 rfl) ?_
  refine rq_call1 (v := .int (bI (1 ≤ j ∧ j ≤ ts))) (rn_V (As := [.int j]) (rest := []) (ci := 5) (fs := [.ref g, .int ts, .int tk, .ref tco, .ref t4, .ref t5, .ref t6, .int tv]) ⟨hx, hb, hml, hown, hts⟩ (c_X6_isTrustee l D cA tt g ts tk tco t4 t5 t6 tv j) rfl (cwV 1 hts gX6_gave_X6_isTrustee rfl rfl rfl (by decide +kernel) ⟨Nat.le_of_ble_eq_true rfl, Nat.le_of_ble_eq_true rfl⟩) hK hP [0] rfl rfl rfl hl.1 rfl (Nat.le_of_ble_eq_true rfl) dX6_gave_2 ⟨Nat.le_of_ble_eq_true rfl, Nat.le_of_ble_eq_true rfl⟩) ?_
  refine lv_if_eq (tgt := 21) hx hb dX6_gave_5 (by decide) (fun c_5 => ?_) (fun c_5 => ?_)
  · skip
    refine lv_iconst (v := 0) hx hb dX6_gave_21 (by decide) ?_
    exact W.zret (v := 0) hx hb hr rfl (fun t ht hW => ⟨congrArg (fun z => Outcome.returned (some (Value.int z))) (bI_f (fun h => bI_0 c_5 h.1)), ht⟩) (fun _ h => by cases h) dX6_gave_22
  · skip
    refine lv_aload_n hx hb dX6_gave_8 rfl (lv_at hl 0 rfl) ?_
    refine va_get (D := D) (ci := 5) (v := .ref t4) (C := RX6) (T := TX6) (N := 8) hx hb hts hin_X6 hown hK hP 0 rfl rfl 4 (by decide) (w_RX6_44) (fun _ h9 => h9) rfl dX6_gave_9 ?_
    refine lv_iload_n hx hb dX6_gave_12 rfl (lv_at hl 1 rfl) ?_
    refine va_zald hx hb hK hP 1 1 rfl rfl (gv_i1 (bI_1 c_5) hts0 ht5) dX6_gave_13 ?_
    refine lv_if_eq (tgt := 21) hx hb dX6_gave_14 (by decide) (fun c_14 => ?_) (fun c_14 => ?_)
    · skip
      refine lv_iconst (v := 0) hx hb dX6_gave_21 (by decide) ?_
      exact W.zret (v := 0) hx hb hr rfl (fun t ht hW => ⟨congrArg (fun z => Outcome.returned (some (Value.int z))) (bI_f (fun h => h.2 c_14)), ht⟩) (fun _ h => by cases h) dX6_gave_22
    · skip
      refine lv_iconst (v := 1) hx hb dX6_gave_17 (by decide) ?_
      refine lv_goto (tgt := 22) hx hb dX6_gave_18 (by decide) ?_
      exact W.zret (v := 1) hx hb hr rfl (fun t ht hW => ⟨congrArg (fun z => Outcome.returned (some (Value.int z))) (bI_t ⟨bI_1 c_5, c_14⟩), ht⟩) (fun _ h => by cases h) dX6_gave_22
