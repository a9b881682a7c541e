theorem dX0_field_10 : decode cX0_field 10 = .ok (.iload_n 2, 1) := by decide +kernel
theorem dX0_field_11 : decode cX0_field 11 = .ok (.tableswitch 60 0 3 #[29, 37, 45, 53], 29) := by decide +kernel
theorem dX0_field_40 : decode cX0_field 40 = .ok (.aload_n 0, 1) := by decide +kernel
theorem dX0_field_41 : decode cX0_field 41 = .ok (.getfield 9, 3) := by decide +kernel
theorem dX0_field_44 : decode cX0_field 44 = .ok (.iload_n 1, 1) := by decide +kernel
theorem dX0_field_45 : decode cX0_field 45 = .ok (.iaload, 1) := by decide +kernel
theorem dX0_field_46 : decode cX0_field 46 = .ok (.i2l, 1) := by decide +kernel
theorem dX0_field_47 : decode cX0_field 47 = .ok (.lreturn, 1) := by decide +kernel
theorem dX0_field_48 : decode cX0_field 48 = .ok (.aload_n 0, 1) := by decide +kernel
theorem dX0_field_49 : decode cX0_field 49 = .ok (.getfield 15, 3) := by decide +kernel
theorem dX0_field_52 : decode cX0_field 52 = .ok (.iload_n 1, 1) := by decide +kernel
theorem dX0_field_53 : decode cX0_field 53 = .ok (.iaload, 1) := by decide +kernel
theorem dX0_field_54 : decode cX0_field 54 = .ok (.i2l, 1) := by decide +kernel
theorem dX0_field_55 : decode cX0_field 55 = .ok (.lreturn, 1) := by decide +kernel
theorem dX0_field_56 : decode cX0_field 56 = .ok (.aload_n 0, 1) := by decide +kernel
theorem dX0_field_57 : decode cX0_field 57 = .ok (.getfield 18, 3) := by decide +kernel
theorem dX0_field_60 : decode cX0_field 60 = .ok (.iload_n 1, 1) := by decide +kernel
theorem dX0_field_61 : decode cX0_field 61 = .ok (.iaload, 1) := by decide +kernel
theorem dX0_field_62 : decode cX0_field 62 = .ok (.i2l, 1) := by decide +kernel
theorem dX0_field_63 : decode cX0_field 63 = .ok (.lreturn, 1) := by decide +kernel
theorem dX0_field_64 : decode cX0_field 64 = .ok (.aload_n 0, 1) := by decide +kernel
theorem dX0_field_65 : decode cX0_field 65 = .ok (.getfield 21, 3) := by decide +kernel
theorem dX0_field_68 : decode cX0_field 68 = .ok (.iload_n 1, 1) := by decide +kernel
theorem dX0_field_69 : decode cX0_field 69 = .ok (.laload, 1) := by decide +kernel
theorem dX0_field_70 : decode cX0_field 70 = .ok (.lreturn, 1) := by decide +kernel
theorem dX0_field_71 : decode cX0_field 71 = .ok (.lconst 0, 1) := by decide +kernel
theorem dX0_field_72 : decode cX0_field 72 = .ok (.lreturn, 1) := by decide +kernel
set_option maxRecDepth 20000 in
theorem ggX2_isWhole_X2_target : GoodIn wsX2_isWhole wsX2_target := goodIn_r _ [5, 6, 7, 8] (by decide +kernel) (by decide +kernel)
set_option maxRecDepth 20000 in
theorem gX2_isWhole_X2_target : GoodIn wsX2_isWhole (wsV RX2 27 RX2 yX2_target wsX2_target) := goodIn_app (goodIn_of _ (by decide +kernel)) ggX2_isWhole_X2_target
theorem dX2_isWhole_0 : decode cX2_isWhole 0 = .ok (.lconst 0, 1) := by decide +kernel
theorem dX2_isWhole_1 : decode cX2_isWhole 1 = .ok (.lstore_n 2, 1) := by decide +kernel
theorem dX2_isWhole_2 : decode cX2_isWhole 2 = .ok (.iconst 0, 1) := by decide +kernel
theorem dX2_isWhole_3 : decode cX2_isWhole 3 = .ok (.istore 4, 2) := by decide +kernel
theorem dX2_isWhole_5 : decode cX2_isWhole 5 = .ok (.iload 4, 2) := by decide +kernel
theorem dX2_isWhole_7 : decode cX2_isWhole 7 = .ok (.iload_n 1, 1) := by decide +kernel
theorem dX2_isWhole_8 : decode cX2_isWhole 8 = .ok (.if_icmp .ge 56, 3) := by decide +kernel
theorem dX2_isWhole_11 : decode cX2_isWhole 11 = .ok (.aload_n 0, 1) := by decide +kernel
theorem dX2_isWhole_12 : decode cX2_isWhole 12 = .ok (.iload 4, 2) := by decide +kernel
theorem dX2_isWhole_14 : decode cX2_isWhole 14 = .ok (.invokevirtual 27, 3) := by decide +kernel
theorem dX2_isWhole_17 : decode cX2_isWhole 17 = .ok (.iconst (-1), 1) := by decide +kernel
theorem dX2_isWhole_18 : decode cX2_isWhole 18 = .ok (.if_icmp .ne 7, 3) := by decide +kernel
theorem dX2_isWhole_21 : decode cX2_isWhole 21 = .ok (.lconst 0, 1) := by decide +kernel
theorem dX2_isWhole_22 : decode cX2_isWhole 22 = .ok (.goto 11, 3) := by decide +kernel
theorem dX2_isWhole_25 : decode cX2_isWhole 25 = .ok (.lconst 1, 1) := by decide +kernel
theorem dX2_isWhole_26 : decode cX2_isWhole 26 = .ok (.aload_n 0, 1) := by decide +kernel
theorem dX2_isWhole_27 : decode cX2_isWhole 27 = .ok (.iload 4, 2) := by decide +kernel
theorem dX2_isWhole_29 : decode cX2_isWhole 29 = .ok (.invokevirtual 27, 3) := by decide +kernel
theorem dX2_isWhole_32 : decode cX2_isWhole 32 = .ok (.lshl, 1) := by decide +kernel
theorem dX2_isWhole_33 : decode cX2_isWhole 33 = .ok (.lstore 5, 2) := by decide +kernel
theorem dX2_isWhole_35 : decode cX2_isWhole 35 = .ok (.lload 5, 2) := by decide +kernel
theorem dX2_isWhole_37 : decode cX2_isWhole 37 = .ok (.lconst 0, 1) := by decide +kernel
theorem dX2_isWhole_38 : decode cX2_isWhole 38 = .ok (.lcmp, 1) := by decide +kernel
theorem dX2_isWhole_39 : decode cX2_isWhole 39 = .ok (.ifCond .eq 12, 3) := by decide +kernel
theorem dX2_isWhole_42 : decode cX2_isWhole 42 = .ok (.lload_n 2, 1) := by decide +kernel
theorem dX2_isWhole_43 : decode cX2_isWhole 43 = .ok (.lload 5, 2) := by decide +kernel
theorem dX2_isWhole_45 : decode cX2_isWhole 45 = .ok (.land, 1) := by decide +kernel
theorem dX2_isWhole_46 : decode cX2_isWhole 46 = .ok (.lconst 0, 1) := by decide +kernel
theorem dX2_isWhole_47 : decode cX2_isWhole 47 = .ok (.lcmp, 1) := by decide +kernel
theorem dX2_isWhole_48 : decode cX2_isWhole 48 = .ok (.ifCond .eq 5, 3) := by decide +kernel
theorem dX2_isWhole_51 : decode cX2_isWhole 51 = .ok (.iconst 0, 1) := by decide +kernel
theorem dX2_isWhole_52 : decode cX2_isWhole 52 = .ok (.ireturn, 1) := by decide +kernel
theorem dX2_isWhole_53 : decode cX2_isWhole 53 = .ok (.lload_n 2, 1) := by decide +kernel
theorem dX2_isWhole_54 : decode cX2_isWhole 54 = .ok (.lload 5, 2) := by decide +kernel
theorem dX2_isWhole_56 : decode cX2_isWhole 56 = .ok (.lor, 1) := by decide +kernel
theorem dX2_isWhole_57 : decode cX2_isWhole 57 = .ok (.lstore_n 2, 1) := by decide +kernel
theorem dX2_isWhole_58 : decode cX2_isWhole 58 = .ok (.iinc 4 1, 3) := by decide +kernel
theorem dX2_isWhole_61 : decode cX2_isWhole 61 = .ok (.goto (-56), 3) := by decide +kernel
theorem dX2_isWhole_64 : decode cX2_isWhole 64 = .ok (.iconst 1, 1) := by decide +kernel
theorem dX2_isWhole_65 : decode cX2_isWhole 65 = .ok (.ireturn, 1) := by decide +kernel
set_option maxRecDepth 20000 in
theorem ggX2_lead_X2_exponent : GoodIn wsX2_lead wsX2_exponent := goodIn_r _ [5, 6, 50, 51] (by decide +kernel) (by decide +kernel)
set_option maxRecDepth 20000 in
theorem gX2_lead_X2_exponent : GoodIn wsX2_lead (wsV RX2 31 RX2 yX2_exponent wsX2_exponent) := goodIn_app (goodIn_of _ (by decide +kernel)) ggX2_lead_X2_exponent
set_option maxRecDepth 20000 in
theorem ggX2_lead_X2_target : GoodIn wsX2_lead wsX2_target := goodIn_r _ [10, 11, 50, 51] (by decide +kernel) (by decide +kernel)
set_option maxRecDepth 20000 in
theorem gX2_lead_X2_target : GoodIn wsX2_lead (wsV RX2 27 RX2 yX2_target wsX2_target) := goodIn_app (goodIn_of _ (by decide +kernel)) ggX2_lead_X2_target
set_option maxRecDepth 20000 in
theorem ggX2_lead_X4_first : GoodIn wsX2_lead wsX4_first := goodIn_r _ [16, 17, 52, 53] (by decide +kernel) (by decide +kernel)
set_option maxRecDepth 20000 in
theorem gX2_lead_X4_first : GoodIn wsX2_lead (wsV RX2 38 RX4 yX4_first wsX4_first) := goodIn_app (goodIn_of _ (by decide +kernel)) ggX2_lead_X4_first
set_option maxRecDepth 20000 in
theorem ggX2_lead_X1_renewedFirst : GoodIn wsX2_lead wsX1_renewedFirst := goodIn_r _ [22, 23, 24, 25, 21, 26, 27, 28, 29, 30, 31, 32, 33, 34, 35, 36, 37, 38, 39, 54, 55, 56] (by decide +kernel) (by decide +kernel)
set_option maxRecDepth 20000 in
theorem gX2_lead_X1_renewedFirst : GoodIn wsX2_lead (wsV RX2 43 RX1 yX1_renewedFirst wsX1_renewedFirst) := goodIn_app (goodIn_of _ (by decide +kernel)) ggX2_lead_X1_renewedFirst
set_option maxRecDepth 20000 in
theorem ggX2_lead_X4_second : GoodIn wsX2_lead wsX4_second := goodIn_r _ [43, 44, 52, 53] (by decide +kernel) (by decide +kernel)
set_option maxRecDepth 20000 in
theorem gX2_lead_X4_second : GoodIn wsX2_lead (wsV RX2 49 RX4 yX4_second wsX4_second) := goodIn_app (goodIn_of _ (by decide +kernel)) ggX2_lead_X4_second
set_option maxRecDepth 20000 in
theorem ggX2_lead_X1_renewedSecond : GoodIn wsX2_lead wsX1_renewedSecond := goodIn_r _ [48, 49, 23, 24, 25, 21, 26, 27, 28, 29, 30, 31, 32, 33, 34, 35, 36, 37, 38, 39, 54, 55, 56] (by decide +kernel) (by decide +kernel)
set_option maxRecDepth 20000 in
theorem gX2_lead_X1_renewedSecond : GoodIn wsX2_lead (wsV RX2 52 RX1 yX1_renewedSecond wsX1_renewedSecond) := goodIn_app (goodIn_of _ (by decide +kernel)) ggX2_lead_X1_renewedSecond
theorem dX2_lead_0 : decode cX2_lead 0 = .ok (.iconst 0, 1) := by decide +kernel
theorem dX2_lead_1 : decode cX2_lead 1 = .ok (.istore 5, 2) := by decide +kernel
theorem dX2_lead_3 : decode cX2_lead 3 = .ok (.iload 5, 2) := by decide +kernel
theorem dX2_lead_5 : decode cX2_lead 5 = .ok (.iload 4, 2) := by decide +kernel
theorem dX2_lead_7 : decode cX2_lead 7 = .ok (.if_icmp .ge 69, 3) := by decide +kernel
theorem dX2_lead_10 : decode cX2_lead 10 = .ok (.aload_n 0, 1) := by decide +kernel
theorem dX2_lead_11 : decode cX2_lead 11 = .ok (.iload 5, 2) := by decide +kernel
theorem dX2_lead_13 : decode cX2_lead 13 = .ok (.invokevirtual 31, 3) := by decide +kernel
theorem dX2_lead_16 : decode cX2_lead 16 = .ok (.istore 6, 2) := by decide +kernel
theorem dX2_lead_18 : decode cX2_lead 18 = .ok (.aload_n 0, 1) := by decide +kernel
theorem dX2_lead_19 : decode cX2_lead 19 = .ok (.iload 5, 2) := by decide +kernel
theorem dX2_lead_21 : decode cX2_lead 21 = .ok (.invokevirtual 27, 3) := by decide +kernel
theorem dX2_lead_24 : decode cX2_lead 24 = .ok (.istore 7, 2) := by decide +kernel
theorem dX2_lead_26 : decode cX2_lead 26 = .ok (.aload_n 1, 1) := by decide +kernel
theorem dX2_lead_27 : decode cX2_lead 27 = .ok (.aload_n 2, 1) := by decide +kernel
theorem dX2_lead_28 : decode cX2_lead 28 = .ok (.iload 5, 2) := by decide +kernel
theorem dX2_lead_30 : decode cX2_lead 30 = .ok (.invokevirtual 38, 3) := by decide +kernel
theorem dX2_lead_33 : decode cX2_lead 33 = .ok (.iload 6, 2) := by decide +kernel
theorem dX2_lead_35 : decode cX2_lead 35 = .ok (.invokevirtual 43, 3) := by decide +kernel
theorem dX2_lead_38 : decode cX2_lead 38 = .ok (.aload_n 3, 1) := by decide +kernel
theorem dX2_lead_39 : decode cX2_lead 39 = .ok (.iload 7, 2) := by decide +kernel
theorem dX2_lead_41 : decode cX2_lead 41 = .ok (.invokevirtual 38, 3) := by decide +kernel
theorem dX2_lead_44 : decode cX2_lead 44 = .ok (.if_icmp .ne 24, 3) := by decide +kernel
theorem dX2_lead_47 : decode cX2_lead 47 = .ok (.aload_n 1, 1) := by decide +kernel
theorem dX2_lead_48 : decode cX2_lead 48 = .ok (.aload_n 2, 1) := by decide +kernel
theorem dX2_lead_49 : decode cX2_lead 49 = .ok (.iload 5, 2) := by decide +kernel
theorem dX2_lead_51 : decode cX2_lead 51 = .ok (.invokevirtual 49, 3) := by decide +kernel
theorem dX2_lead_54 : decode cX2_lead 54 = .ok (.iload 6, 2) := by decide +kernel
theorem dX2_lead_56 : decode cX2_lead 56 = .ok (.invokevirtual 52, 3) := by decide +kernel
theorem dX2_lead_59 : decode cX2_lead 59 = .ok (.aload_n 3, 1) := by decide +kernel
theorem dX2_lead_60 : decode cX2_lead 60 = .ok (.iload 7, 2) := by decide +kernel
theorem dX2_lead_62 : decode cX2_lead 62 = .ok (.invokevirtual 49, 3) := by decide +kernel
theorem dX2_lead_65 : decode cX2_lead 65 = .ok (.if_icmp .eq 5, 3) := by decide +kernel
theorem dX2_lead_68 : decode cX2_lead 68 = .ok (.iconst 0, 1) := by decide +kernel
theorem dX2_lead_69 : decode cX2_lead 69 = .ok (.ireturn, 1) := by decide +kernel
theorem dX2_lead_70 : decode cX2_lead 70 = .ok (.iinc 5 1, 3) := by decide +kernel
theorem dX2_lead_73 : decode cX2_lead 73 = .ok (.goto (-70), 3) := by decide +kernel
theorem dX2_lead_76 : decode cX2_lead 76 = .ok (.iconst 1, 1) := by decide +kernel
theorem dX2_lead_77 : decode cX2_lead 77 = .ok (.ireturn, 1) := by decide +kernel
set_option maxRecDepth 20000 in
theorem ggX5_isWhole_X2_isWhole : GoodIn wsX5_isWhole wsX2_isWhole := goodIn_r _ [6, 7, 8, 9, 5, 10, 11, 14, 15] (by decide +kernel) (by decide +kernel)
set_option maxRecDepth 20000 in
theorem gX5_isWhole_X2_isWhole : GoodIn wsX5_isWhole (wsV RX5 36 RX2 yX2_isWhole wsX2_isWhole) := goodIn_app (goodIn_of _ (by decide +kernel)) ggX5_isWhole_X2_isWhole
theorem dX5_isWhole_0 : decode cX5_isWhole 0 = .ok (.aload_n 0, 1) := by decide +kernel
theorem dX5_isWhole_1 : decode cX5_isWhole 1 = .ok (.getfield 12, 3) := by decide +kernel
theorem dX5_isWhole_4 : decode cX5_isWhole 4 = .ok (.iload_n 1, 1) := by decide +kernel
theorem dX5_isWhole_5 : decode cX5_isWhole 5 = .ok (.invokevirtual 36, 3) := by decide +kernel
theorem dX5_isWhole_8 : decode cX5_isWhole 8 = .ok (.ireturn, 1) := by decide +kernel
set_option maxRecDepth 20000 in
theorem ggX5_shuffle_X2_exponent : GoodIn wsX5_shuffle wsX2_exponent := goodIn_r _ [7, 8, 58, 59] (by decide +kernel) (by decide +kernel)
set_option maxRecDepth 20000 in
theorem gX5_shuffle_X2_exponent : GoodIn wsX5_shuffle (wsV RX5 44 RX2 yX2_exponent wsX2_exponent) := goodIn_app (goodIn_of _ (by decide +kernel)) ggX5_shuffle_X2_exponent
set_option maxRecDepth 20000 in
theorem ggX5_shuffle_X2_target : GoodIn wsX5_shuffle wsX2_target := goodIn_r _ [12, 13, 58, 59] (by decide +kernel) (by decide +kernel)
set_option maxRecDepth 20000 in
theorem gX5_shuffle_X2_target : GoodIn wsX5_shuffle (wsV RX5 48 RX2 yX2_target wsX2_target) := goodIn_app (goodIn_of _ (by decide +kernel)) ggX5_shuffle_X2_target
set_option maxRecDepth 20000 in
theorem ggX5_shuffle_X4_first : GoodIn wsX5_shuffle wsX4_first := goodIn_r _ [18, 19, 60, 61] (by decide +kernel) (by decide +kernel)
set_option maxRecDepth 20000 in
theorem gX5_shuffle_X4_first : GoodIn wsX5_shuffle (wsV RX5 51 RX4 yX4_first wsX4_first) := goodIn_app (goodIn_of _ (by decide +kernel)) ggX5_shuffle_X4_first
set_option maxRecDepth 20000 in
theorem ggX5_shuffle_X4_second : GoodIn wsX5_shuffle wsX4_second := goodIn_r _ [23, 24, 60, 61] (by decide +kernel) (by decide +kernel)
set_option maxRecDepth 20000 in
theorem gX5_shuffle_X4_second : GoodIn wsX5_shuffle (wsV RX5 54 RX4 yX4_second wsX4_second) := goodIn_app (goodIn_of _ (by decide +kernel)) ggX5_shuffle_X4_second
set_option maxRecDepth 20000 in
theorem ggX5_shuffle_X4_put : GoodIn wsX5_shuffle wsX4_put := goodIn_r _ [28, 19, 24, 60, 61] (by decide +kernel) (by decide +kernel)
set_option maxRecDepth 20000 in
theorem gX5_shuffle_X4_put : GoodIn wsX5_shuffle (wsV RX5 33 RX4 yX4_put wsX4_put) := goodIn_app (goodIn_of _ (by decide +kernel)) ggX5_shuffle_X4_put
set_option maxRecDepth 20000 in
theorem ggX5_shuffle_X1_renewedFirst : GoodIn wsX5_shuffle wsX1_renewedFirst := goodIn_r _ [33, 34, 35, 36, 32, 37, 38, 39, 40, 41, 42, 43, 44, 45, 46, 47, 48, 49, 50, 62, 63, 64] (by decide +kernel) (by decide +kernel)
set_option maxRecDepth 20000 in
theorem gX5_shuffle_X1_renewedFirst : GoodIn wsX5_shuffle (wsV RX5 57 RX1 yX1_renewedFirst wsX1_renewedFirst) := goodIn_app (goodIn_of _ (by decide +kernel)) ggX5_shuffle_X1_renewedFirst
set_option maxRecDepth 20000 in
theorem ggX5_shuffle_X1_renewedSecond : GoodIn wsX5_shuffle wsX1_renewedSecond := goodIn_r _ [54, 55, 34, 35, 36, 32, 37, 38, 39, 40, 41, 42, 43, 44, 45, 46, 47, 48, 49, 50, 62, 63, 64] (by decide +kernel) (by decide +kernel)
set_option maxRecDepth 20000 in
theorem gX5_shuffle_X1_renewedSecond : GoodIn wsX5_shuffle (wsV RX5 63 RX1 yX1_renewedSecond wsX1_renewedSecond) := goodIn_app (goodIn_of _ (by decide +kernel)) ggX5_shuffle_X1_renewedSecond
theorem dX5_shuffle_0 : decode cX5_shuffle 0 = .ok (.iconst 0, 1) := by decide +kernel
theorem dX5_shuffle_1 : decode cX5_shuffle 1 = .ok (.istore 5, 2) := by decide +kernel
theorem dX5_shuffle_3 : decode cX5_shuffle 3 = .ok (.iload 5, 2) := by decide +kernel
theorem dX5_shuffle_5 : decode cX5_shuffle 5 = .ok (.iload 4, 2) := by decide +kernel
theorem dX5_shuffle_7 : decode cX5_shuffle 7 = .ok (.if_icmp .ge 101, 3) := by decide +kernel
theorem dX5_shuffle_10 : decode cX5_shuffle 10 = .ok (.aload_n 0, 1) := by decide +kernel
theorem dX5_shuffle_11 : decode cX5_shuffle 11 = .ok (.getfield 12, 3) := by decide +kernel
theorem dX5_shuffle_14 : decode cX5_shuffle 14 = .ok (.iload 5, 2) := by decide +kernel
theorem dX5_shuffle_16 : decode cX5_shuffle 16 = .ok (.invokevirtual 44, 3) := by decide +kernel
theorem dX5_shuffle_19 : decode cX5_shuffle 19 = .ok (.istore 6, 2) := by decide +kernel
theorem dX5_shuffle_21 : decode cX5_shuffle 21 = .ok (.aload_n 0, 1) := by decide +kernel
theorem dX5_shuffle_22 : decode cX5_shuffle 22 = .ok (.getfield 12, 3) := by decide +kernel
theorem dX5_shuffle_25 : decode cX5_shuffle 25 = .ok (.iload 5, 2) := by decide +kernel
theorem dX5_shuffle_27 : decode cX5_shuffle 27 = .ok (.invokevirtual 48, 3) := by decide +kernel
theorem dX5_shuffle_30 : decode cX5_shuffle 30 = .ok (.istore 7, 2) := by decide +kernel
theorem dX5_shuffle_32 : decode cX5_shuffle 32 = .ok (.aload_n 0, 1) := by decide +kernel
theorem dX5_shuffle_33 : decode cX5_shuffle 33 = .ok (.getfield 21, 3) := by decide +kernel
theorem dX5_shuffle_36 : decode cX5_shuffle 36 = .ok (.iload 7, 2) := by decide +kernel
theorem dX5_shuffle_38 : decode cX5_shuffle 38 = .ok (.invokevirtual 51, 3) := by decide +kernel
theorem dX5_shuffle_41 : decode cX5_shuffle 41 = .ok (.iconst (-1), 1) := by decide +kernel
theorem dX5_shuffle_42 : decode cX5_shuffle 42 = .ok (.if_icmp .eq 30, 3) := by decide +kernel
theorem dX5_shuffle_45 : decode cX5_shuffle 45 = .ok (.aload_n 3, 1) := by decide +kernel
theorem dX5_shuffle_46 : decode cX5_shuffle 46 = .ok (.iload 7, 2) := by decide +kernel
theorem dX5_shuffle_48 : decode cX5_shuffle 48 = .ok (.aload_n 0, 1) := by decide +kernel
theorem dX5_shuffle_49 : decode cX5_shuffle 49 = .ok (.getfield 21, 3) := by decide +kernel
theorem dX5_shuffle_52 : decode cX5_shuffle 52 = .ok (.iload 7, 2) := by decide +kernel
theorem dX5_shuffle_54 : decode cX5_shuffle 54 = .ok (.invokevirtual 51, 3) := by decide +kernel
theorem dX5_shuffle_57 : decode cX5_shuffle 57 = .ok (.aload_n 0, 1) := by decide +kernel
theorem dX5_shuffle_58 : decode cX5_shuffle 58 = .ok (.getfield 21, 3) := by decide +kernel
theorem dX5_shuffle_61 : decode cX5_shuffle 61 = .ok (.iload 7, 2) := by decide +kernel
theorem dX5_shuffle_63 : decode cX5_shuffle 63 = .ok (.invokevirtual 54, 3) := by decide +kernel
theorem dX5_shuffle_66 : decode cX5_shuffle 66 = .ok (.invokevirtual 33, 3) := by decide +kernel
theorem dX5_shuffle_69 : decode cX5_shuffle 69 = .ok (.goto 33, 3) := by decide +kernel
theorem dX5_shuffle_72 : decode cX5_shuffle 72 = .ok (.aload_n 3, 1) := by decide +kernel
theorem dX5_shuffle_73 : decode cX5_shuffle 73 = .ok (.iload 7, 2) := by decide +kernel
theorem dX5_shuffle_75 : decode cX5_shuffle 75 = .ok (.aload_n 1, 1) := by decide +kernel
theorem dX5_shuffle_76 : decode cX5_shuffle 76 = .ok (.aload_n 2, 1) := by decide +kernel
theorem dX5_shuffle_77 : decode cX5_shuffle 77 = .ok (.iload 5, 2) := by decide +kernel
theorem dX5_shuffle_79 : decode cX5_shuffle 79 = .ok (.invokevirtual 51, 3) := by decide +kernel
theorem dX5_shuffle_82 : decode cX5_shuffle 82 = .ok (.iload 6, 2) := by decide +kernel
theorem dX5_shuffle_84 : decode cX5_shuffle 84 = .ok (.invokevirtual 57, 3) := by decide +kernel
theorem dX5_shuffle_87 : decode cX5_shuffle 87 = .ok (.aload_n 1, 1) := by decide +kernel
theorem dX5_shuffle_88 : decode cX5_shuffle 88 = .ok (.aload_n 2, 1) := by decide +kernel
theorem dX5_shuffle_89 : decode cX5_shuffle 89 = .ok (.iload 5, 2) := by decide +kernel
theorem dX5_shuffle_91 : decode cX5_shuffle 91 = .ok (.invokevirtual 54, 3) := by decide +kernel
theorem dX5_shuffle_94 : decode cX5_shuffle 94 = .ok (.iload 6, 2) := by decide +kernel
theorem dX5_shuffle_96 : decode cX5_shuffle 96 = .ok (.invokevirtual 63, 3) := by decide +kernel
theorem dX5_shuffle_99 : decode cX5_shuffle 99 = .ok (.invokevirtual 33, 3) := by decide +kernel
theorem dX5_shuffle_102 : decode cX5_shuffle 102 = .ok (.iinc 5 1, 3) := by decide +kernel
theorem dX5_shuffle_105 : decode cX5_shuffle 105 = .ok (.goto (-102), 3) := by decide +kernel
theorem dX5_shuffle_108 : decode cX5_shuffle 108 = .ok (.return_, 1) := by decide +kernel
theorem dX7_listOf_0 : decode cX7_listOf 0 = .ok (.iload_n 1, 1) := by decide +kernel
theorem dX7_listOf_1 : decode cX7_listOf 1 = .ok (.ifCond .lt 21, 3) := by decide +kernel
theorem dX7_listOf_4 : decode cX7_listOf 4 = .ok (.iload_n 1, 1) := by decide +kernel
theorem dX7_listOf_5 : decode cX7_listOf 5 = .ok (.aload_n 0, 1) := by decide +kernel
theorem dX7_listOf_6 : decode cX7_listOf 6 = .ok (.getfield 66, 3) := by decide +kernel
theorem dX7_listOf_9 : decode cX7_listOf 9 = .ok (.arraylength, 1) := by decide +kernel
theorem dX7_listOf_10 : decode cX7_listOf 10 = .ok (.if_icmp .ge 12, 3) := by decide +kernel
theorem dX7_listOf_13 : decode cX7_listOf 13 = .ok (.aload_n 0, 1) := by decide +kernel
theorem dX7_listOf_14 : decode cX7_listOf 14 = .ok (.getfield 66, 3) := by decide +kernel
theorem dX7_listOf_17 : decode cX7_listOf 17 = .ok (.iload_n 1, 1) := by decide +kernel
theorem dX7_listOf_18 : decode cX7_listOf 18 = .ok (.aaload, 1) := by decide +kernel
theorem dX7_listOf_19 : decode cX7_listOf 19 = .ok (.goto 9, 3) := by decide +kernel
theorem dX7_listOf_28 : decode cX7_listOf 28 = .ok (.areturn, 1) := by decide +kernel
theorem iw_rng {g : Nat → Int32} {n0 k : Nat} (hk : k < n0) (hr : ∀ i : Nat, i < n0 → g i = -1 ∨ (nn (g i) ∧ nt g i < 40)) (h5 : ∀ j : Nat, j < k → nn (g j) ∧ nt g j < 40) (c : ¬ g k = -1) : ∀ j : Nat, j < k + 1 → nn (g j) ∧ nt g j < 40 := by
  intro j hj
  by_cases e : j = k
  · rw [e]; exact (hr k hk).resolve_left c
  · exact h5 j (by omega)
theorem iw_bit {g : Nat → Int32} {n0 k : Nat} (hk : k < n0) (hr : ∀ i : Nat, i < n0 → g i = -1 ∨ (nn (g i) ∧ nt g i < 40)) (c : ¬ g k = -1) : ¬ (1 <<< ((g k).toInt64 &&& 63) : Int64) = 0 := by
  obtain ⟨h1, h2⟩ := (hr k hk).resolve_left c
  have := bt_ne0 ⟨nt g k, h2⟩
  rw [h1]
  exact this
theorem iw_no {g : Nat → Int32} {n0 k : Nat} (hk : k < n0) (hr : ∀ i : Nat, i < n0 → g i = -1 ∨ (nn (g i) ∧ nt g i < 40)) (h5 : ∀ j : Nat, j < k → nn (g j) ∧ nt g j < 40) (c : ¬ g k = -1) (h : ¬ tkm g k &&& (1 <<< ((g k).toInt64 &&& 63)) = 0) : ¬ whl g n0 := by
  obtain ⟨h1, h2⟩ := (hr k hk).resolve_left c
  intro hw
  apply h
  have := (tkm_iff (g := g) h2 k h5).mpr (fun j hj => by rw [← h1]; exact hw.2 k hk j hj)
  rw [← h1] at this
  exact this
theorem iw_next {g : Nat → Int32} {n0 k : Nat} (hk : k < n0) (hr : ∀ i : Nat, i < n0 → g i = -1 ∨ (nn (g i) ∧ nt g i < 40)) (hw : whl g k) (h5 : ∀ j : Nat, j < k → nn (g j) ∧ nt g j < 40) (c : ¬ g k = -1) (h : tkm g k &&& (1 <<< ((g k).toInt64 &&& 63)) = 0) : whl g (k + 1) := by
  obtain ⟨h1, h2⟩ := (hr k hk).resolve_left c
  refine whl_s hw c (fun j hj => ?_)
  have h3 : tkm g k &&& bt (nI (nt g k)) = 0 := by rw [← h1]; exact h
  have := (tkm_iff (g := g) h2 k h5).mp h3 j hj
  rw [← h1] at this
  exact this
theorem ld_next {P h : Int32} {to ex sa sb da db : Nat → Int32} {k : Nat} (h3 : ∀ i : Nat, i < k → ldc P h to ex sa sb da db i) (c1 : tm P (sa k) (pw P 32 (nt ex k) 1 4) = da (nt to k)) (c2 : tm P (sb k) (pw P 32 (nt ex k) 1 h) = db (nt to k)) : ∀ i : Nat, i < k + 1 → ldc P h to ex sa sb da db i := by
  intro i hi
  by_cases e : i = k
  · rw [e]; exact ⟨c1, c2⟩
  · exact h3 i (by omega)
theorem bI_nar {P : Prop} [Decidable P] : narrow .boolean (.int (bI P)) = .int (bI P) := by
  unfold bI; split <;> rfl
theorem sw_4 (x : Int32) : x = 0 ∨ x = 1 ∨ x = 2 ∨ x = 3 ∨ (x.toInt < 0 ∨ 3 < x.toInt) := by
  by_cases h : x.toInt < 0 ∨ 3 < x.toInt
  · simp [h]
  · have e : x = Int32.ofInt x.toInt := (Int32.ofInt_toInt x).symm
    have h2 : x.toInt = 0 ∨ x.toInt = 1 ∨ x.toInt = 2 ∨ x.toInt = 3 := by omega
    rcases h2 with q | q | q | q <;> rw [q] at e <;> rw [e] <;> decide
def fl4 (a b c d : Int64) (w : Int32) : Int64 := if w = 0 then a else if w = 1 then b else if w = 2 then c else if w = 3 then d else 0
theorem fl_out {a b c d : Int64} {w : Int32} (h : w.toInt < 0 ∨ 3 < w.toInt) : fl4 a b c d w = 0 := by
  have h0 : ¬ w = 0 := fun e => by rw [e] at h; revert h; decide
  have h1 : ¬ w = 1 := fun e => by rw [e] at h; revert h; decide
  have h2 : ¬ w = 2 := fun e => by rw [e] at h; revert h; decide
  have h3 : ¬ w = 3 := fun e => by rw [e] at h; revert h; decide
  rw [fl4, if_neg h0, if_neg h1, if_neg h2, if_neg h3]
def fldv (kf xf yf : Nat → Int32) (zf : Nat → Int64) (n i w : Int32) : Int64 := if 0 ≤ i ∧ i < n then fl4 (kf i.toNatClampNeg).toInt64 (xf i.toNatClampNeg).toInt64 (yf i.toNatClampNeg).toInt64 (zf i.toNatClampNeg) w else 0
set_option maxHeartbeats 4000000 in
set_option maxRecDepth 100000 in
theorem c_X2_isWhole (l : Launch) (D : va_G) (cA : Nat → ClassId) (h0 : Nat) (a : Nat) (b : Nat) (pf : Nat → Int32) (pg : Nat → Int32) (n : Int32) (n0 : Nat) (hn : n = nI n0) (hn4 : n0 ≤ 40) (hrg : ∀ i : Nat, i < n0 → pf i = -1 ∨ (nn (pf i) ∧ nt pf i < 40)) : Met l yX2_isWhole wsX2_isWhole ({ frames := 1, cells := 0, slots := 0, locals := 21 }) (rPc vwCl D cA [(h0, .inr (2, [.ref a, .ref b])), (a, .inl (cA 0, 40, .inl pf)), (b, .inl (cA 0, 40, .inl pg))] [.ref h0, .int n]) (rq_x (some (.int (bI (whl pf n0))))) 0 0 (fun _ => False) := by
  refine Met.ofW (cc := cX2_isWhole) (maxL := 7) (ret := (some .boolean)) (by decide) rfl ?_
  intro p e s m args below meth c s₁ B hml hv
  obtain ⟨rfl, hP, hK⟩ := hv
  have hx := B.exec
  have hb := B.bytes
  have hr := B.returns
  have hts := atoms_spec (ws := wsX2_isWhole) B.pre
  have hown : s.vm.findClass RX2 = some m.cls := findClass_of_methodNamed B.named
  have hlocks := B.notSynchronized
  have hl := lv_entry ([.ref h0, .int n]) (n := 7) (Nat.le_of_ble_eq_true rfl)
  rw [lg_entry_eq]
  generalize (lg_sl ([.ref h0, .int n]) ++ List.replicate (7 - (lg_sl ([.ref h0, .int n])).length) Slot.unset).toArray = ls at hl ⊢
  have hl : lv_has ls 7 [(0, .ref h0), (1, .int n)] := hl
  refine lv_lconst (v := 0) hx hb dX2_isWhole_0 (by decide) ?_
  refine lv_lstore_n (lv' := [(2, .long 0), (0, .ref h0), (1, .int n)]) hx hb dX2_isWhole_1 rfl hl (by decide) rfl (fun ls hl => ?_)
  refine lv_iconst (v := 0) hx hb dX2_isWhole_2 (by decide) ?_
  refine lv_istore (lv' := [(4, .int 0), (2, .long 0), (0, .ref h0), (1, .int n)]) hx hb dX2_isWhole_3 hl (by decide) rfl (fun ls hl => ?_)
  have loop5 : ∀ (f_ k : Nat) (z : Int32) (d : Int64), z = nI k → n0 + 1 ≤ k + f_ → k ≤ n0 → d = tkm pf k → whl pf k → (∀ j : Nat, j < k → nn (pf j) ∧ nt pf j < 40) → ∀ ls : Array Slot, lv_has ls 7 [(0, .ref h0), (1, .int n), (2, .long d), (4, .int z)] → W p l e (headSpec wsX2_isWhole ({ frames := 1, cells := 0, slots := 0, locals := 21 })).room s m [.ref h0, .int n].toArray below meth c s.heap [] 0 0 (MQ below (rq_x (some (.int (bI (whl pf n0))))) [.ref h0, .int n].toArray s 0 0 (fun _ => False)) (F0 m 5 ls []) := by
    intro f
    induction f with
    | zero =>
      intro k z d hz h1 h2
      omega
    | succ f ih =>
      intro k z d hz h1 h2 hd hw h5 ls hl
      refine lv_iload hx hb dX2_isWhole_5 (lv_at hl 3 rfl) ?_
      refine lv_iload_n hx hb dX2_isWhole_7 rfl (lv_at hl 1 rfl) ?_
      refine lv_icmp_ge (tgt := 64) hx hb dX2_isWhole_8 (by decide) (fun c_8 => ?_) (fun c_8 => ?_)
      · skip
        refine lv_iconst (v := 1) hx hb dX2_isWhole_64 (by decide) ?_
        exact W.zret (v := 1) hx hb hr rfl (fun t ht hW => ⟨congrArg (fun z => Outcome.returned (some (Value.int z))) (bI_t (by rw [← lp_end hz hn (by omega) h2 c_8]; exact hw)), ht⟩) (fun _ h => by cases h) dX2_isWhole_65
      · skip
        refine lv_aload_n hx hb dX2_isWhole_11 rfl (lv_at hl 0 rfl) ?_
        refine lv_iload hx hb dX2_isWhole_12 (lv_at hl 3 rfl) ?_
        refine rq_call1 (v := .int (g40 pf z)) (rn_V (As := [.int z]) (rest := []) (ci := 2) (fs := [.ref a, .ref b]) ⟨hx, hb, hml, hown, hts⟩ (c_X2_target l D cA h0 a b pf pg z) rfl (cwV 1 hts gX2_isWhole_X2_target rfl rfl rfl (by decide +kernel) ⟨Nat.le_of_ble_eq_true rfl, Nat.le_of_ble_eq_true rfl⟩) hK hP [0, 1, 2] rfl rfl rfl hl.1 rfl (Nat.le_of_ble_eq_true rfl) dX2_isWhole_14 ⟨Nat.le_of_ble_eq_true rfl, Nat.le_of_ble_eq_true rfl⟩) ?_
        rw [g40_n hz (show k < 40 from Nat.lt_of_lt_of_le (lp_lt hz hn (by omega) h2 c_8) hn4)]
        refine lv_iconst (v := (-1)) hx hb dX2_isWhole_17 (by decide) ?_
        refine lv_icmp_ne (tgt := 25) hx hb dX2_isWhole_18 (by decide) (fun c_18 => ?_) (fun c_18 => ?_)
        · skip
          refine lv_lconst (v := 1) hx hb dX2_isWhole_25 (by decide) ?_
          refine lv_aload_n hx hb dX2_isWhole_26 rfl (lv_at hl 0 rfl) ?_
          refine lv_iload hx hb dX2_isWhole_27 (lv_at hl 3 rfl) ?_
          refine rq_call1 (v := .int (g40 pf z)) (rn_V (As := [.int z]) (rest := [.long 1]) (ci := 2) (fs := [.ref a, .ref b]) ⟨hx, hb, hml, hown, hts⟩ (c_X2_target l D cA h0 a b pf pg z) rfl (cwV 1 hts gX2_isWhole_X2_target rfl rfl rfl (by decide +kernel) ⟨Nat.le_of_ble_eq_true rfl, Nat.le_of_ble_eq_true rfl⟩) hK hP [0, 1, 2] rfl rfl rfl hl.1 rfl (Nat.le_of_ble_eq_true rfl) dX2_isWhole_29 ⟨Nat.le_of_ble_eq_true rfl, Nat.le_of_ble_eq_true rfl⟩) ?_
          rw [g40_n hz (show k < 40 from Nat.lt_of_lt_of_le (lp_lt hz hn (by omega) h2 c_8) hn4)]
          refine lv_lshl hx hb dX2_isWhole_32 rfl ?_
          refine lv_lstore (lv' := [(5, .long (1 <<< ((pf k).toInt64 &&& 63))), (0, .ref h0), (1, .int n), (2, .long d), (4, .int z)]) hx hb dX2_isWhole_33 hl (by decide) rfl (fun ls hl => ?_)
          refine lv_lload hx hb dX2_isWhole_35 (lv_at hl 0 rfl) ?_
          refine lv_lconst (v := 0) hx hb dX2_isWhole_37 (by decide) ?_
          refine W.lcmp hx hb dX2_isWhole_38 ?_
          refine lv_if_eq (tgt := 51) hx hb dX2_isWhole_39 (by decide) (fun c_39 => ?_) (fun c_39 => ?_)
          · exact absurd ((lg_cmp_eq _ _).mp c_39) (iw_bit (lp_lt hz hn (by omega) h2 c_8) hrg c_18)
          · skip
            refine lv_lload_n hx hb dX2_isWhole_42 rfl (lv_at hl 3 rfl) ?_
            refine lv_lload hx hb dX2_isWhole_43 (lv_at hl 0 rfl) ?_
            refine lv_land hx hb dX2_isWhole_45 ?_
            refine lv_lconst (v := 0) hx hb dX2_isWhole_46 (by decide) ?_
            refine W.lcmp hx hb dX2_isWhole_47 ?_
            refine lv_if_eq (tgt := 53) hx hb dX2_isWhole_48 (by decide) (fun c_48 => ?_) (fun c_48 => ?_)
            · skip
              refine lv_lload_n hx hb dX2_isWhole_53 rfl (lv_at hl 3 rfl) ?_
              refine lv_lload hx hb dX2_isWhole_54 (lv_at hl 0 rfl) ?_
              refine lv_lor hx hb dX2_isWhole_56 ?_
              refine lv_lstore_n (lv' := [(2, .long (d ||| (1 <<< ((pf k).toInt64 &&& 63)))), (5, .long (1 <<< ((pf k).toInt64 &&& 63))), (0, .ref h0), (1, .int n), (4, .int z)]) hx hb dX2_isWhole_57 rfl hl (by decide) rfl (fun ls hl => ?_)
              refine lv_iinc (v := (z + 1)) (lv' := [(4, .int (z + 1)), (2, .long (d ||| (1 <<< ((pf k).toInt64 &&& 63)))), (5, .long (1 <<< ((pf k).toInt64 &&& 63))), (0, .ref h0), (1, .int n)]) hx hb dX2_isWhole_58 hl (k := 4) rfl rfl (by decide) rfl (fun ls hl => ?_)
              refine lv_goto (tgt := 5) hx hb dX2_isWhole_61 (by decide) ?_
              have hk := lp_lt hz hn (by omega) h2 c_8
              exact ih (k + 1) (z + 1) _ (st_1 hz) (by omega) (by omega) (by rw [hd]; rfl) (iw_next hk hrg hw h5 c_18 (by rw [← hd]; exact (lg_cmp_eq _ _).mp c_48)) (iw_rng hk hrg h5 c_18) ls (lv_sub hl [3, 4, 1, 0] rfl)
            · skip
              refine lv_iconst (v := 0) hx hb dX2_isWhole_51 (by decide) ?_
              exact W.zret (v := 0) hx hb hr rfl (fun t ht hW => ⟨congrArg (fun z => Outcome.returned (some (Value.int z))) (bI_f (iw_no (lp_lt hz hn (by omega) h2 c_8) hrg h5 c_18 (fun q => c_48 ((lg_cmp_eq _ _).mpr (by rw [hd]; exact q))))), ht⟩) (fun _ h => by cases h) dX2_isWhole_52
        · skip
          refine lv_lconst (v := 0) hx hb dX2_isWhole_21 (by decide) ?_
          refine lv_goto (tgt := 33) hx hb dX2_isWhole_22 (by decide) ?_
          refine lv_lstore (lv' := [(5, .long 0), (0, .ref h0), (1, .int n), (2, .long d), (4, .int z)]) hx hb dX2_isWhole_33 hl (by decide) rfl (fun ls hl => ?_)
          refine lv_lload hx hb dX2_isWhole_35 (lv_at hl 0 rfl) ?_
          refine lv_lconst (v := 0) hx hb dX2_isWhole_37 (by decide) ?_
          refine W.lcmp hx hb dX2_isWhole_38 ?_
          refine lv_if_eq (tgt := 51) hx hb dX2_isWhole_39 (by decide) (fun c_39 => ?_) (fun c_39 => ?_)
          · skip
            refine lv_iconst (v := 0) hx hb dX2_isWhole_51 (by decide) ?_
            exact W.zret (v := 0) hx hb hr rfl (fun t ht hW => ⟨congrArg (fun z => Outcome.returned (some (Value.int z))) (bI_f (fun h => h.1 k (lp_lt hz hn (by omega) h2 c_8) c_18)), ht⟩) (fun _ h => by cases h) dX2_isWhole_52
          · exact absurd (by decide) c_39
  exact loop5 (n0 + 1) 0 0 0 rfl (by omega) (by omega) rfl (whl_0 pf) (fun j h => by omega) ls (lv_sub hl [2, 3, 1, 0] rfl)

set_option maxHeartbeats 4000000 in
set_option maxRecDepth 100000 in
theorem c_X2_lead (l : Launch) (D : va_G) (cA : Nat → ClassId) (h0 : Nat) (a : Nat) (b : Nat) (g : Nat) (o1 : Nat) (oa1 : Nat) (ob1 : Nat) (o2 : Nat) (oa2 : Nat) (ob2 : Nat) (gp : Int32) (gq : Int32) (gh : Int32) (pf : Nat → Int32) (pg : Nat → Int32) (sa : Nat → Int32) (sb : Nat → Int32) (da : Nat → Int32) (db : Nat → Int32) (n : Int32) (n0 : Nat) (hn : n = nI n0) (hn4 : n0 ≤ 40) (hmv : ∀ i : Nat, i < n0 → nn (pf i) ∧ nt pf i < 40 ∧ nn (pg i)) (hgp : 0 < gp) : Met l yX2_lead wsX2_lead ({ frames := 4, cells := 0, slots := 0, locals := 91 }) (rPc vwCl D cA [(h0, .inr (2, [.ref a, .ref b])), (a, .inl (cA 0, 40, .inl pf)), (b, .inl (cA 0, 40, .inl pg)), (g, .inr (1, [.int gp, .int gq, .int gh])), (o1, .inr (3, [.ref oa1, .ref ob1])), (oa1, .inl (cA 0, 40, .inl sa)), (ob1, .inl (cA 0, 40, .inl sb)), (o2, .inr (3, [.ref oa2, .ref ob2])), (oa2, .inl (cA 0, 40, .inl da)), (ob2, .inl (cA 0, 40, .inl db))] [.ref h0, .ref g, .ref o1, .ref o2, .int n]) (rq_x (some (.int (bI (∀ i : Nat, i < n0 → ldc gp gh pf pg sa sb da db i))))) 0 0 (fun _ => False) := by
  refine Met.ofW (cc := cX2_lead) (maxL := 8) (ret := (some .boolean)) (by decide) rfl ?_
  intro p e s m args below meth c s₁ B hml hv
  obtain ⟨rfl, hP, hK⟩ := hv
  have hx := B.exec
  have hb := B.bytes
  have hr := B.returns
  have hts := atoms_spec (ws := wsX2_lead) B.pre
  have hown : s.vm.findClass RX2 = some m.cls := findClass_of_methodNamed B.named
  have hlocks := B.notSynchronized
  have hl := lv_entry ([.ref h0, .ref g, .ref o1, .ref o2, .int n]) (n := 8) (Nat.le_of_ble_eq_true rfl)
  rw [lg_entry_eq]
  generalize (lg_sl ([.ref h0, .ref g, .ref o1, .ref o2, .int n]) ++ List.replicate (8 - (lg_sl ([.ref h0, .ref g, .ref o1, .ref o2, .int n])).length) Slot.unset).toArray = ls at hl ⊢
  have hl : lv_has ls 8 [(0, .ref h0), (1, .ref g), (2, .ref o1), (3, .ref o2), (4, .int n)] := hl
  refine lv_iconst (v := 0) hx hb dX2_lead_0 (by decide) ?_
  refine lv_istore (lv' := [(5, .int 0), (0, .ref h0), (1, .ref g), (2, .ref o1), (3, .ref o2), (4, .int n)]) hx hb dX2_lead_1 hl (by decide) rfl (fun ls hl => ?_)
  have loop3 : ∀ (f_ k : Nat) (z : Int32), z = nI k → n0 + 1 ≤ k + f_ → k ≤ n0 → (∀ i : Nat, i < k → ldc gp gh pf pg sa sb da db i) → ∀ ls : Array Slot, lv_has ls 8 [(0, .ref h0), (1, .ref g), (2, .ref o1), (3, .ref o2), (4, .int n), (5, .int z)] → W p l e (headSpec wsX2_lead ({ frames := 4, cells := 0, slots := 0, locals := 91 })).room s m [.ref h0, .ref g, .ref o1, .ref o2, .int n].toArray below meth c s.heap [] 0 0 (MQ below (rq_x (some (.int (bI (∀ i : Nat, i < n0 → ldc gp gh pf pg sa sb da db i))))) [.ref h0, .ref g, .ref o1, .ref o2, .int n].toArray s 0 0 (fun _ => False)) (F0 m 3 ls []) := by
    intro f
    induction f with
    | zero =>
      intro k z hz h1 h2
      omega
    | succ f ih =>
      intro k z hz h1 h2 h3 ls hl
      refine lv_iload hx hb dX2_lead_3 (lv_at hl 5 rfl) ?_
      refine lv_iload hx hb dX2_lead_5 (lv_at hl 4 rfl) ?_
      refine lv_icmp_ge (tgt := 76) hx hb dX2_lead_7 (by decide) (fun c_7 => ?_) (fun c_7 => ?_)
      · skip
        refine lv_iconst (v := 1) hx hb dX2_lead_76 (by decide) ?_
        exact W.zret (v := 1) hx hb hr rfl (fun t ht hW => ⟨congrArg (fun z => Outcome.returned (some (Value.int z))) (bI_t (by rw [← lp_end hz hn (by omega) h2 c_7]; exact h3)), ht⟩) (fun _ h => by cases h) dX2_lead_77
      · skip
        refine lv_aload_n hx hb dX2_lead_10 rfl (lv_at hl 0 rfl) ?_
        refine lv_iload hx hb dX2_lead_11 (lv_at hl 5 rfl) ?_
        refine rq_call1 (v := .int (g40 pg z)) (rn_V (As := [.int z]) (rest := []) (ci := 2) (fs := [.ref a, .ref b]) ⟨hx, hb, hml, hown, hts⟩ (c_X2_exponent l D cA h0 a b pf pg z) rfl (cwV 1 hts gX2_lead_X2_exponent rfl rfl rfl (by decide +kernel) ⟨Nat.le_of_ble_eq_true rfl, Nat.le_of_ble_eq_true rfl⟩) hK hP [0, 1, 2] rfl rfl rfl hl.1 rfl (Nat.le_of_ble_eq_true rfl) dX2_lead_13 ⟨Nat.le_of_ble_eq_true rfl, Nat.le_of_ble_eq_true rfl⟩) ?_
        rw [g40_n hz (show k < 40 from Nat.lt_of_lt_of_le (lp_lt hz hn (by omega) h2 c_7) hn4)]
        refine lv_istore (lv' := [(6, .int (pg k)), (0, .ref h0), (1, .ref g), (2, .ref o1), (3, .ref o2), (4, .int n), (5, .int z)]) hx hb dX2_lead_16 hl (by decide) rfl (fun ls hl => ?_)
        refine lv_aload_n hx hb dX2_lead_18 rfl (lv_at hl 1 rfl) ?_
        refine lv_iload hx hb dX2_lead_19 (lv_at hl 6 rfl) ?_
        refine rq_call1 (v := .int (g40 pf z)) (rn_V (As := [.int z]) (rest := []) (ci := 2) (fs := [.ref a, .ref b]) ⟨hx, hb, hml, hown, hts⟩ (c_X2_target l D cA h0 a b pf pg z) rfl (cwV 1 hts gX2_lead_X2_target rfl rfl rfl (by decide +kernel) ⟨Nat.le_of_ble_eq_true rfl, Nat.le_of_ble_eq_true rfl⟩) hK hP [0, 1, 2] rfl rfl rfl hl.1 rfl (Nat.le_of_ble_eq_true rfl) dX2_lead_21 ⟨Nat.le_of_ble_eq_true rfl, Nat.le_of_ble_eq_true rfl⟩) ?_
        rw [g40_n hz (show k < 40 from Nat.lt_of_lt_of_le (lp_lt hz hn (by omega) h2 c_7) hn4)]
        refine lv_istore (lv' := [(7, .int (pf k)), (6, .int (pg k)), (0, .ref h0), (1, .ref g), (2, .ref o1), (3, .ref o2), (4, .int n), (5, .int z)]) hx hb dX2_lead_24 hl (by decide) rfl (fun ls hl => ?_)
        refine lv_aload_n hx hb dX2_lead_26 rfl (lv_at hl 3 rfl) ?_
        refine lv_aload_n hx hb dX2_lead_27 rfl (lv_at hl 4 rfl) ?_
        refine lv_iload hx hb dX2_lead_28 (lv_at hl 7 rfl) ?_
        refine rq_call1 (v := .int (g40 sa z)) (rn_V (As := [.int z]) (rest := [.ref g]) (ci := 3) (fs := [.ref oa1, .ref ob1]) ⟨hx, hb, hml, hown, hts⟩ (c_X4_first l D cA o1 oa1 ob1 sa sb z) rfl (cwV 1 hts gX2_lead_X4_first rfl rfl rfl (by decide +kernel) ⟨Nat.le_of_ble_eq_true rfl, Nat.le_of_ble_eq_true rfl⟩) hK hP [4, 5, 6] rfl rfl rfl hl.1 rfl (Nat.le_of_ble_eq_true rfl) dX2_lead_30 ⟨Nat.le_of_ble_eq_true rfl, Nat.le_of_ble_eq_true rfl⟩) ?_
        rw [g40_n hz (show k < 40 from Nat.lt_of_lt_of_le (lp_lt hz hn (by omega) h2 c_7) hn4)]
        refine lv_iload hx hb dX2_lead_33 (lv_at hl 1 rfl) ?_
        refine rq_call1 (v := .int (tm gp (sa k) (pw gp 32 (nt pg k) 1 4))) (rn_V (As := [.int (sa k), .int (pg k)]) (rest := []) (ci := 1) (fs := [.int gp, .int gq, .int gh]) ⟨hx, hb, hml, hown, hts⟩ (c_X1_renewedFirst l D cA g gp gq gh (sa k) (pg k) (nt pg k) (hmv k (lp_lt hz hn (by omega) h2 c_7)).2.2 (nn_lt _) hgp) rfl (cwV 2 hts gX2_lead_X1_renewedFirst rfl rfl rfl (by decide +kernel) ⟨Nat.le_of_ble_eq_true rfl, Nat.le_of_ble_eq_true rfl⟩) hK hP [3] rfl rfl rfl hl.1 rfl (Nat.le_of_ble_eq_true rfl) dX2_lead_35 ⟨Nat.le_of_ble_eq_true rfl, Nat.le_of_ble_eq_true rfl⟩) ?_
        refine lv_aload_n hx hb dX2_lead_38 rfl (lv_at hl 5 rfl) ?_
        refine lv_iload hx hb dX2_lead_39 (lv_at hl 0 rfl) ?_
        refine rq_call1 (v := .int (g40 da (pf k))) (rn_V (As := [.int (pf k)]) (rest := [.int (tm gp (sa k) (pw gp 32 (nt pg k) 1 4))]) (ci := 3) (fs := [.ref oa2, .ref ob2]) ⟨hx, hb, hml, hown, hts⟩ (c_X4_first l D cA o2 oa2 ob2 da db (pf k)) rfl (cwV 1 hts gX2_lead_X4_first rfl rfl rfl (by decide +kernel) ⟨Nat.le_of_ble_eq_true rfl, Nat.le_of_ble_eq_true rfl⟩) hK hP [7, 8, 9] rfl rfl rfl hl.1 rfl (Nat.le_of_ble_eq_true rfl) dX2_lead_41 ⟨Nat.le_of_ble_eq_true rfl, Nat.le_of_ble_eq_true rfl⟩) ?_
        rw [g40_n (hmv k (lp_lt hz hn (by omega) h2 c_7)).1 (hmv k (lp_lt hz hn (by omega) h2 c_7)).2.1]
        refine lv_icmp_ne (tgt := 68) hx hb dX2_lead_44 (by decide) (fun c_44 => ?_) (fun c_44 => ?_)
        · skip
          refine lv_iconst (v := 0) hx hb dX2_lead_68 (by decide) ?_
          exact W.zret (v := 0) hx hb hr rfl (fun t ht hW => ⟨congrArg (fun z => Outcome.returned (some (Value.int z))) (bI_f (fun h => c_44 (h k (lp_lt hz hn (by omega) h2 c_7)).1)), ht⟩) (fun _ h => by cases h) dX2_lead_69
        · skip
          refine lv_aload_n hx hb dX2_lead_47 rfl (lv_at hl 3 rfl) ?_
          refine lv_aload_n hx hb dX2_lead_48 rfl (lv_at hl 4 rfl) ?_
          refine lv_iload hx hb dX2_lead_49 (lv_at hl 7 rfl) ?_
          refine rq_call1 (v := .int (g40 sb z)) (rn_V (As := [.int z]) (rest := [.ref g]) (ci := 3) (fs := [.ref oa1, .ref ob1]) ⟨hx, hb, hml, hown, hts⟩ (c_X4_second l D cA o1 oa1 ob1 sa sb z) rfl (cwV 1 hts gX2_lead_X4_second rfl rfl rfl (by decide +kernel) ⟨Nat.le_of_ble_eq_true rfl, Nat.le_of_ble_eq_true rfl⟩) hK hP [4, 5, 6] rfl rfl rfl hl.1 rfl (Nat.le_of_ble_eq_true rfl) dX2_lead_51 ⟨Nat.le_of_ble_eq_true rfl, Nat.le_of_ble_eq_true rfl⟩) ?_
          rw [g40_n hz (show k < 40 from Nat.lt_of_lt_of_le (lp_lt hz hn (by omega) h2 c_7) hn4)]
          refine lv_iload hx hb dX2_lead_54 (lv_at hl 1 rfl) ?_
          refine rq_call1 (v := .int (tm gp (sb k) (pw gp 32 (nt pg k) 1 gh))) (rn_V (As := [.int (sb k), .int (pg k)]) (rest := []) (ci := 1) (fs := [.int gp, .int gq, .int gh]) ⟨hx, hb, hml, hown, hts⟩ (c_X1_renewedSecond l D cA g gp gq gh (sb k) (pg k) (nt pg k) (hmv k (lp_lt hz hn (by omega) h2 c_7)).2.2 (nn_lt _) hgp) rfl (cwV 2 hts gX2_lead_X1_renewedSecond rfl rfl rfl (by decide +kernel) ⟨Nat.le_of_ble_eq_true rfl, Nat.le_of_ble_eq_true rfl⟩) hK hP [3] rfl rfl rfl hl.1 rfl (Nat.le_of_ble_eq_true rfl) dX2_lead_56 ⟨Nat.le_of_ble_eq_true rfl, Nat.le_of_ble_eq_true rfl⟩) ?_
          refine lv_aload_n hx hb dX2_lead_59 rfl (lv_at hl 5 rfl) ?_
          refine lv_iload hx hb dX2_lead_60 (lv_at hl 0 rfl) ?_
          refine rq_call1 (v := .int (g40 db (pf k))) (rn_V (As := [.int (pf k)]) (rest := [.int (tm gp (sb k) (pw gp 32 (nt pg k) 1 gh))]) (ci := 3) (fs := [.ref oa2, .ref ob2]) ⟨hx, hb, hml, hown, hts⟩ (c_X4_second l D cA o2 oa2 ob2 da db (pf k)) rfl (cwV 1 hts gX2_lead_X4_second rfl rfl rfl (by decide +kernel) ⟨Nat.le_of_ble_eq_true rfl, Nat.le_of_ble_eq_true rfl⟩) hK hP [7, 8, 9] rfl rfl rfl hl.1 rfl (Nat.le_of_ble_eq_true rfl) dX2_lead_62 ⟨Nat.le_of_ble_eq_true rfl, Nat.le_of_ble_eq_true rfl⟩) ?_
          rw [g40_n (hmv k (lp_lt hz hn (by omega) h2 c_7)).1 (hmv k (lp_lt hz hn (by omega) h2 c_7)).2.1]
          refine lv_icmp_eq (tgt := 70) hx hb dX2_lead_65 (by decide) (fun c_65 => ?_) (fun c_65 => ?_)
          · skip
            refine lv_iinc (v := (z + 1)) (lv' := [(5, .int (z + 1)), (7, .int (pf k)), (6, .int (pg k)), (0, .ref h0), (1, .ref g), (2, .ref o1), (3, .ref o2), (4, .int n)]) hx hb dX2_lead_70 hl (k := 7) rfl rfl (by decide) rfl (fun ls hl => ?_)
            refine lv_goto (tgt := 3) hx hb dX2_lead_73 (by decide) ?_
            have hk := lp_lt hz hn (by omega) h2 c_7
            exact ih (k + 1) (z + 1) (st_1 hz) (by omega) (by omega) (ld_next h3 c_44 c_65) ls (lv_sub hl [3, 4, 5, 6, 7, 0] rfl)
          · skip
            refine lv_iconst (v := 0) hx hb dX2_lead_68 (by decide) ?_
            exact W.zret (v := 0) hx hb hr rfl (fun t ht hW => ⟨congrArg (fun z => Outcome.returned (some (Value.int z))) (bI_f (fun h => c_65 (h k (lp_lt hz hn (by omega) h2 c_7)).2)), ht⟩) (fun _ h => by cases h) dX2_lead_69
  exact loop3 (n0 + 1) 0 0 rfl (by omega) (by omega) (fun i h => by omega) ls (lv_sub hl [1, 2, 3, 4, 5, 0] rfl)

set_option maxHeartbeats 4000000 in
set_option maxRecDepth 100000 in
theorem c_X5_isWhole (l : Launch) (D : va_G) (cA : Nat → ClassId) (sg : Nat) (mo : Nat) (ma : Nat) (mb : Nat) (fo : Nat) (mt : Nat → Int32) (me : Nat → Int32) (n : Int32) (n0 : Nat) (hn : n = nI n0) (hn4 : n0 ≤ 40) (hrg : ∀ i : Nat, i < n0 → mt i = -1 ∨ (nn (mt i) ∧ nt mt i < 40)) : Met l yX5_isWhole wsX5_isWhole ({ frames := 2, cells := 0, slots := 0, locals := 47 }) (rPc vwCl D cA [(sg, .inr (4, [.ref mo, .ref fo])), (mo, .inr (2, [.ref ma, .ref mb])), (ma, .inl (cA 0, 40, .inl mt)), (mb, .inl (cA 0, 40, .inl me))] [.ref sg, .int n]) (rq_x (some (.int (bI (whl mt n0))))) 0 0 (fun _ => False) := by
  refine Met.ofW (cc := cX5_isWhole) (maxL := 2) (ret := (some .boolean)) (by decide) rfl ?_
  intro p e s m args below meth c s₁ B hml hv
  obtain ⟨rfl, hP, hK⟩ := hv
  have hx := B.exec
  have hb := B.bytes
  have hr := B.returns
  have hts := atoms_spec (ws := wsX5_isWhole) B.pre
  have hown : s.vm.findClass RX5 = some m.cls := findClass_of_methodNamed B.named
  have hlocks := B.notSynchronized
  have hin_X5 : ∀ w ∈ wsX50, w ∈ wsX5_isWhole := fun w h => List.mem_cons_of_mem _ (List.mem_append_left _ (List.mem_append_right _ h))
  have w_RX5_12 := hts (.fieldLink RX5 12 "MixElection$Staging" "moves" "LMixElection$Moves;") (by decide +kernel)
  have hl := lv_entry ([.ref sg, .int n]) (n := 2) (Nat.le_of_ble_eq_true rfl)
  rw [lg_entry_eq]
  generalize (lg_sl ([.ref sg, .int n]) ++ List.replicate (2 - (lg_sl ([.ref sg, .int n])).length) Slot.unset).toArray = ls at hl ⊢
  have hl : lv_has ls 2 [(0, .ref sg), (1, .int n)] := hl
  refine lv_aload_n hx hb dX5_isWhole_0 rfl (lv_at hl 0 rfl) ?_
  refine va_get (D := D) (ci := 4) (v := .ref mo) (C := RX5) (T := TX5) (N := 2) hx hb hts hin_X5 hown hK hP 0 rfl rfl 0 (by decide) (w_RX5_12) (fun _ h9 => h9) rfl dX5_isWhole_1 ?_
  refine lv_iload_n hx hb dX5_isWhole_4 rfl (lv_at hl 1 rfl) ?_
  refine rq_call1 (v := .int (bI (whl mt n0))) (rn_V (As := [.int n]) (rest := []) (ci := 2) (fs := [.ref ma, .ref mb]) ⟨hx, hb, hml, hown, hts⟩ (c_X2_isWhole l D cA mo ma mb mt me n n0 hn hn4 hrg) rfl (cwV 1 hts gX5_isWhole_X2_isWhole rfl rfl rfl (by decide +kernel) ⟨Nat.le_of_ble_eq_true rfl, Nat.le_of_ble_eq_true rfl⟩) hK hP [1, 2, 3] rfl rfl rfl hl.1 rfl (Nat.le_of_ble_eq_true rfl) dX5_isWhole_5 ⟨Nat.le_of_ble_eq_true rfl, Nat.le_of_ble_eq_true rfl⟩) ?_
  exact W.zret (v := (bI (whl mt n0))) hx hb hr bI_nar (fun t ht hW => ⟨congrArg (fun z => Outcome.returned (some (Value.int z))) (rfl), ht⟩) (fun _ h => by cases h) dX5_isWhole_8

set_option maxHeartbeats 4000000 in
set_option maxRecDepth 100000 in
theorem c_X5_shuffle (l : Launch) (D : va_G) (cA : Nat → ClassId) (sg : Nat) (mo : Nat) (ma : Nat) (mb : Nat) (fo : Nat) (fa : Nat) (fb : Nat) (mt : Nat → Int32) (me : Nat → Int32) (ff : Nat → Int32) (fg : Nat → Int32) (g : Nat) (o1 : Nat) (oa1 : Nat) (ob1 : Nat) (o2 : Nat) (oa2 : Nat) (ob2 : Nat) (gp : Int32) (gq : Int32) (gh : Int32) (sa : Nat → Int32) (sb : Nat → Int32) (da : Nat → Int32) (db : Nat → Int32) (n : Int32) (n0 : Nat) (hn : n = nI n0) (hn4 : n0 ≤ 40) (hmv : ∀ i : Nat, i < n0 → nn (mt i) ∧ nt mt i < 40 ∧ nn (me i)) (hgp : 0 < gp) : Met l yX5_shuffle wsX5_shuffle ({ frames := 4, cells := 0, slots := 0, locals := 91 }) (wPc vwCl D cA [(sg, .inr (4, [.ref mo, .ref fo])), (mo, .inr (2, [.ref ma, .ref mb])), (ma, .inl (cA 0, 40, .inl mt)), (mb, .inl (cA 0, 40, .inl me)), (fo, .inr (3, [.ref fa, .ref fb])), (fa, .inl (cA 0, 40, .inl ff)), (fb, .inl (cA 0, 40, .inl fg)), (g, .inr (1, [.int gp, .int gq, .int gh])), (o1, .inr (3, [.ref oa1, .ref ob1])), (oa1, .inl (cA 0, 40, .inl sa)), (ob1, .inl (cA 0, 40, .inl sb)), (o2, .inr (3, [.ref oa2, .ref ob2])), (oa2, .inl (cA 0, 40, .inl da)), (ob2, .inl (cA 0, 40, .inl db))] [.ref sg, .ref g, .ref o1, .ref o2, .int n]) (wq_x vwCl D [(sg, .inr (4, [.ref mo, .ref fo])), (mo, .inr (2, [.ref ma, .ref mb])), (ma, .inl (cA 0, 40, .inl mt)), (mb, .inl (cA 0, 40, .inl me)), (fo, .inr (3, [.ref fa, .ref fb])), (fa, .inl (cA 0, 40, .inl ff)), (fb, .inl (cA 0, 40, .inl fg)), (g, .inr (1, [.int gp, .int gq, .int gh])), (o1, .inr (3, [.ref oa1, .ref ob1])), (oa1, .inl (cA 0, 40, .inl sa)), (ob1, .inl (cA 0, 40, .inl sb)), (o2, .inr (3, [.ref oa2, .ref ob2])), (oa2, .inl (cA 0, 40, .inl (scat (nt mt) (shv gp 4 ff ff sa mt me) da n0))), (ob2, .inl (cA 0, 40, .inl (scat (nt mt) (shv gp gh ff fg sb mt me) db n0)))] none (wA [(sg, .inr (4, [.ref mo, .ref fo])), (mo, .inr (2, [.ref ma, .ref mb])), (ma, .inl (cA 0, 40, .inl mt)), (mb, .inl (cA 0, 40, .inl me)), (fo, .inr (3, [.ref fa, .ref fb])), (fa, .inl (cA 0, 40, .inl ff)), (fb, .inl (cA 0, 40, .inl fg)), (g, .inr (1, [.int gp, .int gq, .int gh])), (o1, .inr (3, [.ref oa1, .ref ob1])), (oa1, .inl (cA 0, 40, .inl sa)), (ob1, .inl (cA 0, 40, .inl sb)), (o2, .inr (3, [.ref oa2, .ref ob2])), (oa2, .inl (cA 0, 40, .inl da)), (ob2, .inl (cA 0, 40, .inl db))])) 0 0 (wA [(sg, .inr (4, [.ref mo, .ref fo])), (mo, .inr (2, [.ref ma, .ref mb])), (ma, .inl (cA 0, 40, .inl mt)), (mb, .inl (cA 0, 40, .inl me)), (fo, .inr (3, [.ref fa, .ref fb])), (fa, .inl (cA 0, 40, .inl ff)), (fb, .inl (cA 0, 40, .inl fg)), (g, .inr (1, [.int gp, .int gq, .int gh])), (o1, .inr (3, [.ref oa1, .ref ob1])), (oa1, .inl (cA 0, 40, .inl sa)), (ob1, .inl (cA 0, 40, .inl sb)), (o2, .inr (3, [.ref oa2, .ref ob2])), (oa2, .inl (cA 0, 40, .inl da)), (ob2, .inl (cA 0, 40, .inl db))]) := by
  refine Met.ofW (cc := cX5_shuffle) (maxL := 8) (ret := none) (by decide) rfl ?_
  intro p e s m args below meth c s₁ B hml hv
  obtain ⟨rfl, hP, hK, hD0⟩ := hv
  have hx := B.exec
  have hb := B.bytes
  have hr := B.returns
  have hts := atoms_spec (ws := wsX5_shuffle) B.pre
  have hown : s.vm.findClass RX5 = some m.cls := findClass_of_methodNamed B.named
  have hlocks := B.notSynchronized
  have hin_X5 : ∀ w ∈ wsX50, w ∈ wsX5_shuffle := fun w h => List.mem_cons_of_mem _ (List.mem_append_left _ (List.mem_append_left _ (List.mem_append_left _ (List.mem_append_right _ h))))
  have w_RX5_12 := hts (.fieldLink RX5 12 "MixElection$Staging" "moves" "LMixElection$Moves;") (by decide +kernel)
  have w_RX5_21 := hts (.fieldLink RX5 21 "MixElection$Staging" "forged" "LMixElection$Pairs;") (by decide +kernel)
  have hD : va_D (wA [(sg, .inr (4, [.ref mo, .ref fo])), (mo, .inr (2, [.ref ma, .ref mb])), (ma, .inl (cA 0, 40, .inl mt)), (mb, .inl (cA 0, 40, .inl me)), (fo, .inr (3, [.ref fa, .ref fb])), (fa, .inl (cA 0, 40, .inl ff)), (fb, .inl (cA 0, 40, .inl fg)), (g, .inr (1, [.int gp, .int gq, .int gh])), (o1, .inr (3, [.ref oa1, .ref ob1])), (oa1, .inl (cA 0, 40, .inl sa)), (ob1, .inl (cA 0, 40, .inl sb)), (o2, .inr (3, [.ref oa2, .ref ob2])), (oa2, .inl (cA 0, 40, .inl da)), (ob2, .inl (cA 0, 40, .inl db))]) [(sg, .inr (4, [.ref mo, .ref fo])), (mo, .inr (2, [.ref ma, .ref mb])), (ma, .inl (cA 0, 40, .inl mt)), (mb, .inl (cA 0, 40, .inl me)), (fo, .inr (3, [.ref fa, .ref fb])), (fa, .inl (cA 0, 40, .inl ff)), (fb, .inl (cA 0, 40, .inl fg)), (g, .inr (1, [.int gp, .int gq, .int gh])), (o1, .inr (3, [.ref oa1, .ref ob1])), (oa1, .inl (cA 0, 40, .inl sa)), (ob1, .inl (cA 0, 40, .inl sb)), (o2, .inr (3, [.ref oa2, .ref ob2])), (oa2, .inl (cA 0, 40, .inl da)), (ob2, .inl (cA 0, 40, .inl db))] := ⟨hD0.1, fun k q h => List.mem_map.mpr ⟨q, List.mem_of_getElem? h, rfl⟩⟩
  have hS : va_S (wA [(sg, .inr (4, [.ref mo, .ref fo])), (mo, .inr (2, [.ref ma, .ref mb])), (ma, .inl (cA 0, 40, .inl mt)), (mb, .inl (cA 0, 40, .inl me)), (fo, .inr (3, [.ref fa, .ref fb])), (fa, .inl (cA 0, 40, .inl ff)), (fb, .inl (cA 0, 40, .inl fg)), (g, .inr (1, [.int gp, .int gq, .int gh])), (o1, .inr (3, [.ref oa1, .ref ob1])), (oa1, .inl (cA 0, 40, .inl sa)), (ob1, .inl (cA 0, 40, .inl sb)), (o2, .inr (3, [.ref oa2, .ref ob2])), (oa2, .inl (cA 0, 40, .inl da)), (ob2, .inl (cA 0, 40, .inl db))]) s.heap s.heap [] := va_S.rf
  generalize hAe : wA [(sg, .inr (4, [.ref mo, .ref fo])), (mo, .inr (2, [.ref ma, .ref mb])), (ma, .inl (cA 0, 40, .inl mt)), (mb, .inl (cA 0, 40, .inl me)), (fo, .inr (3, [.ref fa, .ref fb])), (fa, .inl (cA 0, 40, .inl ff)), (fb, .inl (cA 0, 40, .inl fg)), (g, .inr (1, [.int gp, .int gq, .int gh])), (o1, .inr (3, [.ref oa1, .ref ob1])), (oa1, .inl (cA 0, 40, .inl sa)), (ob1, .inl (cA 0, 40, .inl sb)), (o2, .inr (3, [.ref oa2, .ref ob2])), (oa2, .inl (cA 0, 40, .inl da)), (ob2, .inl (cA 0, 40, .inl db))] = A at hD hS ⊢
  have hP : va_P D vwCl [(sg, .inr (4, [.ref mo, .ref fo])), (mo, .inr (2, [.ref ma, .ref mb])), (ma, .inl (cA 0, 40, .inl mt)), (mb, .inl (cA 0, 40, .inl me)), (fo, .inr (3, [.ref fa, .ref fb])), (fa, .inl (cA 0, 40, .inl ff)), (fb, .inl (cA 0, 40, .inl fg)), (g, .inr (1, [.int gp, .int gq, .int gh])), (o1, .inr (3, [.ref oa1, .ref ob1])), (oa1, .inl (cA 0, 40, .inl sa)), (ob1, .inl (cA 0, 40, .inl sb)), (o2, .inr (3, [.ref oa2, .ref ob2])), (oa2, .inl (cA 0, 40, .inl da)), (ob2, .inl (cA 0, 40, .inl db))] s.heap := hP
  have hl := lv_entry ([.ref sg, .ref g, .ref o1, .ref o2, .int n]) (n := 8) (Nat.le_of_ble_eq_true rfl)
  rw [lg_entry_eq]
  generalize (lg_sl ([.ref sg, .ref g, .ref o1, .ref o2, .int n]) ++ List.replicate (8 - (lg_sl ([.ref sg, .ref g, .ref o1, .ref o2, .int n])).length) Slot.unset).toArray = ls at hl ⊢
  have hl : lv_has ls 8 [(0, .ref sg), (1, .ref g), (2, .ref o1), (3, .ref o2), (4, .int n)] := hl
  refine lv_iconst (v := 0) hx hb dX5_shuffle_0 (by decide) ?_
  refine lv_istore (lv' := [(5, .int 0), (0, .ref sg), (1, .ref g), (2, .ref o1), (3, .ref o2), (4, .int n)]) hx hb dX5_shuffle_1 hl (by decide) rfl (fun ls hl => ?_)
  have loop3 : ∀ (f_ k : Nat) (z : Int32), z = nI k → n0 + 1 ≤ k + f_ → k ≤ n0 → ∀ (H : Heap) (locs : List Loc), va_P D vwCl [(sg, .inr (4, [.ref mo, .ref fo])), (mo, .inr (2, [.ref ma, .ref mb])), (ma, .inl (cA 0, 40, .inl mt)), (mb, .inl (cA 0, 40, .inl me)), (fo, .inr (3, [.ref fa, .ref fb])), (fa, .inl (cA 0, 40, .inl ff)), (fb, .inl (cA 0, 40, .inl fg)), (g, .inr (1, [.int gp, .int gq, .int gh])), (o1, .inr (3, [.ref oa1, .ref ob1])), (oa1, .inl (cA 0, 40, .inl sa)), (ob1, .inl (cA 0, 40, .inl sb)), (o2, .inr (3, [.ref oa2, .ref ob2])), (oa2, .inl (cA 0, 40, .inl (scat (nt mt) (shv gp 4 ff ff sa mt me) da k))), (ob2, .inl (cA 0, 40, .inl (scat (nt mt) (shv gp gh ff fg sb mt me) db k)))] H → va_D A [(sg, .inr (4, [.ref mo, .ref fo])), (mo, .inr (2, [.ref ma, .ref mb])), (ma, .inl (cA 0, 40, .inl mt)), (mb, .inl (cA 0, 40, .inl me)), (fo, .inr (3, [.ref fa, .ref fb])), (fa, .inl (cA 0, 40, .inl ff)), (fb, .inl (cA 0, 40, .inl fg)), (g, .inr (1, [.int gp, .int gq, .int gh])), (o1, .inr (3, [.ref oa1, .ref ob1])), (oa1, .inl (cA 0, 40, .inl sa)), (ob1, .inl (cA 0, 40, .inl sb)), (o2, .inr (3, [.ref oa2, .ref ob2])), (oa2, .inl (cA 0, 40, .inl (scat (nt mt) (shv gp 4 ff ff sa mt me) da k))), (ob2, .inl (cA 0, 40, .inl (scat (nt mt) (shv gp gh ff fg sb mt me) db k)))] → va_S A s.heap H locs → ∀ ls : Array Slot, lv_has ls 8 [(0, .ref sg), (1, .ref g), (2, .ref o1), (3, .ref o2), (4, .int n), (5, .int z)] → W p l e (headSpec wsX5_shuffle ({ frames := 4, cells := 0, slots := 0, locals := 91 })).room s m [.ref sg, .ref g, .ref o1, .ref o2, .int n].toArray below meth c H locs 0 0 (MQ below (wq_x vwCl D [(sg, .inr (4, [.ref mo, .ref fo])), (mo, .inr (2, [.ref ma, .ref mb])), (ma, .inl (cA 0, 40, .inl mt)), (mb, .inl (cA 0, 40, .inl me)), (fo, .inr (3, [.ref fa, .ref fb])), (fa, .inl (cA 0, 40, .inl ff)), (fb, .inl (cA 0, 40, .inl fg)), (g, .inr (1, [.int gp, .int gq, .int gh])), (o1, .inr (3, [.ref oa1, .ref ob1])), (oa1, .inl (cA 0, 40, .inl sa)), (ob1, .inl (cA 0, 40, .inl sb)), (o2, .inr (3, [.ref oa2, .ref ob2])), (oa2, .inl (cA 0, 40, .inl (scat (nt mt) (shv gp 4 ff ff sa mt me) da n0))), (ob2, .inl (cA 0, 40, .inl (scat (nt mt) (shv gp gh ff fg sb mt me) db n0)))] none A) [.ref sg, .ref g, .ref o1, .ref o2, .int n].toArray s 0 0 A) (F0 m 3 ls []) := by
    intro f
    induction f with
    | zero =>
      intro k z hz h1 h2
      omega
    | succ f ih =>
      intro k z hz h1 h2 H locs hP hD hS ls hl
      refine lv_iload hx hb dX5_shuffle_3 (lv_at hl 5 rfl) ?_
      refine lv_iload hx hb dX5_shuffle_5 (lv_at hl 4 rfl) ?_
      refine lv_icmp_ge (tgt := 108) hx hb dX5_shuffle_7 (by decide) (fun c_7 => ?_) (fun c_7 => ?_)
      · skip
        have hP9 : va_P D vwCl [(sg, .inr (4, [.ref mo, .ref fo])), (mo, .inr (2, [.ref ma, .ref mb])), (ma, .inl (cA 0, 40, .inl mt)), (mb, .inl (cA 0, 40, .inl me)), (fo, .inr (3, [.ref fa, .ref fb])), (fa, .inl (cA 0, 40, .inl ff)), (fb, .inl (cA 0, 40, .inl fg)), (g, .inr (1, [.int gp, .int gq, .int gh])), (o1, .inr (3, [.ref oa1, .ref ob1])), (oa1, .inl (cA 0, 40, .inl sa)), (ob1, .inl (cA 0, 40, .inl sb)), (o2, .inr (3, [.ref oa2, .ref ob2])), (oa2, .inl (cA 0, 40, .inl (scat (nt mt) (shv gp 4 ff ff sa mt me) da n0))), (ob2, .inl (cA 0, 40, .inl (scat (nt mt) (shv gp gh ff fg sb mt me) db n0)))] H := (by rw [← lp_end hz hn (by omega) h2 c_7]; exact hP)
        exact W.vret hx hb hr (fun t ht hW => ⟨rfl, by rw [ht]; exact hP9, hS.F ht⟩) hS.2.2 dX5_shuffle_108
      · skip
        refine lv_aload_n hx hb dX5_shuffle_10 rfl (lv_at hl 0 rfl) ?_
        refine va_get (D := D) (ci := 4) (v := .ref mo) (C := RX5) (T := TX5) (N := 2) hx hb hts hin_X5 hown hK hP 0 rfl rfl 0 (by decide) (w_RX5_12) (fun _ h9 => h9) rfl dX5_shuffle_11 ?_
        refine lv_iload hx hb dX5_shuffle_14 (lv_at hl 5 rfl) ?_
        refine rq_call1 (v := .int (g40 me z)) (rn_V (As := [.int z]) (rest := []) (ci := 2) (fs := [.ref ma, .ref mb]) ⟨hx, hb, hml, hown, hts⟩ (c_X2_exponent l D cA mo ma mb mt me z) rfl (cwV 1 hts gX5_shuffle_X2_exponent rfl rfl rfl (by decide +kernel) ⟨Nat.le_of_ble_eq_true rfl, Nat.le_of_ble_eq_true rfl⟩) hK hP [1, 2, 3] rfl rfl rfl hl.1 rfl (Nat.le_of_ble_eq_true rfl) dX5_shuffle_16 ⟨Nat.le_of_ble_eq_true rfl, Nat.le_of_ble_eq_true rfl⟩) ?_
        rw [g40_n hz (show k < 40 from Nat.lt_of_lt_of_le (lp_lt hz hn (by omega) h2 c_7) hn4)]
        refine lv_istore (lv' := [(6, .int (me k)), (0, .ref sg), (1, .ref g), (2, .ref o1), (3, .ref o2), (4, .int n), (5, .int z)]) hx hb dX5_shuffle_19 hl (by decide) rfl (fun ls hl => ?_)
        refine lv_aload_n hx hb dX5_shuffle_21 rfl (lv_at hl 1 rfl) ?_
        refine va_get (D := D) (ci := 4) (v := .ref mo) (C := RX5) (T := TX5) (N := 2) hx hb hts hin_X5 hown hK hP 0 rfl rfl 0 (by decide) (w_RX5_12) (fun _ h9 => h9) rfl dX5_shuffle_22 ?_
        refine lv_iload hx hb dX5_shuffle_25 (lv_at hl 6 rfl) ?_
        refine rq_call1 (v := .int (g40 mt z)) (rn_V (As := [.int z]) (rest := []) (ci := 2) (fs := [.ref ma, .ref mb]) ⟨hx, hb, hml, hown, hts⟩ (c_X2_target l D cA mo ma mb mt me z) rfl (cwV 1 hts gX5_shuffle_X2_target rfl rfl rfl (by decide +kernel) ⟨Nat.le_of_ble_eq_true rfl, Nat.le_of_ble_eq_true rfl⟩) hK hP [1, 2, 3] rfl rfl rfl hl.1 rfl (Nat.le_of_ble_eq_true rfl) dX5_shuffle_27 ⟨Nat.le_of_ble_eq_true rfl, Nat.le_of_ble_eq_true rfl⟩) ?_
        rw [g40_n hz (show k < 40 from Nat.lt_of_lt_of_le (lp_lt hz hn (by omega) h2 c_7) hn4)]
        refine lv_istore (lv' := [(7, .int (mt k)), (6, .int (me k)), (0, .ref sg), (1, .ref g), (2, .ref o1), (3, .ref o2), (4, .int n), (5, .int z)]) hx hb dX5_shuffle_30 hl (by decide) rfl (fun ls hl => ?_)
        refine lv_aload_n hx hb dX5_shuffle_32 rfl (lv_at hl 2 rfl) ?_
        refine va_get (D := D) (ci := 4) (v := .ref fo) (C := RX5) (T := TX5) (N := 2) hx hb hts hin_X5 hown hK hP 0 rfl rfl 1 (by decide) (w_RX5_21) (fun _ h9 => h9) rfl dX5_shuffle_33 ?_
        refine lv_iload hx hb dX5_shuffle_36 (lv_at hl 0 rfl) ?_
        refine rq_call1 (v := .int (g40 ff (mt k))) (rn_V (As := [.int (mt k)]) (rest := []) (ci := 3) (fs := [.ref fa, .ref fb]) ⟨hx, hb, hml, hown, hts⟩ (c_X4_first l D cA fo fa fb ff fg (mt k)) rfl (cwV 1 hts gX5_shuffle_X4_first rfl rfl rfl (by decide +kernel) ⟨Nat.le_of_ble_eq_true rfl, Nat.le_of_ble_eq_true rfl⟩) hK hP [4, 5, 6] rfl rfl rfl hl.1 rfl (Nat.le_of_ble_eq_true rfl) dX5_shuffle_38 ⟨Nat.le_of_ble_eq_true rfl, Nat.le_of_ble_eq_true rfl⟩) ?_
        rw [g40_n (hmv k (lp_lt hz hn (by omega) h2 c_7)).1 (hmv k (lp_lt hz hn (by omega) h2 c_7)).2.1]
        refine lv_iconst (v := (-1)) hx hb dX5_shuffle_41 (by decide) ?_
        refine lv_icmp_eq (tgt := 72) hx hb dX5_shuffle_42 (by decide) (fun c_42 => ?_) (fun c_42 => ?_)
        · skip
          refine lv_aload_n hx hb dX5_shuffle_72 rfl (lv_at hl 5 rfl) ?_
          refine lv_iload hx hb dX5_shuffle_73 (lv_at hl 0 rfl) ?_
          refine lv_aload_n hx hb dX5_shuffle_75 rfl (lv_at hl 3 rfl) ?_
          refine lv_aload_n hx hb dX5_shuffle_76 rfl (lv_at hl 4 rfl) ?_
          refine lv_iload hx hb dX5_shuffle_77 (lv_at hl 7 rfl) ?_
          refine rq_call1 (v := .int (g40 sa z)) (rn_V (As := [.int z]) (rest := [.ref g, .int (mt k), .ref o2]) (ci := 3) (fs := [.ref oa1, .ref ob1]) ⟨hx, hb, hml, hown, hts⟩ (c_X4_first l D cA o1 oa1 ob1 sa sb z) rfl (cwV 1 hts gX5_shuffle_X4_first rfl rfl rfl (by decide +kernel) ⟨Nat.le_of_ble_eq_true rfl, Nat.le_of_ble_eq_true rfl⟩) hK hP [8, 9, 10] rfl rfl rfl hl.1 rfl (Nat.le_of_ble_eq_true rfl) dX5_shuffle_79 ⟨Nat.le_of_ble_eq_true rfl, Nat.le_of_ble_eq_true rfl⟩) ?_
          rw [g40_n hz (show k < 40 from Nat.lt_of_lt_of_le (lp_lt hz hn (by omega) h2 c_7) hn4)]
          refine lv_iload hx hb dX5_shuffle_82 (lv_at hl 1 rfl) ?_
          refine rq_call1 (v := .int (tm gp (sa k) (pw gp 32 (nt me k) 1 4))) (rn_V (As := [.int (sa k), .int (me k)]) (rest := [.int (mt k), .ref o2]) (ci := 1) (fs := [.int gp, .int gq, .int gh]) ⟨hx, hb, hml, hown, hts⟩ (c_X1_renewedFirst l D cA g gp gq gh (sa k) (me k) (nt me k) (hmv k (lp_lt hz hn (by omega) h2 c_7)).2.2 (nn_lt _) hgp) rfl (cwV 2 hts gX5_shuffle_X1_renewedFirst rfl rfl rfl (by decide +kernel) ⟨Nat.le_of_ble_eq_true rfl, Nat.le_of_ble_eq_true rfl⟩) hK hP [7] rfl rfl rfl hl.1 rfl (Nat.le_of_ble_eq_true rfl) dX5_shuffle_84 ⟨Nat.le_of_ble_eq_true rfl, Nat.le_of_ble_eq_true rfl⟩) ?_
          refine lv_aload_n hx hb dX5_shuffle_87 rfl (lv_at hl 3 rfl) ?_
          refine lv_aload_n hx hb dX5_shuffle_88 rfl (lv_at hl 4 rfl) ?_
          refine lv_iload hx hb dX5_shuffle_89 (lv_at hl 7 rfl) ?_
          refine rq_call1 (v := .int (g40 sb z)) (rn_V (As := [.int z]) (rest := [.ref g, .int (tm gp (sa k) (pw gp 32 (nt me k) 1 4)), .int (mt k), .ref o2]) (ci := 3) (fs := [.ref oa1, .ref ob1]) ⟨hx, hb, hml, hown, hts⟩ (c_X4_second l D cA o1 oa1 ob1 sa sb z) rfl (cwV 1 hts gX5_shuffle_X4_second rfl rfl rfl (by decide +kernel) ⟨Nat.le_of_ble_eq_true rfl, Nat.le_of_ble_eq_true rfl⟩) hK hP [8, 9, 10] rfl rfl rfl hl.1 rfl (Nat.le_of_ble_eq_true rfl) dX5_shuffle_91 ⟨Nat.le_of_ble_eq_true rfl, Nat.le_of_ble_eq_true rfl⟩) ?_
          rw [g40_n hz (show k < 40 from Nat.lt_of_lt_of_le (lp_lt hz hn (by omega) h2 c_7) hn4)]
          refine lv_iload hx hb dX5_shuffle_94 (lv_at hl 1 rfl) ?_
          refine rq_call1 (v := .int (tm gp (sb k) (pw gp 32 (nt me k) 1 gh))) (rn_V (As := [.int (sb k), .int (me k)]) (rest := [.int (tm gp (sa k) (pw gp 32 (nt me k) 1 4)), .int (mt k), .ref o2]) (ci := 1) (fs := [.int gp, .int gq, .int gh]) ⟨hx, hb, hml, hown, hts⟩ (c_X1_renewedSecond l D cA g gp gq gh (sb k) (me k) (nt me k) (hmv k (lp_lt hz hn (by omega) h2 c_7)).2.2 (nn_lt _) hgp) rfl (cwV 2 hts gX5_shuffle_X1_renewedSecond rfl rfl rfl (by decide +kernel) ⟨Nat.le_of_ble_eq_true rfl, Nat.le_of_ble_eq_true rfl⟩) hK hP [7] rfl rfl rfl hl.1 rfl (Nat.le_of_ble_eq_true rfl) dX5_shuffle_96 ⟨Nat.le_of_ble_eq_true rfl, Nat.le_of_ble_eq_true rfl⟩) ?_
          refine wl_call0 (wc := [(o2, .inr (3, [.ref oa2, .ref ob2])), (oa2, .inl (cA 0, 40, .inl (scat (nt mt) (shv gp 4 ff ff sa mt me) da k))), (ob2, .inl (cA 0, 40, .inl (scat (nt mt) (shv gp gh ff fg sb mt me) db k)))]) (w1 := [(o2, .inr (3, [.ref oa2, .ref ob2])), (oa2, .inl (cA 0, 40, .inl (upd (scat (nt mt) (shv gp 4 ff ff sa mt me) da k) (mt k).toNatClampNeg (tm gp (sa k) (pw gp 32 (nt me k) 1 4))))), (ob2, .inl (cA 0, 40, .inl (upd (scat (nt mt) (shv gp gh ff fg sb mt me) db k) (mt k).toNatClampNeg (tm gp (sb k) (pw gp 32 (nt me k) 1 gh)))))]) (ws' := [(sg, .inr (4, [.ref mo, .ref fo])), (mo, .inr (2, [.ref ma, .ref mb])), (ma, .inl (cA 0, 40, .inl mt)), (mb, .inl (cA 0, 40, .inl me)), (fo, .inr (3, [.ref fa, .ref fb])), (fa, .inl (cA 0, 40, .inl ff)), (fb, .inl (cA 0, 40, .inl fg)), (g, .inr (1, [.int gp, .int gq, .int gh])), (o1, .inr (3, [.ref oa1, .ref ob1])), (oa1, .inl (cA 0, 40, .inl sa)), (ob1, .inl (cA 0, 40, .inl sb)), (o2, .inr (3, [.ref oa2, .ref ob2])), (oa2, .inl (cA 0, 40, .inl (upd (scat (nt mt) (shv gp 4 ff ff sa mt me) da k) (mt k).toNatClampNeg (tm gp (sa k) (pw gp 32 (nt me k) 1 4))))), (ob2, .inl (cA 0, 40, .inl (upd (scat (nt mt) (shv gp gh ff fg sb mt me) db k) (mt k).toNatClampNeg (tm gp (sb k) (pw gp 32 (nt me k) 1 gh)))))]) (wn_V (As := [.int (mt k), .int (tm gp (sa k) (pw gp 32 (nt me k) 1 4)), .int (tm gp (sb k) (pw gp 32 (nt me k) 1 gh))]) (rest := []) (ci := 3) (fs := [.ref oa2, .ref ob2]) ⟨hx, hb, hml, hown, hts⟩ (c_X4_put l D cA o2 oa2 ob2 (scat (nt mt) (shv gp 4 ff ff sa mt me) da k) (scat (nt mt) (shv gp gh ff fg sb mt me) db k) (mt k) (tm gp (sa k) (pw gp 32 (nt me k) 1 4)) (tm gp (sb k) (pw gp 32 (nt me k) 1 gh)) (nt mt k) (hmv k (lp_lt hz hn (by omega) h2 c_7)).1 (hmv k (lp_lt hz hn (by omega) h2 c_7)).2.1) rfl (cwV 3 hts gX5_shuffle_X4_put rfl rfl rfl (by decide +kernel) ⟨Nat.le_of_ble_eq_true rfl, Nat.le_of_ble_eq_true rfl⟩) hK hP hD [11, 12, 13] rfl (by decide) rfl rfl rfl hl.1 rfl (Nat.le_of_ble_eq_true rfl) dX5_shuffle_99 ⟨Nat.le_of_ble_eq_true rfl, Nat.le_of_ble_eq_true rfl⟩) hP hD hS [11, 12, 13] [0, 1, 2, 3, 4, 5, 6, 7, 8, 9, 10] rfl rfl (wr := [(sg, .inr (4, [.ref mo, .ref fo])), (mo, .inr (2, [.ref ma, .ref mb])), (ma, .inl (cA 0, 40, .inl mt)), (mb, .inl (cA 0, 40, .inl me)), (fo, .inr (3, [.ref fa, .ref fb])), (fa, .inl (cA 0, 40, .inl ff)), (fb, .inl (cA 0, 40, .inl fg)), (g, .inr (1, [.int gp, .int gq, .int gh])), (o1, .inr (3, [.ref oa1, .ref ob1])), (oa1, .inl (cA 0, 40, .inl sa)), (ob1, .inl (cA 0, 40, .inl sb))]) rfl rfl (ads := [sg, mo, ma, mb, fo, fa, fb, g, o1, oa1, ob1, o2, oa2, ob2]) rfl rfl (adc := [o2, oa2, ob2]) rfl rfl rfl (fun H locs hP hD hS => ?_)
          refine lv_iinc (v := (z + 1)) (lv' := [(5, .int (z + 1)), (7, .int (mt k)), (6, .int (me k)), (0, .ref sg), (1, .ref g), (2, .ref o1), (3, .ref o2), (4, .int n)]) hx hb dX5_shuffle_102 hl (k := 7) rfl rfl (by decide) rfl (fun ls hl => ?_)
          refine lv_goto (tgt := 3) hx hb dX5_shuffle_105 (by decide) ?_
          have e9 : (upd (scat (nt mt) (shv gp 4 ff ff sa mt me) da k) (mt k).toNatClampNeg (tm gp (sa k) (pw gp 32 (nt me k) 1 4))) = (scat (nt mt) (shv gp 4 ff ff sa mt me) da (k + 1)) := scat_s rfl (by rw [shv, if_pos c_42])
          have hP := va_P.arr (g' := (scat (nt mt) (shv gp 4 ff ff sa mt me) da (k + 1))) hP 12 rfl (fun j _ => congrFun e9 j)
          have hD := va_D.arr (g' := (scat (nt mt) (shv gp 4 ff ff sa mt me) da (k + 1))) hD 12 rfl
          clear e9
          have e9 : (upd (scat (nt mt) (shv gp gh ff fg sb mt me) db k) (mt k).toNatClampNeg (tm gp (sb k) (pw gp 32 (nt me k) 1 gh))) = (scat (nt mt) (shv gp gh ff fg sb mt me) db (k + 1)) := scat_s rfl (by rw [shv, if_pos c_42])
          have hP := va_P.arr (g' := (scat (nt mt) (shv gp gh ff fg sb mt me) db (k + 1))) hP 13 rfl (fun j _ => congrFun e9 j)
          have hD := va_D.arr (g' := (scat (nt mt) (shv gp gh ff fg sb mt me) db (k + 1))) hD 13 rfl
          clear e9
          have hP : va_P D vwCl [(sg, .inr (4, [.ref mo, .ref fo])), (mo, .inr (2, [.ref ma, .ref mb])), (ma, .inl (cA 0, 40, .inl mt)), (mb, .inl (cA 0, 40, .inl me)), (fo, .inr (3, [.ref fa, .ref fb])), (fa, .inl (cA 0, 40, .inl ff)), (fb, .inl (cA 0, 40, .inl fg)), (g, .inr (1, [.int gp, .int gq, .int gh])), (o1, .inr (3, [.ref oa1, .ref ob1])), (oa1, .inl (cA 0, 40, .inl sa)), (ob1, .inl (cA 0, 40, .inl sb)), (o2, .inr (3, [.ref oa2, .ref ob2])), (oa2, .inl (cA 0, 40, .inl (scat (nt mt) (shv gp 4 ff ff sa mt me) da (k + 1)))), (ob2, .inl (cA 0, 40, .inl (scat (nt mt) (shv gp gh ff fg sb mt me) db (k + 1))))] H := hP
          have hD : va_D A [(sg, .inr (4, [.ref mo, .ref fo])), (mo, .inr (2, [.ref ma, .ref mb])), (ma, .inl (cA 0, 40, .inl mt)), (mb, .inl (cA 0, 40, .inl me)), (fo, .inr (3, [.ref fa, .ref fb])), (fa, .inl (cA 0, 40, .inl ff)), (fb, .inl (cA 0, 40, .inl fg)), (g, .inr (1, [.int gp, .int gq, .int gh])), (o1, .inr (3, [.ref oa1, .ref ob1])), (oa1, .inl (cA 0, 40, .inl sa)), (ob1, .inl (cA 0, 40, .inl sb)), (o2, .inr (3, [.ref oa2, .ref ob2])), (oa2, .inl (cA 0, 40, .inl (scat (nt mt) (shv gp 4 ff ff sa mt me) da (k + 1)))), (ob2, .inl (cA 0, 40, .inl (scat (nt mt) (shv gp gh ff fg sb mt me) db (k + 1))))] := hD
          have hk := lp_lt hz hn (by omega) h2 c_7
          exact ih (k + 1) (z + 1) (st_1 hz) (by omega) (by omega) _ _ hP hD hS ls (lv_sub hl [3, 4, 5, 6, 7, 0] rfl)
        · skip
          refine lv_aload_n hx hb dX5_shuffle_45 rfl (lv_at hl 5 rfl) ?_
          refine lv_iload hx hb dX5_shuffle_46 (lv_at hl 0 rfl) ?_
          refine lv_aload_n hx hb dX5_shuffle_48 rfl (lv_at hl 2 rfl) ?_
          refine va_get (D := D) (ci := 4) (v := .ref fo) (C := RX5) (T := TX5) (N := 2) hx hb hts hin_X5 hown hK hP 0 rfl rfl 1 (by decide) (w_RX5_21) (fun _ h9 => h9) rfl dX5_shuffle_49 ?_
          refine lv_iload hx hb dX5_shuffle_52 (lv_at hl 0 rfl) ?_
          refine rq_call1 (v := .int (g40 ff (mt k))) (rn_V (As := [.int (mt k)]) (rest := [.int (mt k), .ref o2]) (ci := 3) (fs := [.ref fa, .ref fb]) ⟨hx, hb, hml, hown, hts⟩ (c_X4_first l D cA fo fa fb ff fg (mt k)) rfl (cwV 1 hts gX5_shuffle_X4_first rfl rfl rfl (by decide +kernel) ⟨Nat.le_of_ble_eq_true rfl, Nat.le_of_ble_eq_true rfl⟩) hK hP [4, 5, 6] rfl rfl rfl hl.1 rfl (Nat.le_of_ble_eq_true rfl) dX5_shuffle_54 ⟨Nat.le_of_ble_eq_true rfl, Nat.le_of_ble_eq_true rfl⟩) ?_
          rw [g40_n (hmv k (lp_lt hz hn (by omega) h2 c_7)).1 (hmv k (lp_lt hz hn (by omega) h2 c_7)).2.1]
          refine lv_aload_n hx hb dX5_shuffle_57 rfl (lv_at hl 2 rfl) ?_
          refine va_get (D := D) (ci := 4) (v := .ref fo) (C := RX5) (T := TX5) (N := 2) hx hb hts hin_X5 hown hK hP 0 rfl rfl 1 (by decide) (w_RX5_21) (fun _ h9 => h9) rfl dX5_shuffle_58 ?_
          refine lv_iload hx hb dX5_shuffle_61 (lv_at hl 0 rfl) ?_
          refine rq_call1 (v := .int (g40 fg (mt k))) (rn_V (As := [.int (mt k)]) (rest := [.int (ff (nt mt k)), .int (mt k), .ref o2]) (ci := 3) (fs := [.ref fa, .ref fb]) ⟨hx, hb, hml, hown, hts⟩ (c_X4_second l D cA fo fa fb ff fg (mt k)) rfl (cwV 1 hts gX5_shuffle_X4_second rfl rfl rfl (by decide +kernel) ⟨Nat.le_of_ble_eq_true rfl, Nat.le_of_ble_eq_true rfl⟩) hK hP [4, 5, 6] rfl rfl rfl hl.1 rfl (Nat.le_of_ble_eq_true rfl) dX5_shuffle_63 ⟨Nat.le_of_ble_eq_true rfl, Nat.le_of_ble_eq_true rfl⟩) ?_
          rw [g40_n (hmv k (lp_lt hz hn (by omega) h2 c_7)).1 (hmv k (lp_lt hz hn (by omega) h2 c_7)).2.1]
          refine wl_call0 (wc := [(o2, .inr (3, [.ref oa2, .ref ob2])), (oa2, .inl (cA 0, 40, .inl (scat (nt mt) (shv gp 4 ff ff sa mt me) da k))), (ob2, .inl (cA 0, 40, .inl (scat (nt mt) (shv gp gh ff fg sb mt me) db k)))]) (w1 := [(o2, .inr (3, [.ref oa2, .ref ob2])), (oa2, .inl (cA 0, 40, .inl (upd (scat (nt mt) (shv gp 4 ff ff sa mt me) da k) (mt k).toNatClampNeg (ff (nt mt k))))), (ob2, .inl (cA 0, 40, .inl (upd (scat (nt mt) (shv gp gh ff fg sb mt me) db k) (mt k).toNatClampNeg (fg (nt mt k)))))]) (ws' := [(sg, .inr (4, [.ref mo, .ref fo])), (mo, .inr (2, [.ref ma, .ref mb])), (ma, .inl (cA 0, 40, .inl mt)), (mb, .inl (cA 0, 40, .inl me)), (fo, .inr (3, [.ref fa, .ref fb])), (fa, .inl (cA 0, 40, .inl ff)), (fb, .inl (cA 0, 40, .inl fg)), (g, .inr (1, [.int gp, .int gq, .int gh])), (o1, .inr (3, [.ref oa1, .ref ob1])), (oa1, .inl (cA 0, 40, .inl sa)), (ob1, .inl (cA 0, 40, .inl sb)), (o2, .inr (3, [.ref oa2, .ref ob2])), (oa2, .inl (cA 0, 40, .inl (upd (scat (nt mt) (shv gp 4 ff ff sa mt me) da k) (mt k).toNatClampNeg (ff (nt mt k))))), (ob2, .inl (cA 0, 40, .inl (upd (scat (nt mt) (shv gp gh ff fg sb mt me) db k) (mt k).toNatClampNeg (fg (nt mt k)))))]) (wn_V (As := [.int (mt k), .int (ff (nt mt k)), .int (fg (nt mt k))]) (rest := []) (ci := 3) (fs := [.ref oa2, .ref ob2]) ⟨hx, hb, hml, hown, hts⟩ (c_X4_put l D cA o2 oa2 ob2 (scat (nt mt) (shv gp 4 ff ff sa mt me) da k) (scat (nt mt) (shv gp gh ff fg sb mt me) db k) (mt k) (ff (nt mt k)) (fg (nt mt k)) (nt mt k) (hmv k (lp_lt hz hn (by omega) h2 c_7)).1 (hmv k (lp_lt hz hn (by omega) h2 c_7)).2.1) rfl (cwV 3 hts gX5_shuffle_X4_put rfl rfl rfl (by decide +kernel) ⟨Nat.le_of_ble_eq_true rfl, Nat.le_of_ble_eq_true rfl⟩) hK hP hD [11, 12, 13] rfl (by decide) rfl rfl rfl hl.1 rfl (Nat.le_of_ble_eq_true rfl) dX5_shuffle_66 ⟨Nat.le_of_ble_eq_true rfl, Nat.le_of_ble_eq_true rfl⟩) hP hD hS [11, 12, 13] [0, 1, 2, 3, 4, 5, 6, 7, 8, 9, 10] rfl rfl (wr := [(sg, .inr (4, [.ref mo, .ref fo])), (mo, .inr (2, [.ref ma, .ref mb])), (ma, .inl (cA 0, 40, .inl mt)), (mb, .inl (cA 0, 40, .inl me)), (fo, .inr (3, [.ref fa, .ref fb])), (fa, .inl (cA 0, 40, .inl ff)), (fb, .inl (cA 0, 40, .inl fg)), (g, .inr (1, [.int gp, .int gq, .int gh])), (o1, .inr (3, [.ref oa1, .ref ob1])), (oa1, .inl (cA 0, 40, .inl sa)), (ob1, .inl (cA 0, 40, .inl sb))]) rfl rfl (ads := [sg, mo, ma, mb, fo, fa, fb, g, o1, oa1, ob1, o2, oa2, ob2]) rfl rfl (adc := [o2, oa2, ob2]) rfl rfl rfl (fun H locs hP hD hS => ?_)
          refine lv_goto (tgt := 102) hx hb dX5_shuffle_69 (by decide) ?_
          refine lv_iinc (v := (z + 1)) (lv' := [(5, .int (z + 1)), (7, .int (mt k)), (6, .int (me k)), (0, .ref sg), (1, .ref g), (2, .ref o1), (3, .ref o2), (4, .int n)]) hx hb dX5_shuffle_102 hl (k := 7) rfl rfl (by decide) rfl (fun ls hl => ?_)
          refine lv_goto (tgt := 3) hx hb dX5_shuffle_105 (by decide) ?_
          have e9 : (upd (scat (nt mt) (shv gp 4 ff ff sa mt me) da k) (mt k).toNatClampNeg (ff (nt mt k))) = (scat (nt mt) (shv gp 4 ff ff sa mt me) da (k + 1)) := scat_s rfl (by rw [shv, if_neg c_42])
          have hP := va_P.arr (g' := (scat (nt mt) (shv gp 4 ff ff sa mt me) da (k + 1))) hP 12 rfl (fun j _ => congrFun e9 j)
          have hD := va_D.arr (g' := (scat (nt mt) (shv gp 4 ff ff sa mt me) da (k + 1))) hD 12 rfl
          clear e9
          have e9 : (upd (scat (nt mt) (shv gp gh ff fg sb mt me) db k) (mt k).toNatClampNeg (fg (nt mt k))) = (scat (nt mt) (shv gp gh ff fg sb mt me) db (k + 1)) := scat_s rfl (by rw [shv, if_neg c_42])
          have hP := va_P.arr (g' := (scat (nt mt) (shv gp gh ff fg sb mt me) db (k + 1))) hP 13 rfl (fun j _ => congrFun e9 j)
          have hD := va_D.arr (g' := (scat (nt mt) (shv gp gh ff fg sb mt me) db (k + 1))) hD 13 rfl
          clear e9
          have hP : va_P D vwCl [(sg, .inr (4, [.ref mo, .ref fo])), (mo, .inr (2, [.ref ma, .ref mb])), (ma, .inl (cA 0, 40, .inl mt)), (mb, .inl (cA 0, 40, .inl me)), (fo, .inr (3, [.ref fa, .ref fb])), (fa, .inl (cA 0, 40, .inl ff)), (fb, .inl (cA 0, 40, .inl fg)), (g, .inr (1, [.int gp, .int gq, .int gh])), (o1, .inr (3, [.ref oa1, .ref ob1])), (oa1, .inl (cA 0, 40, .inl sa)), (ob1, .inl (cA 0, 40, .inl sb)), (o2, .inr (3, [.ref oa2, .ref ob2])), (oa2, .inl (cA 0, 40, .inl (scat (nt mt) (shv gp 4 ff ff sa mt me) da (k + 1)))), (ob2, .inl (cA 0, 40, .inl (scat (nt mt) (shv gp gh ff fg sb mt me) db (k + 1))))] H := hP
          have hD : va_D A [(sg, .inr (4, [.ref mo, .ref fo])), (mo, .inr (2, [.ref ma, .ref mb])), (ma, .inl (cA 0, 40, .inl mt)), (mb, .inl (cA 0, 40, .inl me)), (fo, .inr (3, [.ref fa, .ref fb])), (fa, .inl (cA 0, 40, .inl ff)), (fb, .inl (cA 0, 40, .inl fg)), (g, .inr (1, [.int gp, .int gq, .int gh])), (o1, .inr (3, [.ref oa1, .ref ob1])), (oa1, .inl (cA 0, 40, .inl sa)), (ob1, .inl (cA 0, 40, .inl sb)), (o2, .inr (3, [.ref oa2, .ref ob2])), (oa2, .inl (cA 0, 40, .inl (scat (nt mt) (shv gp 4 ff ff sa mt me) da (k + 1)))), (ob2, .inl (cA 0, 40, .inl (scat (nt mt) (shv gp gh ff fg sb mt me) db (k + 1))))] := hD
          have hk := lp_lt hz hn (by omega) h2 c_7
          exact ih (k + 1) (z + 1) (st_1 hz) (by omega) (by omega) _ _ hP hD hS ls (lv_sub hl [3, 4, 5, 6, 7, 0] rfl)
  exact loop3 (n0 + 1) 0 0 rfl (by omega) (by omega) _ _ hP hD hS ls (lv_sub hl [1, 2, 3, 4, 5, 0] rfl)

set_option maxHeartbeats 4000000 in
set_option maxRecDepth 100000 in
theorem c_X0_field (l : Launch) (D : va_G) (cA : Nat → ClassId) (b : Nat) (ka : Nat) (xa : Nat) (ya : Nat) (za : Nat) (ca : Nat) (n : Int32) (i : Int32) (w : Int32) (kf : Nat → Int32) (xf : Nat → Int32) (yf : Nat → Int32) (zf : Nat → Int64) (n0 : Nat) (hn : n = nI n0) (h6 : n0 ≤ 600) : Met l yX0_field wsX0_field ({ frames := 1, cells := 0, slots := 0, locals := 21 }) (rPc vwCl D cA [(b, .inr (0, [.ref ka, .ref xa, .ref ya, .ref za, .ref ca, .int n])), (ka, .inl (cA 0, 600, .inl kf)), (xa, .inl (cA 0, 600, .inl xf)), (ya, .inl (cA 0, 600, .inl yf)), (za, .inl (cA 2, 600, .inr (.inl zf)))] [.ref b, .int i, .int w]) (rq_x (some (.long (fldv kf xf yf zf n i w)))) 0 0 (fun _ => False) := by
  refine Met.ofW (cc := cX0_field) (maxL := 3) (ret := (some .long)) (by decide) rfl ?_
  intro p e s m args below meth c s₁ B hml hv
  obtain ⟨rfl, hP, hK⟩ := hv
  have hx := B.exec
  have hb := B.bytes
  have hr := B.returns
  have hts := atoms_spec (ws := wsX0_field) B.pre
  have hown : s.vm.findClass RX0 = some m.cls := findClass_of_methodNamed B.named
  have hlocks := B.notSynchronized
  have hin_X0 : ∀ w ∈ wsX00, w ∈ wsX0_field := fun w h => List.mem_cons_of_mem _ (List.mem_append_right _ h)
  have w_RX0_9 := hts (.fieldLink RX0 9 "MixElection$Board" "kinds" "[I") (by decide +kernel)
  have w_RX0_15 := hts (.fieldLink RX0 15 "MixElection$Board" "xs" "[I") (by decide +kernel)
  have w_RX0_18 := hts (.fieldLink RX0 18 "MixElection$Board" "ys" "[I") (by decide +kernel)
  have w_RX0_21 := hts (.fieldLink RX0 21 "MixElection$Board" "zs" "[J") (by decide +kernel)
  have hl := lv_entry ([.ref b, .int i, .int w]) (n := 3) (Nat.le_of_ble_eq_true rfl)
  rw [lg_entry_eq]
  generalize (lg_sl ([.ref b, .int i, .int w]) ++ List.replicate (3 - (lg_sl ([.ref b, .int i, .int w])).length) Slot.unset).toArray = ls at hl ⊢
  have hl : lv_has ls 3 [(0, .ref b), (1, .int i), (2, .int w)] := hl
  refine lv_aload_n hx hb dX0_field_0 rfl (lv_at hl 0 rfl) ?_
  refine lv_iload_n hx hb dX0_field_1 rfl (lv_at hl 1 rfl) ?_
  refine rq_call1 (v := .int (bI (0 ≤ i ∧ i < n))) (rn_V (As := [.int i]) (rest := []) (ci := 0) (fs := [.ref ka, .ref xa, .ref ya, .ref za, .ref ca, .int n]) ⟨hx, hb, hml, hown, hts⟩ (c_X0_has l D cA b ka xa ya za ca n i) rfl (cwV 1 hts gX0_field_X0_has rfl rfl rfl (by decide +kernel) ⟨Nat.le_of_ble_eq_true rfl, Nat.le_of_ble_eq_true rfl⟩) hK hP [0] rfl rfl rfl hl.1 rfl (Nat.le_of_ble_eq_true rfl) dX0_field_2 ⟨Nat.le_of_ble_eq_true rfl, Nat.le_of_ble_eq_true rfl⟩) ?_
  refine lv_if_ne (tgt := 10) hx hb dX0_field_5 (by decide) (fun c_5 => ?_) (fun c_5 => ?_)
  · skip
    refine lv_iload_n hx hb dX0_field_10 rfl (lv_at hl 2 rfl) ?_
    rcases sw_4 w with rfl | rfl | rfl | rfl | hsw
    · refine lv_tableIn (off := 29) (tgt := 40) hx hb dX0_field_11 (by decide) (by decide) (by decide) (by decide) ?_
      refine lv_aload_n hx hb dX0_field_40 rfl (lv_at hl 0 rfl) ?_
      refine va_get (D := D) (ci := 0) (v := .ref ka) (C := RX0) (T := TX0) (N := 6) hx hb hts hin_X0 hown hK hP 0 rfl rfl 0 (by decide) (w_RX0_9) (fun _ h9 => h9) rfl dX0_field_41 ?_
      refine lv_iload_n hx hb dX0_field_44 rfl (lv_at hl 1 rfl) ?_
      refine va_iald hx hb hK hP 1 0 rfl rfl (ix_in (bI_1 c_5) hn h6) dX0_field_45 ?_
      refine lv_i2l hx hb dX0_field_46 rfl ?_
      exact W.lret (v := (kf i.toNatClampNeg).toInt64) hx hb hr (fun t ht hW => ⟨congrArg (fun z => Outcome.returned (some (Value.long z))) ((by rw [fldv, if_pos (bI_1 c_5)]; rfl)), ht⟩) (fun _ h => by cases h) dX0_field_47
    · refine lv_tableIn (off := 37) (tgt := 48) hx hb dX0_field_11 (by decide) (by decide) (by decide) (by decide) ?_
      refine lv_aload_n hx hb dX0_field_48 rfl (lv_at hl 0 rfl) ?_
      refine va_get (D := D) (ci := 0) (v := .ref xa) (C := RX0) (T := TX0) (N := 6) hx hb hts hin_X0 hown hK hP 0 rfl rfl 1 (by decide) (w_RX0_15) (fun _ h9 => h9) rfl dX0_field_49 ?_
      refine lv_iload_n hx hb dX0_field_52 rfl (lv_at hl 1 rfl) ?_
      refine va_iald hx hb hK hP 2 0 rfl rfl (ix_in (bI_1 c_5) hn h6) dX0_field_53 ?_
      refine lv_i2l hx hb dX0_field_54 rfl ?_
      exact W.lret (v := (xf i.toNatClampNeg).toInt64) hx hb hr (fun t ht hW => ⟨congrArg (fun z => Outcome.returned (some (Value.long z))) ((by rw [fldv, if_pos (bI_1 c_5)]; rfl)), ht⟩) (fun _ h => by cases h) dX0_field_55
    · refine lv_tableIn (off := 45) (tgt := 56) hx hb dX0_field_11 (by decide) (by decide) (by decide) (by decide) ?_
      refine lv_aload_n hx hb dX0_field_56 rfl (lv_at hl 0 rfl) ?_
      refine va_get (D := D) (ci := 0) (v := .ref ya) (C := RX0) (T := TX0) (N := 6) hx hb hts hin_X0 hown hK hP 0 rfl rfl 2 (by decide) (w_RX0_18) (fun _ h9 => h9) rfl dX0_field_57 ?_
      refine lv_iload_n hx hb dX0_field_60 rfl (lv_at hl 1 rfl) ?_
      refine va_iald hx hb hK hP 3 0 rfl rfl (ix_in (bI_1 c_5) hn h6) dX0_field_61 ?_
      refine lv_i2l hx hb dX0_field_62 rfl ?_
      exact W.lret (v := (yf i.toNatClampNeg).toInt64) hx hb hr (fun t ht hW => ⟨congrArg (fun z => Outcome.returned (some (Value.long z))) ((by rw [fldv, if_pos (bI_1 c_5)]; rfl)), ht⟩) (fun _ h => by cases h) dX0_field_63
    · refine lv_tableIn (off := 53) (tgt := 64) hx hb dX0_field_11 (by decide) (by decide) (by decide) (by decide) ?_
      refine lv_aload_n hx hb dX0_field_64 rfl (lv_at hl 0 rfl) ?_
      refine va_get (D := D) (ci := 0) (v := .ref za) (C := RX0) (T := TX0) (N := 6) hx hb hts hin_X0 hown hK hP 0 rfl rfl 3 (by decide) (w_RX0_21) (fun _ h9 => h9) rfl dX0_field_65 ?_
      refine lv_iload_n hx hb dX0_field_68 rfl (lv_at hl 1 rfl) ?_
      refine va_lald hx hb hK hP 4 2 rfl rfl (ix_in (bI_1 c_5) hn h6) dX0_field_69 ?_
      exact W.lret (v := (zf i.toNatClampNeg)) hx hb hr (fun t ht hW => ⟨congrArg (fun z => Outcome.returned (some (Value.long z))) ((by rw [fldv, if_pos (bI_1 c_5)]; rfl)), ht⟩) (fun _ h => by cases h) dX0_field_70
    · refine lv_tableOut (tgt := 71) hx hb dX0_field_11 hsw (by decide) ?_
      refine lv_lconst (v := 0) hx hb dX0_field_71 (by decide) ?_
      exact W.lret (v := 0) hx hb hr (fun t ht hW => ⟨congrArg (fun z => Outcome.returned (some (Value.long z))) ((by rw [fldv, if_pos (bI_1 c_5)]; exact (fl_out hsw).symm)), ht⟩) (fun _ h => by cases h) dX0_field_72
  · skip
    refine lv_lconst (v := 0) hx hb dX0_field_8 (by decide) ?_
    exact W.lret (v := 0) hx hb hr (fun t ht hW => ⟨congrArg (fun z => Outcome.returned (some (Value.long z))) ((by rw [fldv, if_neg (bI_0 c_5)])), ht⟩) (fun _ h => by cases h) dX0_field_9

set_option maxHeartbeats 4000000 in
set_option maxRecDepth 100000 in
theorem c_X7_listOf (l : Launch) (D : va_G) (cA : Nat → ClassId) (h0 : Nat) (x0 : Nat) (x1 : Nat) (x2 : Nat) (x3 : Int32) (x4 : Nat) (x5 : Nat) (x6 : Nat) (x7 : Nat) (x8 : Nat) (x9 : Nat) (x10 : Nat) (x11 : Nat) (x12 : Int32) (x13 : Int32) (x14 : Int32) (x15 : Int32) (x16 : Int32) (x17 : Int32) (x18 : Int32) (x19 : Int32) (la : Nat → Nat) (i : Int32) (m0 : Nat) (hi : i = nI m0) (hm5 : m0 < 5) : Met l yX7_listOf wsX7_listOf ({ frames := 0, cells := 0, slots := 0, locals := 0 }) (rPc vwCl D cA [(h0, .inr (6, [.ref x0, .ref x1, .ref x2, .int x3, .ref x4, .ref x5, .ref x6, .ref x7, .ref x8, .ref x9, .ref x10, .ref x11, .int x12, .int x13, .int x14, .int x15, .int x16, .int x17, .int x18, .int x19])), (x5, .inl (cA 3, 5, .inr (.inr (.inr (.inr (fun k => some (la k)))))))] [.ref h0, .int i]) (rq_x (some (.ref (la m0)))) 0 0 (fun _ => False) := by
  refine Met.ofW (cc := cX7_listOf) (maxL := 2) (ret := (some (.object "MixElection$Pairs"))) (by decide) rfl ?_
  intro p e s m args below meth c s₁ B hml hv
  obtain ⟨rfl, hP, hK⟩ := hv
  have hx := B.exec
  have hb := B.bytes
  have hr := B.returns
  have hts := atoms_spec (ws := wsX7_listOf) B.pre
  have hown : s.vm.findClass RX7 = some m.cls := findClass_of_methodNamed B.named
  have hlocks := B.notSynchronized
  have hin_X7 : ∀ w ∈ wsX70, w ∈ wsX7_listOf := fun w h => List.mem_cons_of_mem _ (List.mem_append_right _ h)
  have w_RX7_66 := hts (.fieldLink RX7 66 "MixElection" "lists" "[LMixElection$Pairs;") (by decide +kernel)
  have hl := lv_entry ([.ref h0, .int i]) (n := 2) (Nat.le_of_ble_eq_true rfl)
  rw [lg_entry_eq]
  generalize (lg_sl ([.ref h0, .int i]) ++ List.replicate (2 - (lg_sl ([.ref h0, .int i])).length) Slot.unset).toArray = ls at hl ⊢
  have hl : lv_has ls 2 [(0, .ref h0), (1, .int i)] := hl
  refine lv_iload_n hx hb dX7_listOf_0 rfl (lv_at hl 1 rfl) ?_
  refine lv_if_lt (tgt := 22) hx hb dX7_listOf_1 (by decide) (fun c_1 => ?_) (fun c_1 => ?_)
  · exact absurd c_1 (by rw [hi]; exact nI_pos (by omega))
  · skip
    refine lv_iload_n hx hb dX7_listOf_4 rfl (lv_at hl 1 rfl) ?_
    refine lv_aload_n hx hb dX7_listOf_5 rfl (lv_at hl 0 rfl) ?_
    refine va_get (D := D) (ci := 6) (v := .ref x5) (C := RX7) (T := TX7) (N := 20) hx hb hts hin_X7 hown hK hP 0 rfl rfl 5 (by decide) (w_RX7_66) (fun _ h9 => h9) rfl dX7_listOf_6 ?_
    refine va_alen (v := 5) hx hb hK hP 1 3 rfl rfl rfl dX7_listOf_9 ?_
    refine lv_icmp_ge (tgt := 22) hx hb dX7_listOf_10 (by decide) (fun c_10 => ?_) (fun c_10 => ?_)
    · exact absurd c_10 (by rw [hi]; exact nI_ge (b := 5) hm5 (by omega))
    · skip
      refine lv_aload_n hx hb dX7_listOf_13 rfl (lv_at hl 0 rfl) ?_
      refine va_get (D := D) (ci := 6) (v := .ref x5) (C := RX7) (T := TX7) (N := 20) hx hb hts hin_X7 hown hK hP 0 rfl rfl 5 (by decide) (w_RX7_66) (fun _ h9 => h9) rfl dX7_listOf_14 ?_
      refine lv_iload_n hx hb dX7_listOf_17 rfl (lv_at hl 1 rfl) ?_
      refine va_aldr (v := (la m0)) hx hb hK hP 1 3 rfl rfl (by rw [hi]; exact vp_in_nI hm5 (by omega)) (by rw [hi, nI_clamp (by omega)]) dX7_listOf_18 ?_
      refine lv_goto (tgt := 28) hx hb dX7_listOf_19 (by decide) ?_
      exact W.aret (v := .ref (la m0)) hx hb hr (Or.inl ⟨_, rfl⟩) (Or.inr ⟨_, rfl⟩) (fun t ht hW => ⟨congrArg (fun z => Outcome.returned (some (Value.ref z))) (rfl), ht⟩) (fun _ h => by cases h) dX7_listOf_28
