set_option maxRecDepth 20000 in
theorem ggX6_give_X6_mayGive : GoodIn wsX6_give wsX6_mayGive := goodIn_r _ [9, 3, 10, 11, 12, 8, 13, 14, 49, 50, 51, 52, 53, 54, 55, 56] (by decide +kernel) (by decide +kernel)
set_option maxRecDepth 20000 in
theorem gX6_give_X6_mayGive : GoodIn wsX6_give (wsV RX6 66 RX6 yX6_mayGive wsX6_mayGive) := goodIn_app (goodIn_of _ (by decide +kernel)) ggX6_give_X6_mayGive
set_option maxRecDepth 20000 in
theorem ggX6_give_X6_shareOf : GoodIn wsX6_give wsX6_shareOf := goodIn_r _ [18, 19, 2, 20, 21, 22, 23, 24, 25, 26, 27, 28, 29, 30, 31, 32, 33, 49, 50, 51, 52, 53, 54, 55, 56, 57, 58, 59] (by decide +kernel) (by decide +kernel)
set_option maxRecDepth 20000 in
theorem gX6_give_X6_shareOf : GoodIn wsX6_give (wsV RX6 69 RX6 yX6_shareOf wsX6_shareOf) := goodIn_app (goodIn_of _ (by decide +kernel)) ggX6_give_X6_shareOf
set_option maxRecDepth 20000 in
theorem ggX6_give_X4_first : GoodIn wsX6_give wsX4_first := goodIn_r _ [38, 39, 60, 61] (by decide +kernel) (by decide +kernel)
set_option maxRecDepth 20000 in
theorem gX6_give_X4_first : GoodIn wsX6_give (wsV RX6 73 RX4 yX4_first wsX4_first) := goodIn_app (goodIn_of _ (by decide +kernel)) ggX6_give_X4_first
set_option maxRecDepth 20000 in
theorem ggX6_give_X1_raised : GoodIn wsX6_give wsX1_raised := goodIn_r _ [43, 44, 45, 46, 29, 47, 48, 28, 30, 57, 58, 59] (by decide +kernel) (by decide +kernel)
set_option maxRecDepth 20000 in
theorem gX6_give_X1_raised : GoodIn wsX6_give (wsV RX6 78 RX1 yX1_raised wsX1_raised) := goodIn_app (goodIn_of _ (by decide +kernel)) ggX6_give_X1_raised
theorem dX6_give_0 : decode cX6_give 0 = .ok (.aload_n 0, 1) := by decide +kernel
theorem dX6_give_1 : decode cX6_give 1 = .ok (.iload_n 1, 1) := by decide +kernel
theorem dX6_give_2 : decode cX6_give 2 = .ok (.invokevirtual 66, 3) := by decide +kernel
theorem dX6_give_5 : decode cX6_give 5 = .ok (.ifCond .eq 9, 3) := by decide +kernel
theorem dX6_give_8 : decode cX6_give 8 = .ok (.iload_n 3, 1) := by decide +kernel
theorem dX6_give_9 : decode cX6_give 9 = .ok (.bipush 40, 2) := by decide +kernel
theorem dX6_give_11 : decode cX6_give 11 = .ok (.if_icmp .le 4, 3) := by decide +kernel
theorem dX6_give_15 : decode cX6_give 15 = .ok (.aload_n 0, 1) := by decide +kernel
theorem dX6_give_16 : decode cX6_give 16 = .ok (.iload_n 1, 1) := by decide +kernel
theorem dX6_give_17 : decode cX6_give 17 = .ok (.invokevirtual 69, 3) := by decide +kernel
theorem dX6_give_20 : decode cX6_give 20 = .ok (.istore 4, 2) := by decide +kernel
theorem dX6_give_22 : decode cX6_give 22 = .ok (.iconst 0, 1) := by decide +kernel
theorem dX6_give_23 : decode cX6_give 23 = .ok (.istore 5, 2) := by decide +kernel
theorem dX6_give_25 : decode cX6_give 25 = .ok (.iload 5, 2) := by decide +kernel
theorem dX6_give_27 : decode cX6_give 27 = .ok (.iload_n 3, 1) := by decide +kernel
theorem dX6_give_28 : decode cX6_give 28 = .ok (.if_icmp .ge 33, 3) := by decide +kernel
theorem dX6_give_31 : decode cX6_give 31 = .ok (.aload_n 0, 1) := by decide +kernel
theorem dX6_give_32 : decode cX6_give 32 = .ok (.getfield 50, 3) := by decide +kernel
theorem dX6_give_35 : decode cX6_give 35 = .ok (.iload_n 1, 1) := by decide +kernel
theorem dX6_give_36 : decode cX6_give 36 = .ok (.aaload, 1) := by decide +kernel
theorem dX6_give_37 : decode cX6_give 37 = .ok (.iload 5, 2) := by decide +kernel
theorem dX6_give_39 : decode cX6_give 39 = .ok (.aload_n 0, 1) := by decide +kernel
theorem dX6_give_40 : decode cX6_give 40 = .ok (.getfield 9, 3) := by decide +kernel
theorem dX6_give_43 : decode cX6_give 43 = .ok (.aload_n 2, 1) := by decide +kernel
theorem dX6_give_44 : decode cX6_give 44 = .ok (.iload 5, 2) := by decide +kernel
theorem dX6_give_46 : decode cX6_give 46 = .ok (.invokevirtual 73, 3) := by decide +kernel
theorem dX6_give_49 : decode cX6_give 49 = .ok (.iload 4, 2) := by decide +kernel
theorem dX6_give_51 : decode cX6_give 51 = .ok (.invokevirtual 78, 3) := by decide +kernel
theorem dX6_give_54 : decode cX6_give 54 = .ok (.iastore, 1) := by decide +kernel
theorem dX6_give_55 : decode cX6_give 55 = .ok (.iinc 5 1, 3) := by decide +kernel
theorem dX6_give_58 : decode cX6_give 58 = .ok (.goto (-33), 3) := by decide +kernel
theorem dX6_give_61 : decode cX6_give 61 = .ok (.aload_n 0, 1) := by decide +kernel
theorem dX6_give_62 : decode cX6_give 62 = .ok (.getfield 44, 3) := by decide +kernel
theorem dX6_give_65 : decode cX6_give 65 = .ok (.iload_n 1, 1) := by decide +kernel
theorem dX6_give_66 : decode cX6_give 66 = .ok (.iconst 1, 1) := by decide +kernel
theorem dX6_give_67 : decode cX6_give 67 = .ok (.bastore, 1) := by decide +kernel
theorem dX6_give_68 : decode cX6_give 68 = .ok (.aload_n 0, 1) := by decide +kernel
theorem dX6_give_69 : decode cX6_give 69 = .ok (.dup, 1) := by decide +kernel
theorem dX6_give_70 : decode cX6_give 70 = .ok (.getfield 56, 3) := by decide +kernel
theorem dX6_give_73 : decode cX6_give 73 = .ok (.iconst 1, 1) := by decide +kernel
theorem dX6_give_74 : decode cX6_give 74 = .ok (.iadd, 1) := by decide +kernel
theorem dX6_give_75 : decode cX6_give 75 = .ok (.putfield 56, 3) := by decide +kernel
theorem dX6_give_78 : decode cX6_give 78 = .ok (.return_, 1) := by decide +kernel
set_option maxRecDepth 20000 in
theorem ggX6_shareOf_X1_order : GoodIn wsX6_shareOf wsX1_order := goodIn_r _ [8, 9, 25, 26, 27] (by decide +kernel) (by decide +kernel)
set_option maxRecDepth 20000 in
theorem gX6_shareOf_X1_order : GoodIn wsX6_shareOf (wsV RX6 15 RX1 yX1_order wsX1_order) := goodIn_app (goodIn_of _ (by decide +kernel)) ggX6_shareOf_X1_order
set_option maxRecDepth 20000 in
theorem ggX6_shareOf_X3_times : GoodIn wsX6_shareOf wsX3_times := goodIn_r _ [13] (by decide +kernel) (by decide +kernel)
set_option maxRecDepth 20000 in
theorem gX6_shareOf_X3_times : GoodIn wsX6_shareOf (va_wsS RX6 81 yX3_times wsX3_times) := goodIn_app (goodIn_of _ (by decide +kernel)) ggX6_shareOf_X3_times
set_option maxRecDepth 20000 in
theorem ggX6_shareOf_X3_plus : GoodIn wsX6_shareOf wsX3_plus := goodIn_r _ [16] (by decide +kernel) (by decide +kernel)
set_option maxRecDepth 20000 in
theorem gX6_shareOf_X3_plus : GoodIn wsX6_shareOf (va_wsS RX6 84 yX3_plus wsX3_plus) := goodIn_app (goodIn_of _ (by decide +kernel)) ggX6_shareOf_X3_plus
theorem dX6_shareOf_0 : decode cX6_shareOf 0 = .ok (.iconst 0, 1) := by decide +kernel
theorem dX6_shareOf_1 : decode cX6_shareOf 1 = .ok (.istore_n 2, 1) := by decide +kernel
theorem dX6_shareOf_2 : decode cX6_shareOf 2 = .ok (.aload_n 0, 1) := by decide +kernel
theorem dX6_shareOf_3 : decode cX6_shareOf 3 = .ok (.getfield 37, 3) := by decide +kernel
theorem dX6_shareOf_6 : decode cX6_shareOf 6 = .ok (.iconst 1, 1) := by decide +kernel
theorem dX6_shareOf_7 : decode cX6_shareOf 7 = .ok (.isub, 1) := by decide +kernel
theorem dX6_shareOf_8 : decode cX6_shareOf 8 = .ok (.istore_n 3, 1) := by decide +kernel
theorem dX6_shareOf_9 : decode cX6_shareOf 9 = .ok (.iload_n 3, 1) := by decide +kernel
theorem dX6_shareOf_10 : decode cX6_shareOf 10 = .ok (.ifCond .lt 38, 3) := by decide +kernel
theorem dX6_shareOf_13 : decode cX6_shareOf 13 = .ok (.iload_n 2, 1) := by decide +kernel
theorem dX6_shareOf_14 : decode cX6_shareOf 14 = .ok (.iload_n 1, 1) := by decide +kernel
theorem dX6_shareOf_15 : decode cX6_shareOf 15 = .ok (.aload_n 0, 1) := by decide +kernel
theorem dX6_shareOf_16 : decode cX6_shareOf 16 = .ok (.getfield 9, 3) := by decide +kernel
theorem dX6_shareOf_19 : decode cX6_shareOf 19 = .ok (.invokevirtual 15, 3) := by decide +kernel
theorem dX6_shareOf_22 : decode cX6_shareOf 22 = .ok (.invokestatic 81, 3) := by decide +kernel
theorem dX6_shareOf_25 : decode cX6_shareOf 25 = .ok (.aload_n 0, 1) := by decide +kernel
theorem dX6_shareOf_26 : decode cX6_shareOf 26 = .ok (.getfield 40, 3) := by decide +kernel
theorem dX6_shareOf_29 : decode cX6_shareOf 29 = .ok (.iload_n 3, 1) := by decide +kernel
theorem dX6_shareOf_30 : decode cX6_shareOf 30 = .ok (.iaload, 1) := by decide +kernel
theorem dX6_shareOf_31 : decode cX6_shareOf 31 = .ok (.aload_n 0, 1) := by decide +kernel
theorem dX6_shareOf_32 : decode cX6_shareOf 32 = .ok (.getfield 9, 3) := by decide +kernel
theorem dX6_shareOf_35 : decode cX6_shareOf 35 = .ok (.invokevirtual 15, 3) := by decide +kernel
theorem dX6_shareOf_38 : decode cX6_shareOf 38 = .ok (.invokestatic 84, 3) := by decide +kernel
theorem dX6_shareOf_41 : decode cX6_shareOf 41 = .ok (.istore_n 2, 1) := by decide +kernel
theorem dX6_shareOf_42 : decode cX6_shareOf 42 = .ok (.iinc 3 (-1), 3) := by decide +kernel
theorem dX6_shareOf_45 : decode cX6_shareOf 45 = .ok (.goto (-36), 3) := by decide +kernel
theorem dX6_shareOf_48 : decode cX6_shareOf 48 = .ok (.iload_n 2, 1) := by decide +kernel
theorem dX6_shareOf_49 : decode cX6_shareOf 49 = .ok (.ireturn, 1) := by decide +kernel
set_option maxRecDepth 20000 in
theorem ggX6_gift_X6_gave : GoodIn wsX6_gift wsX6_gave := goodIn_r _ [6, 7, 8, 9, 10, 5, 11, 12, 13, 14, 15, 16, 17, 18, 19, 20] (by decide +kernel) (by decide +kernel)
set_option maxRecDepth 20000 in
theorem gX6_gift_X6_gave : GoodIn wsX6_gift (wsV RX6 87 RX6 yX6_gave wsX6_gave) := goodIn_app (goodIn_of _ (by decide +kernel)) ggX6_gift_X6_gave
theorem dX6_gift_0 : decode cX6_gift 0 = .ok (.aload_n 0, 1) := by decide +kernel
theorem dX6_gift_1 : decode cX6_gift 1 = .ok (.iload_n 1, 1) := by decide +kernel
theorem dX6_gift_2 : decode cX6_gift 2 = .ok (.invokevirtual 87, 3) := by decide +kernel
theorem dX6_gift_5 : decode cX6_gift 5 = .ok (.ifCond .eq 24, 3) := by decide +kernel
theorem dX6_gift_8 : decode cX6_gift 8 = .ok (.iload_n 2, 1) := by decide +kernel
theorem dX6_gift_9 : decode cX6_gift 9 = .ok (.ifCond .lt 20, 3) := by decide +kernel
theorem dX6_gift_12 : decode cX6_gift 12 = .ok (.iload_n 2, 1) := by decide +kernel
theorem dX6_gift_13 : decode cX6_gift 13 = .ok (.bipush 40, 2) := by decide +kernel
theorem dX6_gift_15 : decode cX6_gift 15 = .ok (.if_icmp .ge 14, 3) := by decide +kernel
theorem dX6_gift_18 : decode cX6_gift 18 = .ok (.aload_n 0, 1) := by decide +kernel
theorem dX6_gift_19 : decode cX6_gift 19 = .ok (.getfield 50, 3) := by decide +kernel
theorem dX6_gift_22 : decode cX6_gift 22 = .ok (.iload_n 1, 1) := by decide +kernel
theorem dX6_gift_23 : decode cX6_gift 23 = .ok (.aaload, 1) := by decide +kernel
theorem dX6_gift_24 : decode cX6_gift 24 = .ok (.iload_n 2, 1) := by decide +kernel
theorem dX6_gift_25 : decode cX6_gift 25 = .ok (.iaload, 1) := by decide +kernel
theorem dX6_gift_26 : decode cX6_gift 26 = .ok (.goto 4, 3) := by decide +kernel
theorem dX6_gift_29 : decode cX6_gift 29 = .ok (.iconst (-1), 1) := by decide +kernel
theorem dX6_gift_30 : decode cX6_gift 30 = .ok (.ireturn, 1) := by decide +kernel
set_option maxRecDepth 20000 in
theorem ggX6_digest_X6_gift : GoodIn wsX6_digest wsX6_gift := goodIn_r _ [5, 6, 7, 8, 9, 4, 10, 11, 12, 13, 14, 15, 16, 22, 23, 24, 25, 26, 27, 28, 29] (by decide +kernel) (by decide +kernel)
set_option maxRecDepth 20000 in
theorem gX6_digest_X6_gift : GoodIn wsX6_digest (wsV RX6 90 RX6 yX6_gift wsX6_gift) := goodIn_app (goodIn_of _ (by decide +kernel)) ggX6_digest_X6_gift
set_option maxRecDepth 20000 in
theorem ggX6_digest_X3_digested : GoodIn wsX6_digest wsX3_digested := goodIn_r _ [20, 21] (by decide +kernel) (by decide +kernel)
set_option maxRecDepth 20000 in
theorem gX6_digest_X3_digested : GoodIn wsX6_digest (va_wsS RX6 93 yX3_digested wsX3_digested) := goodIn_app (goodIn_of _ (by decide +kernel)) ggX6_digest_X3_digested
theorem dX6_digest_0 : decode cX6_digest 0 = .ok (.lconst 0, 1) := by decide +kernel
theorem dX6_digest_1 : decode cX6_digest 1 = .ok (.lstore_n 3, 1) := by decide +kernel
theorem dX6_digest_2 : decode cX6_digest 2 = .ok (.iconst 0, 1) := by decide +kernel
theorem dX6_digest_3 : decode cX6_digest 3 = .ok (.istore 5, 2) := by decide +kernel
theorem dX6_digest_5 : decode cX6_digest 5 = .ok (.iload 5, 2) := by decide +kernel
theorem dX6_digest_7 : decode cX6_digest 7 = .ok (.iload_n 2, 1) := by decide +kernel
theorem dX6_digest_8 : decode cX6_digest 8 = .ok (.if_icmp .ge 22, 3) := by decide +kernel
theorem dX6_digest_11 : decode cX6_digest 11 = .ok (.lload_n 3, 1) := by decide +kernel
theorem dX6_digest_12 : decode cX6_digest 12 = .ok (.aload_n 0, 1) := by decide +kernel
theorem dX6_digest_13 : decode cX6_digest 13 = .ok (.iload_n 1, 1) := by decide +kernel
theorem dX6_digest_14 : decode cX6_digest 14 = .ok (.iload 5, 2) := by decide +kernel
theorem dX6_digest_16 : decode cX6_digest 16 = .ok (.invokevirtual 90, 3) := by decide +kernel
theorem dX6_digest_19 : decode cX6_digest 19 = .ok (.i2l, 1) := by decide +kernel
theorem dX6_digest_20 : decode cX6_digest 20 = .ok (.invokestatic 93, 3) := by decide +kernel
theorem dX6_digest_23 : decode cX6_digest 23 = .ok (.lstore_n 3, 1) := by decide +kernel
theorem dX6_digest_24 : decode cX6_digest 24 = .ok (.iinc 5 1, 3) := by decide +kernel
theorem dX6_digest_27 : decode cX6_digest 27 = .ok (.goto (-22), 3) := by decide +kernel
theorem dX6_digest_30 : decode cX6_digest 30 = .ok (.lload_n 3, 1) := by decide +kernel
theorem dX6_digest_31 : decode cX6_digest 31 = .ok (.lreturn, 1) := by decide +kernel
set_option maxRecDepth 20000 in
theorem ggX6_weighFirstGivers_X6_lastNeededGiver : GoodIn wsX6_weighFirstGivers wsX6_lastNeededGiver := goodIn_r _ [7, 1, 8, 9, 10, 11, 6, 12, 13, 14, 15, 16, 17, 43, 44, 45, 46, 47, 48, 49, 50] (by decide +kernel) (by decide +kernel)
set_option maxRecDepth 20000 in
theorem gX6_weighFirstGivers_X6_lastNeededGiver : GoodIn wsX6_weighFirstGivers (wsV RX6 97 RX6 yX6_lastNeededGiver wsX6_lastNeededGiver) := goodIn_app (goodIn_of _ (by decide +kernel)) ggX6_weighFirstGivers_X6_lastNeededGiver
set_option maxRecDepth 20000 in
theorem ggX6_weighFirstGivers_X6_gave : GoodIn wsX6_weighFirstGivers wsX6_gave := goodIn_r _ [12, 13, 14, 15, 16, 6, 17, 1, 43, 44, 45, 46, 47, 48, 49, 50] (by decide +kernel) (by decide +kernel)
set_option maxRecDepth 20000 in
theorem gX6_weighFirstGivers_X6_gave : GoodIn wsX6_weighFirstGivers (wsV RX6 87 RX6 yX6_gave wsX6_gave) := goodIn_app (goodIn_of _ (by decide +kernel)) ggX6_weighFirstGivers_X6_gave
set_option maxRecDepth 20000 in
theorem ggX6_weighFirstGivers_X6_weightOf : GoodIn wsX6_weighFirstGivers wsX6_weightOf := goodIn_r _ [21, 22, 23, 24, 25, 26, 27, 28, 9, 10, 11, 6, 12, 13, 14, 15, 16, 17, 1, 29, 30, 31, 32, 33, 34, 35, 36, 37, 38, 39, 40, 41, 42, 43, 44, 45, 46, 47, 48, 49, 50, 51, 52, 53] (by decide +kernel) (by decide +kernel)
set_option maxRecDepth 20000 in
theorem gX6_weighFirstGivers_X6_weightOf : GoodIn wsX6_weighFirstGivers (wsV RX6 100 RX6 yX6_weightOf wsX6_weightOf) := goodIn_app (goodIn_of _ (by decide +kernel)) ggX6_weighFirstGivers_X6_weightOf
theorem dX6_weighFirstGivers_0 : decode cX6_weighFirstGivers 0 = .ok (.aload_n 0, 1) := by decide +kernel
theorem dX6_weighFirstGivers_1 : decode cX6_weighFirstGivers 1 = .ok (.invokevirtual 97, 3) := by decide +kernel
theorem dX6_weighFirstGivers_4 : decode cX6_weighFirstGivers 4 = .ok (.istore_n 1, 1) := by decide +kernel
theorem dX6_weighFirstGivers_5 : decode cX6_weighFirstGivers 5 = .ok (.iconst 1, 1) := by decide +kernel
theorem dX6_weighFirstGivers_6 : decode cX6_weighFirstGivers 6 = .ok (.istore_n 2, 1) := by decide +kernel
theorem dX6_weighFirstGivers_7 : decode cX6_weighFirstGivers 7 = .ok (.iload_n 2, 1) := by decide +kernel
theorem dX6_weighFirstGivers_8 : decode cX6_weighFirstGivers 8 = .ok (.aload_n 0, 1) := by decide +kernel
theorem dX6_weighFirstGivers_9 : decode cX6_weighFirstGivers 9 = .ok (.getfield 33, 3) := by decide +kernel
theorem dX6_weighFirstGivers_12 : decode cX6_weighFirstGivers 12 = .ok (.if_icmp .gt 38, 3) := by decide +kernel
theorem dX6_weighFirstGivers_15 : decode cX6_weighFirstGivers 15 = .ok (.aload_n 0, 1) := by decide +kernel
theorem dX6_weighFirstGivers_16 : decode cX6_weighFirstGivers 16 = .ok (.getfield 53, 3) := by decide +kernel
theorem dX6_weighFirstGivers_19 : decode cX6_weighFirstGivers 19 = .ok (.iload_n 2, 1) := by decide +kernel
theorem dX6_weighFirstGivers_20 : decode cX6_weighFirstGivers 20 = .ok (.iload_n 2, 1) := by decide +kernel
theorem dX6_weighFirstGivers_21 : decode cX6_weighFirstGivers 21 = .ok (.iload_n 1, 1) := by decide +kernel
theorem dX6_weighFirstGivers_22 : decode cX6_weighFirstGivers 22 = .ok (.if_icmp .gt 20, 3) := by decide +kernel
theorem dX6_weighFirstGivers_25 : decode cX6_weighFirstGivers 25 = .ok (.aload_n 0, 1) := by decide +kernel
theorem dX6_weighFirstGivers_26 : decode cX6_weighFirstGivers 26 = .ok (.iload_n 2, 1) := by decide +kernel
theorem dX6_weighFirstGivers_27 : decode cX6_weighFirstGivers 27 = .ok (.invokevirtual 87, 3) := by decide +kernel
theorem dX6_weighFirstGivers_30 : decode cX6_weighFirstGivers 30 = .ok (.ifCond .eq 12, 3) := by decide +kernel
theorem dX6_weighFirstGivers_33 : decode cX6_weighFirstGivers 33 = .ok (.aload_n 0, 1) := by decide +kernel
theorem dX6_weighFirstGivers_34 : decode cX6_weighFirstGivers 34 = .ok (.iload_n 2, 1) := by decide +kernel
theorem dX6_weighFirstGivers_35 : decode cX6_weighFirstGivers 35 = .ok (.iload_n 1, 1) := by decide +kernel
theorem dX6_weighFirstGivers_36 : decode cX6_weighFirstGivers 36 = .ok (.invokevirtual 100, 3) := by decide +kernel
theorem dX6_weighFirstGivers_39 : decode cX6_weighFirstGivers 39 = .ok (.goto 4, 3) := by decide +kernel
theorem dX6_weighFirstGivers_42 : decode cX6_weighFirstGivers 42 = .ok (.iconst 0, 1) := by decide +kernel
theorem dX6_weighFirstGivers_43 : decode cX6_weighFirstGivers 43 = .ok (.iastore, 1) := by decide +kernel
theorem dX6_weighFirstGivers_44 : decode cX6_weighFirstGivers 44 = .ok (.iinc 2 1, 3) := by decide +kernel
theorem dX6_weighFirstGivers_47 : decode cX6_weighFirstGivers 47 = .ok (.goto (-40), 3) := by decide +kernel
theorem dX6_weighFirstGivers_50 : decode cX6_weighFirstGivers 50 = .ok (.return_, 1) := by decide +kernel
set_option maxRecDepth 20000 in
theorem ggX6_lastNeededGiver_X6_gave : GoodIn wsX6_lastNeededGiver wsX6_gave := goodIn_r _ [7, 8, 9, 10, 11, 6, 12, 1, 13, 14, 15, 16, 17, 18, 19, 20] (by decide +kernel) (by decide +kernel)
set_option maxRecDepth 20000 in
theorem gX6_lastNeededGiver_X6_gave : GoodIn wsX6_lastNeededGiver (wsV RX6 87 RX6 yX6_gave wsX6_gave) := goodIn_app (goodIn_of _ (by decide +kernel)) ggX6_lastNeededGiver_X6_gave
theorem dX6_lastNeededGiver_0 : decode cX6_lastNeededGiver 0 = .ok (.iconst 0, 1) := by decide +kernel
theorem dX6_lastNeededGiver_1 : decode cX6_lastNeededGiver 1 = .ok (.istore_n 1, 1) := by decide +kernel
theorem dX6_lastNeededGiver_2 : decode cX6_lastNeededGiver 2 = .ok (.iconst 1, 1) := by decide +kernel
theorem dX6_lastNeededGiver_3 : decode cX6_lastNeededGiver 3 = .ok (.istore_n 2, 1) := by decide +kernel
theorem dX6_lastNeededGiver_4 : decode cX6_lastNeededGiver 4 = .ok (.iload_n 2, 1) := by decide +kernel
theorem dX6_lastNeededGiver_5 : decode cX6_lastNeededGiver 5 = .ok (.aload_n 0, 1) := by decide +kernel
theorem dX6_lastNeededGiver_6 : decode cX6_lastNeededGiver 6 = .ok (.getfield 33, 3) := by decide +kernel
theorem dX6_lastNeededGiver_9 : decode cX6_lastNeededGiver 9 = .ok (.if_icmp .gt 35, 3) := by decide +kernel
theorem dX6_lastNeededGiver_12 : decode cX6_lastNeededGiver 12 = .ok (.iload_n 1, 1) := by decide +kernel
theorem dX6_lastNeededGiver_13 : decode cX6_lastNeededGiver 13 = .ok (.aload_n 0, 1) := by decide +kernel
theorem dX6_lastNeededGiver_14 : decode cX6_lastNeededGiver 14 = .ok (.iload_n 2, 1) := by decide +kernel
theorem dX6_lastNeededGiver_15 : decode cX6_lastNeededGiver 15 = .ok (.invokevirtual 87, 3) := by decide +kernel
theorem dX6_lastNeededGiver_18 : decode cX6_lastNeededGiver 18 = .ok (.ifCond .eq 7, 3) := by decide +kernel
theorem dX6_lastNeededGiver_21 : decode cX6_lastNeededGiver 21 = .ok (.iconst 1, 1) := by decide +kernel
theorem dX6_lastNeededGiver_22 : decode cX6_lastNeededGiver 22 = .ok (.goto 4, 3) := by decide +kernel
theorem dX6_lastNeededGiver_25 : decode cX6_lastNeededGiver 25 = .ok (.iconst 0, 1) := by decide +kernel
theorem dX6_lastNeededGiver_26 : decode cX6_lastNeededGiver 26 = .ok (.iadd, 1) := by decide +kernel
theorem dX6_lastNeededGiver_27 : decode cX6_lastNeededGiver 27 = .ok (.istore_n 1, 1) := by decide +kernel
theorem dX6_lastNeededGiver_28 : decode cX6_lastNeededGiver 28 = .ok (.iload_n 1, 1) := by decide +kernel
theorem dX6_lastNeededGiver_29 : decode cX6_lastNeededGiver 29 = .ok (.aload_n 0, 1) := by decide +kernel
theorem dX6_lastNeededGiver_30 : decode cX6_lastNeededGiver 30 = .ok (.getfield 37, 3) := by decide +kernel
theorem dX6_lastNeededGiver_33 : decode cX6_lastNeededGiver 33 = .ok (.if_icmp .ne 5, 3) := by decide +kernel
theorem dX6_lastNeededGiver_36 : decode cX6_lastNeededGiver 36 = .ok (.iload_n 2, 1) := by decide +kernel
theorem dX6_lastNeededGiver_37 : decode cX6_lastNeededGiver 37 = .ok (.ireturn, 1) := by decide +kernel
theorem dX6_lastNeededGiver_38 : decode cX6_lastNeededGiver 38 = .ok (.iinc 2 1, 3) := by decide +kernel
theorem dX6_lastNeededGiver_41 : decode cX6_lastNeededGiver 41 = .ok (.goto (-37), 3) := by decide +kernel
set_option maxRecDepth 20000 in
theorem ggX6_weightOf_X1_order : GoodIn wsX6_weightOf wsX1_order := goodIn_r _ [6, 7, 41, 42, 43] (by decide +kernel) (by decide +kernel)
set_option maxRecDepth 20000 in
theorem gX6_weightOf_X1_order : GoodIn wsX6_weightOf (wsV RX6 15 RX1 yX1_order wsX1_order) := goodIn_app (goodIn_of _ (by decide +kernel)) ggX6_weightOf_X1_order
set_option maxRecDepth 20000 in
theorem ggX6_weightOf_X6_gave : GoodIn wsX6_weightOf wsX6_gave := goodIn_r _ [12, 13, 14, 15, 16, 11, 17, 18, 33, 34, 35, 36, 37, 38, 39, 40] (by decide +kernel) (by decide +kernel)
set_option maxRecDepth 20000 in
theorem gX6_weightOf_X6_gave : GoodIn wsX6_weightOf (wsV RX6 87 RX6 yX6_gave wsX6_gave) := goodIn_app (goodIn_of _ (by decide +kernel)) ggX6_weightOf_X6_gave
set_option maxRecDepth 20000 in
theorem ggX6_weightOf_X3_times : GoodIn wsX6_weightOf wsX3_times := goodIn_r _ [22] (by decide +kernel) (by decide +kernel)
set_option maxRecDepth 20000 in
theorem gX6_weightOf_X3_times : GoodIn wsX6_weightOf (va_wsS RX6 81 yX3_times wsX3_times) := goodIn_app (goodIn_of _ (by decide +kernel)) ggX6_weightOf_X3_times
set_option maxRecDepth 20000 in
theorem ggX6_weightOf_X3_minus : GoodIn wsX6_weightOf wsX3_minus := goodIn_r _ [25] (by decide +kernel) (by decide +kernel)
set_option maxRecDepth 20000 in
theorem gX6_weightOf_X3_minus : GoodIn wsX6_weightOf (va_wsS RX6 103 yX3_minus wsX3_minus) := goodIn_app (goodIn_of _ (by decide +kernel)) ggX6_weightOf_X3_minus
set_option maxRecDepth 20000 in
theorem ggX6_weightOf_X3_inverse : GoodIn wsX6_weightOf wsX3_inverse := goodIn_r _ [28, 29, 30, 21, 31, 32, 20, 22] (by decide +kernel) (by decide +kernel)
set_option maxRecDepth 20000 in
theorem gX6_weightOf_X3_inverse : GoodIn wsX6_weightOf (va_wsS RX6 106 yX3_inverse wsX3_inverse) := goodIn_app (goodIn_of _ (by decide +kernel)) ggX6_weightOf_X3_inverse
theorem dX6_weightOf_0 : decode cX6_weightOf 0 = .ok (.aload_n 0, 1) := by decide +kernel
theorem dX6_weightOf_1 : decode cX6_weightOf 1 = .ok (.getfield 9, 3) := by decide +kernel
theorem dX6_weightOf_4 : decode cX6_weightOf 4 = .ok (.invokevirtual 15, 3) := by decide +kernel
theorem dX6_weightOf_7 : decode cX6_weightOf 7 = .ok (.istore_n 3, 1) := by decide +kernel
theorem dX6_weightOf_8 : decode cX6_weightOf 8 = .ok (.iconst 1, 1) := by decide +kernel
theorem dX6_weightOf_9 : decode cX6_weightOf 9 = .ok (.istore 4, 2) := by decide +kernel
theorem dX6_weightOf_11 : decode cX6_weightOf 11 = .ok (.iconst 1, 1) := by decide +kernel
theorem dX6_weightOf_12 : decode cX6_weightOf 12 = .ok (.istore 5, 2) := by decide +kernel
theorem dX6_weightOf_14 : decode cX6_weightOf 14 = .ok (.iconst 1, 1) := by decide +kernel
theorem dX6_weightOf_15 : decode cX6_weightOf 15 = .ok (.istore 6, 2) := by decide +kernel
theorem dX6_weightOf_17 : decode cX6_weightOf 17 = .ok (.iload 6, 2) := by decide +kernel
theorem dX6_weightOf_19 : decode cX6_weightOf 19 = .ok (.iload_n 2, 1) := by decide +kernel
theorem dX6_weightOf_20 : decode cX6_weightOf 20 = .ok (.if_icmp .gt 49, 3) := by decide +kernel
theorem dX6_weightOf_23 : decode cX6_weightOf 23 = .ok (.iload 6, 2) := by decide +kernel
theorem dX6_weightOf_25 : decode cX6_weightOf 25 = .ok (.iload_n 1, 1) := by decide +kernel
theorem dX6_weightOf_26 : decode cX6_weightOf 26 = .ok (.if_icmp .eq 37, 3) := by decide +kernel
theorem dX6_weightOf_29 : decode cX6_weightOf 29 = .ok (.aload_n 0, 1) := by decide +kernel
theorem dX6_weightOf_30 : decode cX6_weightOf 30 = .ok (.iload 6, 2) := by decide +kernel
theorem dX6_weightOf_32 : decode cX6_weightOf 32 = .ok (.invokevirtual 87, 3) := by decide +kernel
theorem dX6_weightOf_35 : decode cX6_weightOf 35 = .ok (.ifCond .eq 28, 3) := by decide +kernel
theorem dX6_weightOf_38 : decode cX6_weightOf 38 = .ok (.iload 4, 2) := by decide +kernel
theorem dX6_weightOf_40 : decode cX6_weightOf 40 = .ok (.iload 6, 2) := by decide +kernel
theorem dX6_weightOf_42 : decode cX6_weightOf 42 = .ok (.iload_n 3, 1) := by decide +kernel
theorem dX6_weightOf_43 : decode cX6_weightOf 43 = .ok (.invokestatic 81, 3) := by decide +kernel
theorem dX6_weightOf_46 : decode cX6_weightOf 46 = .ok (.istore 4, 2) := by decide +kernel
theorem dX6_weightOf_48 : decode cX6_weightOf 48 = .ok (.iload 5, 2) := by decide +kernel
theorem dX6_weightOf_50 : decode cX6_weightOf 50 = .ok (.iload 6, 2) := by decide +kernel
theorem dX6_weightOf_52 : decode cX6_weightOf 52 = .ok (.iload_n 1, 1) := by decide +kernel
theorem dX6_weightOf_53 : decode cX6_weightOf 53 = .ok (.iload_n 3, 1) := by decide +kernel
theorem dX6_weightOf_54 : decode cX6_weightOf 54 = .ok (.invokestatic 103, 3) := by decide +kernel
theorem dX6_weightOf_57 : decode cX6_weightOf 57 = .ok (.iload_n 3, 1) := by decide +kernel
theorem dX6_weightOf_58 : decode cX6_weightOf 58 = .ok (.invokestatic 81, 3) := by decide +kernel
theorem dX6_weightOf_61 : decode cX6_weightOf 61 = .ok (.istore 5, 2) := by decide +kernel
theorem dX6_weightOf_63 : decode cX6_weightOf 63 = .ok (.iinc 6 1, 3) := by decide +kernel
theorem dX6_weightOf_66 : decode cX6_weightOf 66 = .ok (.goto (-49), 3) := by decide +kernel
theorem dX6_weightOf_69 : decode cX6_weightOf 69 = .ok (.iload 4, 2) := by decide +kernel
theorem dX6_weightOf_71 : decode cX6_weightOf 71 = .ok (.iload 5, 2) := by decide +kernel
theorem dX6_weightOf_73 : decode cX6_weightOf 73 = .ok (.iload_n 3, 1) := by decide +kernel
theorem dX6_weightOf_74 : decode cX6_weightOf 74 = .ok (.invokestatic 106, 3) := by decide +kernel
theorem dX6_weightOf_77 : decode cX6_weightOf 77 = .ok (.iload_n 3, 1) := by decide +kernel
theorem dX6_weightOf_78 : decode cX6_weightOf 78 = .ok (.invokestatic 81, 3) := by decide +kernel
theorem dX6_weightOf_81 : decode cX6_weightOf 81 = .ok (.ireturn, 1) := by decide +kernel
set_option maxRecDepth 20000 in
theorem ggX6_joinedGift_X6_gift : GoodIn wsX6_joinedGift wsX6_gift := goodIn_r _ [8, 9, 10, 11, 12, 7, 13, 14, 15, 16, 17, 18, 1, 37, 38, 39, 40, 41, 42, 43, 44] (by decide +kernel) (by decide +kernel)
set_option maxRecDepth 20000 in
theorem gX6_joinedGift_X6_gift : GoodIn wsX6_joinedGift (wsV RX6 90 RX6 yX6_gift wsX6_gift) := goodIn_app (goodIn_of _ (by decide +kernel)) ggX6_joinedGift_X6_gift
set_option maxRecDepth 20000 in
theorem ggX6_joinedGift_X1_raised : GoodIn wsX6_joinedGift wsX1_raised := goodIn_r _ [23, 24, 25, 26, 27, 28, 29, 30, 31, 45, 46, 47] (by decide +kernel) (by decide +kernel)
set_option maxRecDepth 20000 in
theorem gX6_joinedGift_X1_raised : GoodIn wsX6_joinedGift (wsV RX6 78 RX1 yX1_raised wsX1_raised) := goodIn_app (goodIn_of _ (by decide +kernel)) ggX6_joinedGift_X1_raised
set_option maxRecDepth 20000 in
theorem ggX6_joinedGift_X1_multiplied : GoodIn wsX6_joinedGift wsX1_multiplied := goodIn_r _ [35, 24, 36, 30, 27, 31, 45, 46, 47] (by decide +kernel) (by decide +kernel)
set_option maxRecDepth 20000 in
theorem gX6_joinedGift_X1_multiplied : GoodIn wsX6_joinedGift (wsV RX6 109 RX1 yX1_multiplied wsX1_multiplied) := goodIn_app (goodIn_of _ (by decide +kernel)) ggX6_joinedGift_X1_multiplied
theorem dX6_joinedGift_0 : decode cX6_joinedGift 0 = .ok (.iconst 1, 1) := by decide +kernel
theorem dX6_joinedGift_1 : decode cX6_joinedGift 1 = .ok (.istore_n 2, 1) := by decide +kernel
theorem dX6_joinedGift_2 : decode cX6_joinedGift 2 = .ok (.iconst 1, 1) := by decide +kernel
theorem dX6_joinedGift_3 : decode cX6_joinedGift 3 = .ok (.istore_n 3, 1) := by decide +kernel
theorem dX6_joinedGift_4 : decode cX6_joinedGift 4 = .ok (.iload_n 3, 1) := by decide +kernel
theorem dX6_joinedGift_5 : decode cX6_joinedGift 5 = .ok (.aload_n 0, 1) := by decide +kernel
theorem dX6_joinedGift_6 : decode cX6_joinedGift 6 = .ok (.getfield 33, 3) := by decide +kernel
theorem dX6_joinedGift_9 : decode cX6_joinedGift 9 = .ok (.if_icmp .gt 46, 3) := by decide +kernel
theorem dX6_joinedGift_12 : decode cX6_joinedGift 12 = .ok (.aload_n 0, 1) := by decide +kernel
theorem dX6_joinedGift_13 : decode cX6_joinedGift 13 = .ok (.getfield 53, 3) := by decide +kernel
theorem dX6_joinedGift_16 : decode cX6_joinedGift 16 = .ok (.iload_n 3, 1) := by decide +kernel
theorem dX6_joinedGift_17 : decode cX6_joinedGift 17 = .ok (.iaload, 1) := by decide +kernel
theorem dX6_joinedGift_18 : decode cX6_joinedGift 18 = .ok (.ifCond .eq 31, 3) := by decide +kernel
theorem dX6_joinedGift_21 : decode cX6_joinedGift 21 = .ok (.aload_n 0, 1) := by decide +kernel
theorem dX6_joinedGift_22 : decode cX6_joinedGift 22 = .ok (.getfield 9, 3) := by decide +kernel
theorem dX6_joinedGift_25 : decode cX6_joinedGift 25 = .ok (.iload_n 2, 1) := by decide +kernel
theorem dX6_joinedGift_26 : decode cX6_joinedGift 26 = .ok (.aload_n 0, 1) := by decide +kernel
theorem dX6_joinedGift_27 : decode cX6_joinedGift 27 = .ok (.getfield 9, 3) := by decide +kernel
theorem dX6_joinedGift_30 : decode cX6_joinedGift 30 = .ok (.aload_n 0, 1) := by decide +kernel
theorem dX6_joinedGift_31 : decode cX6_joinedGift 31 = .ok (.iload_n 3, 1) := by decide +kernel
theorem dX6_joinedGift_32 : decode cX6_joinedGift 32 = .ok (.iload_n 1, 1) := by decide +kernel
theorem dX6_joinedGift_33 : decode cX6_joinedGift 33 = .ok (.invokevirtual 90, 3) := by decide +kernel
theorem dX6_joinedGift_36 : decode cX6_joinedGift 36 = .ok (.aload_n 0, 1) := by decide +kernel
theorem dX6_joinedGift_37 : decode cX6_joinedGift 37 = .ok (.getfield 53, 3) := by decide +kernel
theorem dX6_joinedGift_40 : decode cX6_joinedGift 40 = .ok (.iload_n 3, 1) := by decide +kernel
theorem dX6_joinedGift_41 : decode cX6_joinedGift 41 = .ok (.iaload, 1) := by decide +kernel
theorem dX6_joinedGift_42 : decode cX6_joinedGift 42 = .ok (.invokevirtual 78, 3) := by decide +kernel
theorem dX6_joinedGift_45 : decode cX6_joinedGift 45 = .ok (.invokevirtual 109, 3) := by decide +kernel
theorem dX6_joinedGift_48 : decode cX6_joinedGift 48 = .ok (.istore_n 2, 1) := by decide +kernel
theorem dX6_joinedGift_49 : decode cX6_joinedGift 49 = .ok (.iinc 3 1, 3) := by decide +kernel
theorem dX6_joinedGift_52 : decode cX6_joinedGift 52 = .ok (.goto (-48), 3) := by decide +kernel
theorem dX6_joinedGift_55 : decode cX6_joinedGift 55 = .ok (.iload_n 2, 1) := by decide +kernel
theorem dX6_joinedGift_56 : decode cX6_joinedGift 56 = .ok (.ireturn, 1) := by decide +kernel
theorem so_pos {z : Int32} {k : Nat} (hz : z = nI k - 1) (hk : k < 100) (c : ¬ z < 0) : ∃ k2 : Nat, k = k2 + 1 ∧ z = nI k2 := by
  rcases Nat.eq_zero_or_pos k with e | e
  · rw [e] at hz
    rw [hz] at c
    exact absurd (by decide) c
  · refine ⟨k - 1, by omega, ?_⟩
    rw [hz]
    exact pk_sub (a := k) (b := 1) e
theorem so_dec {z : Int32} {k2 : Nat} (hz2 : z = nI k2) : z + (-1) = nI k2 - 1 := by
  rw [hz2, Int32.sub_eq_add_neg]
theorem so_step {q j z v x : Int32} {cf : Nat → Int32} {k2 : Nat} (hz2 : z = nI k2) (h : k2 < 100) (hv : shr q j cf (k2 + 1) v = x) : shr q j cf k2 (pl q (tm q v j) (cf z.toNatClampNeg)) = x := by
  rw [hz2, nI_clamp (by omega)]
  exact hv
theorem so_end {q j z v x : Int32} {cf : Nat → Int32} {k : Nat} (hz : z = nI k - 1) (hk : k < 100) (c : z < 0) (hv : shr q j cf k v = x) : v = x := by
  rcases Nat.eq_zero_or_pos k with e | e
  · rw [e] at hv; exact hv
  · rw [hz, show (nI k - 1 : Int32) = nI (k - 1) from pk_sub (a := k) (b := 1) e] at c
    exact absurd c (nI_pos (by omega))
/-- what trustee j gave for place i -/
def gft (gv : Nat → Int32) (gf : Nat → Nat → Int32) (ts j i : Int32) : Int32 := if ((1 ≤ j ∧ j ≤ ts) ∧ ¬ gv j.toNatClampNeg = 0) ∧ 0 ≤ i ∧ i < 40 then gf j.toNatClampNeg i.toNatClampNeg else -1
theorem gv_lt {j x : Int32} {t0 : Nat} (h : 1 ≤ j ∧ j ≤ x) (hm : x = nI t0) (ht5 : t0 ≤ 5) : j.toNatClampNeg < t0 + 1 := by
  have := gv_i1 h hm ht5
  exact Nat.not_le.mp (fun q => this (Or.inr q))
theorem gft_n {gv : Nat → Int32} {gf : Nat → Nat → Int32} {ts j z : Int32} {k : Nat} (h : (1 ≤ j ∧ j ≤ ts) ∧ ¬ gv j.toNatClampNeg = 0) (hz : z = nI k) (hk : k < 40) : gft gv gf ts j z = gf j.toNatClampNeg k := by
  rw [gft, if_pos ⟨h, by rw [hz]; exact nI_pos' (by omega), by rw [hz]; exact nI_lt (b := 40) hk (by omega)⟩, hz, nI_clamp (by omega)]
theorem upr_at {gf : Nat → Nat → Int32} {j : Nat} {a : Nat → Int32} : upr gf j a j = a := if_pos rfl
theorem upr_ne {gf : Nat → Nat → Int32} {i j : Nat} {a : Nat → Int32} (h : ¬ i = j) : upr gf j a i = gf i := if_neg h
theorem upr_2 {gf : Nat → Nat → Int32} {j : Nat} {a b : Nat → Int32} : upr (upr gf j a) j b = upr gf j b := by
  funext k
  unfold upr
  split <;> rfl
theorem upr_id {gf : Nat → Nat → Int32} {j : Nat} : upr gf j (gf j) = gf := by
  funext k
  unfold upr
  split
  · rename_i e; rw [e]
  · rfl
theorem gv_start (gf : Nat → Nat → Int32) (j : Nat) (v : Nat → Int32) : gf = upr gf j (scat (fun i => i) v (gf j) 0) := upr_id.symm
theorem gv_step {gf : Nat → Nat → Int32} {j k : Nat} {v : Nat → Int32} {z : Int32} (hz : z = nI k) (hk : k < 40) : upr (upr gf j (scat (fun i => i) v (gf j) k)) j (upd (upr gf j (scat (fun i => i) v (gf j) k) j) z.toNatClampNeg (v k)) = upr gf j (scat (fun i => i) v (gf j) (k + 1)) := by
  rw [upr_2, upr_at, hz, nI_clamp (by omega)]
  rfl
theorem ln_pos {gv : Nat → Int32} {la k0 : Nat} (hk1 : 1 ≤ k0) (h : gvc gv la = k0) : 0 < la := by
  rcases Nat.eq_zero_or_pos la with e | e
  · rw [e] at h
    have : gvc gv 0 = 0 := rfl
    omega
  · exact e
theorem ln_in {ts z : Int32} {t0 k la : Nat} (hts : ts = nI t0) (ht5 : t0 ≤ 5) (hz : z = nI (k + 1)) (h2 : k < la) (h3 : la ≤ t0) : ¬ ts < z := by
  rw [hts, hz]; exact nI_nlt (by omega) (by omega)
theorem gv_rng {ts z : Int32} {t0 k : Nat} (hts : ts = nI t0) (ht5 : t0 ≤ 5) (hz : z = nI (k + 1)) (h : k + 1 ≤ t0) : 1 ≤ z ∧ z ≤ ts := by
  rw [hts, hz]
  exact ⟨nI_le (a := 1) (by omega) (by omega), nI_le h (by omega)⟩
/-- what 'gave' said of z -/
theorem gv_no {gv : Nat → Int32} {ts z : Int32} {t0 k : Nat} (hts : ts = nI t0) (ht5 : t0 ≤ 5) (hz : z = nI (k + 1)) (h : k + 1 ≤ t0) (c : bI ((1 ≤ z ∧ z ≤ ts) ∧ ¬ gv z.toNatClampNeg = 0) = 0) : gv (k + 1) = 0 := by
  have h1 := bI_0 c
  have e : z.toNatClampNeg = k + 1 := by rw [hz]; exact nI_clamp (by omega)
  rw [e] at h1
  exact Decidable.byContradiction (fun q => h1 ⟨gv_rng hts ht5 hz h, q⟩)
theorem gv_yes {gv : Nat → Int32} {ts z : Int32} {k : Nat} (hz : z = nI (k + 1)) (hk : k < 100) (c : ¬ bI ((1 ≤ z ∧ z ≤ ts) ∧ ¬ gv z.toNatClampNeg = 0) = 0) : ¬ gv (k + 1) = 0 := by
  have h1 := (bI_1 c).2
  have e : z.toNatClampNeg = k + 1 := by rw [hz]; exact nI_clamp (by omega)
  rw [e] at h1
  exact h1
theorem ln_0 {gv : Nat → Int32} {ts z v : Int32} {t0 k la : Nat} (hts : ts = nI t0) (ht5 : t0 ≤ 5) (hz : z = nI (k + 1)) (h2 : k < la) (h3 : la ≤ t0) (hv : v = nI (gvc gv k)) (c : bI ((1 ≤ z ∧ z ≤ ts) ∧ ¬ gv z.toNatClampNeg = 0) = 0) : v + 0 = nI (gvc gv (k + 1)) := by
  have h := gv_no hts ht5 hz (by omega) c
  show v + 0 = nI (if gv (k + 1) = 0 then gvc gv k else gvc gv k + 1)
  rw [if_pos h, Int32.add_zero, hv]
theorem ln_1 {gv : Nat → Int32} {ts z v : Int32} {t0 k la : Nat} (hz : z = nI (k + 1)) (ht5 : t0 ≤ 5) (h2 : k < la) (h3 : la ≤ t0) (hv : v = nI (gvc gv k)) (c : ¬ bI ((1 ≤ z ∧ z ≤ ts) ∧ ¬ gv z.toNatClampNeg = 0) = 0) : v + 1 = nI (gvc gv (k + 1)) := by
  have h := gv_yes hz (by omega) c
  show v + 1 = nI (if gv (k + 1) = 0 then gvc gv k else gvc gv k + 1)
  rw [if_neg h, hv]
  exact nI_1 _
theorem gvc_le (gv : Nat → Int32) : ∀ k : Nat, gvc gv k ≤ k
  | 0 => Nat.le_refl _
  | k + 1 => by
    have := gvc_le gv k
    show (if gv (k + 1) = 0 then gvc gv k else gvc gv k + 1) ≤ k + 1
    split <;> omega
theorem ln_next {gv : Nat → Int32} {ts tk z v w : Int32} {t0 k0 k la : Nat} (_ : ts = nI t0) (ht5 : t0 ≤ 5) (htk : tk = nI k0) (hk5 : k0 ≤ 5) (_ : z = nI (k + 1)) (h2 : k < la) (_ : v = nI (gvc gv k)) (hL1 : gvc gv la = k0) (_ : ∀ j : Nat, j < la → gvc gv j < k0) (h3 : la ≤ t0) (hw : w = nI (gvc gv (k + 1))) (c : ¬ w = tk) : k + 1 < la ∧ w = nI (gvc gv (k + 1)) := by
  refine ⟨?_, hw⟩
  rcases Nat.lt_or_ge (k + 1) la with q | q
  · exact q
  · exfalso
    apply c
    rw [hw, htk, show k + 1 = la by omega, hL1]
theorem ln_ret {gv : Nat → Int32} {ts tk z v w : Int32} {t0 k0 k la : Nat} (_ : ts = nI t0) (ht5 : t0 ≤ 5) (htk : tk = nI k0) (hk5 : k0 ≤ 5) (hz : z = nI (k + 1)) (h2 : k < la) (_ : v = nI (gvc gv k)) (_ : gvc gv la = k0) (hL2 : ∀ j : Nat, j < la → gvc gv j < k0) (h3 : la ≤ t0) (hw : w = nI (gvc gv (k + 1))) (c : w = tk) : z = nI la := by
  have h5 := gvc_le gv (k + 1)
  rw [hw, htk, nI_eq (by omega) (by omega)] at c
  rcases Nat.lt_or_ge (k + 1) la with q | q
  · have := hL2 (k + 1) q
    omega
  · rw [hz, show k + 1 = la by omega]
theorem wo_eq {q z j u v : Int32} {gv : Nat → Int32} {k j0 : Nat} (hz : z = nI (k + 1)) (hj : j = nI j0) (h5 : j0 < 100) (hk : k < 100) (c : z = j) (hu : u = wup q gv j0 k) (hv : v = wdn q gv j0 k) : u = wup q gv j0 (k + 1) ∧ v = wdn q gv j0 (k + 1) := by
  rw [hz, hj, nI_eq (by omega) (by omega)] at c
  refine ⟨?_, ?_⟩
  · show u = if k + 1 = j0 ∨ gv (k + 1) = 0 then wup q gv j0 k else _
    rw [if_pos (Or.inl c), hu]
  · show v = if k + 1 = j0 ∨ gv (k + 1) = 0 then wdn q gv j0 k else _
    rw [if_pos (Or.inl c), hv]
theorem wo_no {q ts z u v : Int32} {gv : Nat → Int32} {k j0 t0 : Nat} (hz : z = nI (k + 1)) (hk : k < 100) (hts : ts = nI t0) (ht5 : t0 ≤ 5) (h : k + 1 ≤ t0) (c : bI ((1 ≤ z ∧ z ≤ ts) ∧ ¬ gv z.toNatClampNeg = 0) = 0) (hu : u = wup q gv j0 k) (hv : v = wdn q gv j0 k) : u = wup q gv j0 (k + 1) ∧ v = wdn q gv j0 (k + 1) := by
  have h1 := gv_no hts ht5 hz h c
  refine ⟨?_, ?_⟩
  · show u = if k + 1 = j0 ∨ gv (k + 1) = 0 then wup q gv j0 k else _
    rw [if_pos (Or.inr h1), hu]
  · show v = if k + 1 = j0 ∨ gv (k + 1) = 0 then wdn q gv j0 k else _
    rw [if_pos (Or.inr h1), hv]
theorem wo_yes {q ts z j u v : Int32} {gv : Nat → Int32} {k j0 : Nat} (hz : z = nI (k + 1)) (hj : j = nI j0) (h5 : j0 < 100) (hk : k < 100) (c : ¬ z = j) (c2 : ¬ bI ((1 ≤ z ∧ z ≤ ts) ∧ ¬ gv z.toNatClampNeg = 0) = 0) (hu : u = wup q gv j0 k) (hv : v = wdn q gv j0 k) : tm q u z = wup q gv j0 (k + 1) ∧ tm q v (mn q z j) = wdn q gv j0 (k + 1) := by
  have h1 := gv_yes hz hk c2
  have h2 : ¬ (k + 1 = j0 ∨ gv (k + 1) = 0) := by
    rintro (e | e)
    · exact c (by rw [hz, hj, e])
    · exact h1 e
  refine ⟨?_, ?_⟩
  · show tm q u z = if k + 1 = j0 ∨ gv (k + 1) = 0 then _ else tm q (wup q gv j0 k) (nI (k + 1))
    rw [if_neg h2, hu, hz]
  · show tm q v (mn q z j) = if k + 1 = j0 ∨ gv (k + 1) = 0 then _ else tm q (wdn q gv j0 k) (mn q (nI (k + 1)) (nI j0))
    rw [if_neg h2, hv, hz, hj]
theorem wk_s {q z x : Int32} {q0 la k : Nat} {gv w : Nat → Int32} (hz : z = nI (k + 1)) (hk : k < 100) (hx : x = if k + 1 ≤ la ∧ ¬ gv (k + 1) = 0 then wgt q q0 gv la (k + 1) else 0) : upd (wts q q0 gv la w k) z.toNatClampNeg x = wts q q0 gv la w (k + 1) := by
  rw [hz, nI_clamp (by omega), hx]
  rfl
theorem wk_gt {z x y : Int32} {la k : Nat} {gv : Nat → Int32} (hz : z = nI (k + 1)) (hla : x = nI la) (h1 : la < 100) (h2 : k < 100) (c : x < z) : (0 : Int32) = if k + 1 ≤ la ∧ ¬ gv (k + 1) = 0 then y else 0 := by
  rw [hz, hla, nI_ltI (by omega) (by omega)] at c
  rw [if_neg (fun h => by omega)]
theorem wk_no {ts z y : Int32} {la k t0 : Nat} {gv : Nat → Int32} (hz : z = nI (k + 1)) (hts : ts = nI t0) (ht5 : t0 ≤ 5) (h : k + 1 ≤ t0) (c : bI ((1 ≤ z ∧ z ≤ ts) ∧ ¬ gv z.toNatClampNeg = 0) = 0) : (0 : Int32) = if k + 1 ≤ la ∧ ¬ gv (k + 1) = 0 then y else 0 := by
  have h1 := gv_no hts ht5 hz h c
  rw [if_neg (fun q => q.2 h1)]
theorem wk_yes {ts z x y : Int32} {la k : Nat} {gv : Nat → Int32} (hz : z = nI (k + 1)) (hla : x = nI la) (h1 : la < 100) (h2 : k < 100) (c : ¬ x < z) (c2 : ¬ bI ((1 ≤ z ∧ z ≤ ts) ∧ ¬ gv z.toNatClampNeg = 0) = 0) : y = if k + 1 ≤ la ∧ ¬ gv (k + 1) = 0 then y else 0 := by
  rw [hz, hla, nI_ltI (by omega) (by omega)] at c
  rw [if_pos ⟨by omega, gv_yes hz h2 c2⟩]
theorem jg_nn {z : Int32} {k t0 : Nat} {w : Nat → Int32} (hz : z = nI (k + 1)) (h : k + 1 ≤ t0) (ht5 : t0 ≤ 5) (hwn : ∀ j : Nat, 1 ≤ j → j ≤ t0 → nn (w j)) : w z.toNatClampNeg = nI (nt w z.toNatClampNeg) := by
  have e : z.toNatClampNeg = k + 1 := by rw [hz]; exact nI_clamp (by omega)
  rw [e]
  exact hwn (k + 1) (by omega) h
theorem jg_0 {P z v : Int32} {k : Nat} {w gi : Nat → Int32} (hz : z = nI (k + 1)) (hk : k < 100) (c : w z.toNatClampNeg = 0) (hv : v = jgf P w gi k) : v = jgf P w gi (k + 1) := by
  have e : z.toNatClampNeg = k + 1 := by rw [hz]; exact nI_clamp (by omega)
  rw [e] at c
  show v = if w (k + 1) = 0 then jgf P w gi k else _
  rw [if_pos c, hv]
theorem jg_1 {P ts z v i : Int32} {k : Nat} {w gv : Nat → Int32} {gf : Nat → Nat → Int32} (hz : z = nI (k + 1)) (hk : k < 100) (c : ¬ w z.toNatClampNeg = 0) (hv : v = jgf P w (fun j => gft gv gf ts (nI j) i) k) : tm P v (pw P 32 (nt w z.toNatClampNeg) 1 (gft gv gf ts z i)) = jgf P w (fun j => gft gv gf ts (nI j) i) (k + 1) := by
  have e : z.toNatClampNeg = k + 1 := by rw [hz]; exact nI_clamp (by omega)
  rw [e] at c ⊢
  show _ = if w (k + 1) = 0 then _ else tm P (jgf P w (fun j => gft gv gf ts (nI j) i) k) (pw P 32 (nt w (k + 1)) 1 (gft gv gf ts (nI (k + 1)) i))
  rw [if_neg c, hv, hz]
set_option maxHeartbeats 4000000 in
set_option maxRecDepth 100000 in
theorem c_X6_shareOf (l : Launch) (D : va_G) (cA : Nat → ClassId) (tt : Nat) (g : Nat) (ts : Int32) (tk : Int32) (tco : Nat) (t4 : Nat) (t5 : Nat) (t6 : Nat) (tv : Int32) (gp : Int32) (gq : Int32) (gh : Int32) (j : Int32) (k0 : Nat) (cf : Nat → Int32) (htk : tk = nI k0) (hk5 : k0 ≤ 5) (hgq : 0 < gq) : Met l yX6_shareOf wsX6_shareOf ({ frames := 1, cells := 0, slots := 0, locals := 22 }) (rPc vwCl D cA [(tt, .inr (5, [.ref g, .int ts, .int tk, .ref tco, .ref t4, .ref t5, .ref t6, .int tv])), (g, .inr (1, [.int gp, .int gq, .int gh])), (tco, .inl (cA 0, k0, .inl cf))] [.ref tt, .int j]) (rq_x (some (.int (shr gq j cf k0 0)))) 0 0 (fun _ => False) := by
  refine Met.ofW (cc := cX6_shareOf) (maxL := 4) (ret := (some .int)) (by decide) rfl ?_
  intro p e s m args below meth c s₁ B hml hv
  obtain ⟨rfl, hP, hK⟩ := hv
  have hx := B.exec
  have hb := B.bytes
  have hr := B.returns
  have hts := atoms_spec (ws := wsX6_shareOf) B.pre
  have hown : s.vm.findClass RX6 = some m.cls := findClass_of_methodNamed B.named
  have hlocks := B.notSynchronized
  have hin_X6 : ∀ w ∈ wsX60, w ∈ wsX6_shareOf := fun w h => List.mem_cons_of_mem _ (List.mem_append_left _ (List.mem_append_right _ h))
  have w_RX6_37 := hts (.fieldLink RX6 37 "MixElection$Trustees" "threshold" "I") (by decide +kernel)
  have w_RX6_9 := hts (.fieldLink RX6 9 "MixElection$Trustees" "group" "LMixElection$Group;") (by decide +kernel)
  have w_RX6_40 := hts (.fieldLink RX6 40 "MixElection$Trustees" "coefficients" "[I") (by decide +kernel)
  have hl := lv_entry ([.ref tt, .int j]) (n := 4) (Nat.le_of_ble_eq_true rfl)
  rw [lg_entry_eq]
  generalize (lg_sl ([.ref tt, .int j]) ++ List.replicate (4 - (lg_sl ([.ref tt, .int j])).length) Slot.unset).toArray = ls at hl ⊢
  have hl : lv_has ls 4 [(0, .ref tt), (1, .int j)] := hl
  refine lv_iconst (v := 0) hx hb dX6_shareOf_0 (by decide) ?_
  refine lv_istore_n (lv' := [(2, .int 0), (0, .ref tt), (1, .int j)]) hx hb dX6_shareOf_1 rfl hl (by decide) rfl (fun ls hl => ?_)
  refine lv_aload_n hx hb dX6_shareOf_2 rfl (lv_at hl 1 rfl) ?_
  refine va_get (D := D) (ci := 5) (v := .int tk) (C := RX6) (T := TX6) (N := 8) hx hb hts hin_X6 hown hK hP 0 rfl rfl 2 (by decide) (w_RX6_37) (fun _ h9 => h9) rfl dX6_shareOf_3 ?_
  refine lv_iconst (v := 1) hx hb dX6_shareOf_6 (by decide) ?_
  refine lv_isub hx hb dX6_shareOf_7 ?_
  refine lv_istore_n (lv' := [(3, .int (tk - 1)), (2, .int 0), (0, .ref tt), (1, .int j)]) hx hb dX6_shareOf_8 rfl hl (by decide) rfl (fun ls hl => ?_)
  have loop9 : ∀ (f_ k : Nat) (z v : Int32), z = nI k - 1 → k < f_ → k ≤ k0 → shr gq j cf k v = shr gq j cf k0 0 → ∀ ls : Array Slot, lv_has ls 4 [(0, .ref tt), (1, .int j), (2, .int v), (3, .int z)] → W p l e (headSpec wsX6_shareOf ({ frames := 1, cells := 0, slots := 0, locals := 22 })).room s m [.ref tt, .int j].toArray below meth c s.heap [] 0 0 (MQ below (rq_x (some (.int (shr gq j cf k0 0)))) [.ref tt, .int j].toArray s 0 0 (fun _ => False)) (F0 m 9 ls []) := by
    intro f
    induction f with
    | zero =>
      intro k z v hz h1
      omega
    | succ f ih =>
      intro k z v hz h1 h2 hv ls hl
      refine lv_iload_n hx hb dX6_shareOf_9 rfl (lv_at hl 3 rfl) ?_
      refine lv_if_lt (tgt := 48) hx hb dX6_shareOf_10 (by decide) (fun c_10 => ?_) (fun c_10 => ?_)
      · skip
        refine lv_iload_n hx hb dX6_shareOf_48 rfl (lv_at hl 2 rfl) ?_
        exact W.iret (v := v) hx hb hr (fun t ht hW => ⟨congrArg (fun z => Outcome.returned (some (Value.int z))) (so_end hz (by omega) c_10 hv), ht⟩) (fun _ h => by cases h) dX6_shareOf_49
      · skip
        obtain ⟨k2, hk2, hz2⟩ := so_pos hz (by omega) c_10
        subst hk2
        refine lv_iload_n hx hb dX6_shareOf_13 rfl (lv_at hl 2 rfl) ?_
        refine lv_iload_n hx hb dX6_shareOf_14 rfl (lv_at hl 1 rfl) ?_
        refine lv_aload_n hx hb dX6_shareOf_15 rfl (lv_at hl 0 rfl) ?_
        refine va_get (D := D) (ci := 5) (v := .ref g) (C := RX6) (T := TX6) (N := 8) hx hb hts hin_X6 hown hK hP 0 rfl rfl 0 (by decide) (w_RX6_9) (fun _ h9 => h9) rfl dX6_shareOf_16 ?_
        refine rq_call1 (v := .int gq) (rn_V (As := []) (rest := [.int j, .int v]) (ci := 1) (fs := [.int gp, .int gq, .int gh]) ⟨hx, hb, hml, hown, hts⟩ (c_X1_order l D cA g gp gq gh) rfl (cwV 0 hts gX6_shareOf_X1_order rfl rfl rfl (by decide +kernel) ⟨Nat.le_of_ble_eq_true rfl, Nat.le_of_ble_eq_true rfl⟩) hK hP [1] rfl rfl rfl hl.1 rfl (Nat.le_of_ble_eq_true rfl) dX6_shareOf_19 ⟨Nat.le_of_ble_eq_true rfl, Nat.le_of_ble_eq_true rfl⟩) ?_
        refine rq_call1 (v := .int (tm gq v j)) (rn_S (As := [.int v, .int j, .int gq]) (rest := []) ⟨hx, hb, hml, hown, hts⟩ (c_X3_times l D cA v j gq hgq) (va_cwS 3 hts gX6_shareOf_X3_times rfl rfl rfl (by decide +kernel) ⟨Nat.le_of_ble_eq_true rfl, Nat.le_of_ble_eq_true rfl⟩) hK hP [] rfl rfl hl.1 rfl (Nat.le_of_ble_eq_true rfl) dX6_shareOf_22 ⟨Nat.le_of_ble_eq_true rfl, Nat.le_of_ble_eq_true rfl⟩) ?_
        refine lv_aload_n hx hb dX6_shareOf_25 rfl (lv_at hl 0 rfl) ?_
        refine va_get (D := D) (ci := 5) (v := .ref tco) (C := RX6) (T := TX6) (N := 8) hx hb hts hin_X6 hown hK hP 0 rfl rfl 3 (by decide) (w_RX6_40) (fun _ h9 => h9) rfl dX6_shareOf_26 ?_
        refine lv_iload_n hx hb dX6_shareOf_29 rfl (lv_at hl 3 rfl) ?_
        refine va_iald hx hb hK hP 2 0 rfl rfl (by rw [hz2]; exact vp_in_nI (by omega) (by omega)) dX6_shareOf_30 ?_
        refine lv_aload_n hx hb dX6_shareOf_31 rfl (lv_at hl 0 rfl) ?_
        refine va_get (D := D) (ci := 5) (v := .ref g) (C := RX6) (T := TX6) (N := 8) hx hb hts hin_X6 hown hK hP 0 rfl rfl 0 (by decide) (w_RX6_9) (fun _ h9 => h9) rfl dX6_shareOf_32 ?_
        refine rq_call1 (v := .int gq) (rn_V (As := []) (rest := [.int (cf z.toNatClampNeg), .int (tm gq v j)]) (ci := 1) (fs := [.int gp, .int gq, .int gh]) ⟨hx, hb, hml, hown, hts⟩ (c_X1_order l D cA g gp gq gh) rfl (cwV 0 hts gX6_shareOf_X1_order rfl rfl rfl (by decide +kernel) ⟨Nat.le_of_ble_eq_true rfl, Nat.le_of_ble_eq_true rfl⟩) hK hP [1] rfl rfl rfl hl.1 rfl (Nat.le_of_ble_eq_true rfl) dX6_shareOf_35 ⟨Nat.le_of_ble_eq_true rfl, Nat.le_of_ble_eq_true rfl⟩) ?_
        refine rq_call1 (v := .int (pl gq (tm gq v j) (cf z.toNatClampNeg))) (rn_S (As := [.int (tm gq v j), .int (cf z.toNatClampNeg), .int gq]) (rest := []) ⟨hx, hb, hml, hown, hts⟩ (c_X3_plus l D cA (tm gq v j) (cf z.toNatClampNeg) gq hgq) (va_cwS 3 hts gX6_shareOf_X3_plus rfl rfl rfl (by decide +kernel) ⟨Nat.le_of_ble_eq_true rfl, Nat.le_of_ble_eq_true rfl⟩) hK hP [] rfl rfl hl.1 rfl (Nat.le_of_ble_eq_true rfl) dX6_shareOf_38 ⟨Nat.le_of_ble_eq_true rfl, Nat.le_of_ble_eq_true rfl⟩) ?_
        refine lv_istore_n (lv' := [(2, .int (pl gq (tm gq v j) (cf z.toNatClampNeg))), (0, .ref tt), (1, .int j), (3, .int z)]) hx hb dX6_shareOf_41 rfl hl (by decide) rfl (fun ls hl => ?_)
        refine lv_iinc (v := (z + (-1))) (lv' := [(3, .int (z + (-1))), (2, .int (pl gq (tm gq v j) (cf z.toNatClampNeg))), (0, .ref tt), (1, .int j)]) hx hb dX6_shareOf_42 hl (k := 3) rfl rfl (by decide) rfl (fun ls hl => ?_)
        refine lv_goto (tgt := 9) hx hb dX6_shareOf_45 (by decide) ?_
        exact ih k2 (z + (-1)) _ (so_dec hz2) (by omega) (by omega) (so_step hz2 (by omega) hv) ls (lv_sub hl [2, 3, 1, 0] rfl)
  exact loop9 (k0 + 1) k0 _ 0 (by rw [htk]) (by omega) (by omega) rfl ls (lv_sub hl [2, 3, 1, 0] rfl)

set_option maxHeartbeats 4000000 in
set_option maxRecDepth 100000 in
theorem c_X6_gift (l : Launch) (D : va_G) (cA : Nat → ClassId) (tt : Nat) (g : Nat) (ts : Int32) (tk : Int32) (tco : Nat) (t4 : Nat) (t5 : Nat) (t6 : Nat) (tv : Int32) (gvn : Nat → Int32) (gf : Nat → Nat → Int32) (ra : Nat) (t0 : Nat) (j : Int32) (i : Int32) (hts0 : ts = nI t0) (ht5 : t0 ≤ 5) : Met l yX6_gift wsX6_gift ({ frames := 2, cells := 0, slots := 0, locals := 42 }) (rPc vwCl D cA ([(tt, .inr (5, [.ref g, .int ts, .int tk, .ref tco, .ref t4, .ref t5, .ref t6, .int tv])), (t4, .inl (cA 1, (t0 + 1), .inl gvn)), (t5, .inl (cA 4, (t0 + 1), .inr (.inr (.inr (.inr (fun k => some (ra + k)))))))] ++ (rwT cA ra gf (t0 + 1))) [.ref tt, .int j, .int i]) (rq_x (some (.int (gft gvn gf ts j i)))) 0 0 (fun _ => False) := by
  refine Met.ofW (cc := cX6_gift) (maxL := 3) (ret := (some .int)) (by decide) rfl ?_
  intro p e s m args below meth c s₁ B hml hv
  obtain ⟨rfl, hP, hK⟩ := hv
  have hx := B.exec
  have hb := B.bytes
  have hr := B.returns
  have hts := atoms_spec (ws := wsX6_gift) B.pre
  have hown : s.vm.findClass RX6 = some m.cls := findClass_of_methodNamed B.named
  have hlocks := B.notSynchronized
  have hin_X6 : ∀ w ∈ wsX60, w ∈ wsX6_gift := fun w h => List.mem_cons_of_mem _ (List.mem_append_right _ h)
  have w_RX6_50 := hts (.fieldLink RX6 50 "MixElection$Trustees" "gifts" "[[I") (by decide +kernel)
  have hl := lv_entry ([.ref tt, .int j, .int i]) (n := 3) (Nat.le_of_ble_eq_true rfl)
  rw [lg_entry_eq]
  generalize (lg_sl ([.ref tt, .int j, .int i]) ++ List.replicate (3 - (lg_sl ([.ref tt, .int j, .int i])).length) Slot.unset).toArray = ls at hl ⊢
  have hl : lv_has ls 3 [(0, .ref tt), (1, .int j), (2, .int i)] := hl
  refine lv_aload_n hx hb dX6_gift_0 rfl (lv_at hl 0 rfl) ?_
  refine lv_iload_n hx hb dX6_gift_1 rfl (lv_at hl 1 rfl) ?_
  refine rq_call1 (v := .int (bI ((1 ≤ j ∧ j ≤ ts) ∧ ¬ gvn j.toNatClampNeg = 0))) (rn_V (As := [.int j]) (rest := []) (ci := 5) (fs := [.ref g, .int ts, .int tk, .ref tco, .ref t4, .ref t5, .ref t6, .int tv]) ⟨hx, hb, hml, hown, hts⟩ (c_X6_gave l D cA tt g ts tk tco t4 t5 t6 tv j gvn t0 hts0 ht5) rfl (cwV 1 hts gX6_gift_X6_gave rfl rfl rfl (by decide +kernel) ⟨Nat.le_of_ble_eq_true rfl, Nat.le_of_ble_eq_true rfl⟩) hK hP [0, 1] rfl rfl rfl hl.1 rfl (Nat.le_of_ble_eq_true rfl) dX6_gift_2 ⟨Nat.le_of_ble_eq_true rfl, Nat.le_of_ble_eq_true rfl⟩) ?_
  refine lv_if_eq (tgt := 29) hx hb dX6_gift_5 (by decide) (fun c_5 => ?_) (fun c_5 => ?_)
  · skip
    refine lv_iconst (v := (-1)) hx hb dX6_gift_29 (by decide) ?_
    exact W.iret (v := (-1)) hx hb hr (fun t ht hW => ⟨congrArg (fun z => Outcome.returned (some (Value.int z))) ((by rw [gft, if_neg (fun h => bI_0 c_5 h.1)])), ht⟩) (fun _ h => by cases h) dX6_gift_30
  · skip
    refine lv_iload_n hx hb dX6_gift_8 rfl (lv_at hl 2 rfl) ?_
    refine lv_if_lt (tgt := 29) hx hb dX6_gift_9 (by decide) (fun c_9 => ?_) (fun c_9 => ?_)
    · skip
      refine lv_iconst (v := (-1)) hx hb dX6_gift_29 (by decide) ?_
      exact W.iret (v := (-1)) hx hb hr (fun t ht hW => ⟨congrArg (fun z => Outcome.returned (some (Value.int z))) ((by rw [gft, if_neg (fun h => absurd c_9 (Int32.not_lt.mpr h.2.1))])), ht⟩) (fun _ h => by cases h) dX6_gift_30
    · skip
      refine lv_iload_n hx hb dX6_gift_12 rfl (lv_at hl 2 rfl) ?_
      refine lv_bipush (v := 40) hx hb dX6_gift_13 (by decide) ?_
      refine lv_icmp_ge (tgt := 29) hx hb dX6_gift_15 (by decide) (fun c_15 => ?_) (fun c_15 => ?_)
      · skip
        refine lv_iconst (v := (-1)) hx hb dX6_gift_29 (by decide) ?_
        exact W.iret (v := (-1)) hx hb hr (fun t ht hW => ⟨congrArg (fun z => Outcome.returned (some (Value.int z))) ((by rw [gft, if_neg (fun h => absurd h.2.2 (Int32.not_lt.mpr c_15))])), ht⟩) (fun _ h => by cases h) dX6_gift_30
      · skip
        refine lv_aload_n hx hb dX6_gift_18 rfl (lv_at hl 0 rfl) ?_
        refine va_get (D := D) (ci := 5) (v := .ref t5) (C := RX6) (T := TX6) (N := 8) hx hb hts hin_X6 hown hK hP 0 rfl rfl 5 (by decide) (w_RX6_50) (fun _ h9 => h9) rfl dX6_gift_19 ?_
        refine lv_iload_n hx hb dX6_gift_22 rfl (lv_at hl 1 rfl) ?_
        refine va_aldg (v := (ra + j.toNatClampNeg)) hx hb hK hP 2 4 rfl rfl (gv_i1 (bI_1 c_5).1 hts0 ht5) rfl dX6_gift_23 ?_
        refine lv_iload_n hx hb dX6_gift_24 rfl (lv_at hl 2 rfl) ?_
        refine va_iald hx hb hK hP (3 + j.toNatClampNeg) 0 (rwT_at rfl (gv_lt (bI_1 c_5).1 hts0 ht5)) rfl (ix_in ⟨Int32.not_lt.mp c_9, Int32.not_le.mp c_15⟩ (rfl : (40 : Int32) = nI 40) (Nat.le_refl _)) dX6_gift_25 ?_
        refine lv_goto (tgt := 30) hx hb dX6_gift_26 (by decide) ?_
        exact W.iret (v := (gf j.toNatClampNeg i.toNatClampNeg)) hx hb hr (fun t ht hW => ⟨congrArg (fun z => Outcome.returned (some (Value.int z))) ((by rw [gft, if_pos ⟨bI_1 c_5, Int32.not_lt.mp c_9, Int32.not_le.mp c_15⟩])), ht⟩) (fun _ h => by cases h) dX6_gift_30

set_option maxHeartbeats 4000000 in
set_option maxRecDepth 100000 in
theorem c_X6_digest (l : Launch) (D : va_G) (cA : Nat → ClassId) (tt : Nat) (g : Nat) (ts : Int32) (tk : Int32) (tco : Nat) (t4 : Nat) (t5 : Nat) (t6 : Nat) (tv : Int32) (gvn : Nat → Int32) (gf : Nat → Nat → Int32) (ra : Nat) (t0 : Nat) (j : Int32) (n : Int32) (n0 : Nat) (hts0 : ts = nI t0) (ht5 : t0 ≤ 5) (hn : n = nI n0) (hn4 : n0 ≤ 40) (hgv : (1 ≤ j ∧ j ≤ ts) ∧ ¬ gvn j.toNatClampNeg = 0) : Met l yX6_digest wsX6_digest ({ frames := 3, cells := 0, slots := 0, locals := 64 }) (rPc vwCl D cA ([(tt, .inr (5, [.ref g, .int ts, .int tk, .ref tco, .ref t4, .ref t5, .ref t6, .int tv])), (t4, .inl (cA 1, (t0 + 1), .inl gvn)), (t5, .inl (cA 4, (t0 + 1), .inr (.inr (.inr (.inr (fun k => some (ra + k)))))))] ++ (rwT cA ra gf (t0 + 1))) [.ref tt, .int j, .int n]) (rq_x (some (.long (dg1 (gf j.toNatClampNeg) n0)))) 0 0 (fun _ => False) := by
  refine Met.ofW (cc := cX6_digest) (maxL := 6) (ret := (some .long)) (by decide) rfl ?_
  intro p e s m args below meth c s₁ B hml hv
  obtain ⟨rfl, hP, hK⟩ := hv
  have hx := B.exec
  have hb := B.bytes
  have hr := B.returns
  have hts := atoms_spec (ws := wsX6_digest) B.pre
  have hown : s.vm.findClass RX6 = some m.cls := findClass_of_methodNamed B.named
  have hlocks := B.notSynchronized
  have hl := lv_entry ([.ref tt, .int j, .int n]) (n := 6) (Nat.le_of_ble_eq_true rfl)
  rw [lg_entry_eq]
  generalize (lg_sl ([.ref tt, .int j, .int n]) ++ List.replicate (6 - (lg_sl ([.ref tt, .int j, .int n])).length) Slot.unset).toArray = ls at hl ⊢
  have hl : lv_has ls 6 [(0, .ref tt), (1, .int j), (2, .int n)] := hl
  refine lv_lconst (v := 0) hx hb dX6_digest_0 (by decide) ?_
  refine lv_lstore_n (lv' := [(3, .long 0), (0, .ref tt), (1, .int j), (2, .int n)]) hx hb dX6_digest_1 rfl hl (by decide) rfl (fun ls hl => ?_)
  refine lv_iconst (v := 0) hx hb dX6_digest_2 (by decide) ?_
  refine lv_istore (lv' := [(5, .int 0), (3, .long 0), (0, .ref tt), (1, .int j), (2, .int n)]) hx hb dX6_digest_3 hl (by decide) rfl (fun ls hl => ?_)
  have loop5 : ∀ (f_ k : Nat) (z : Int32) (d : Int64), z = nI k → n0 + 1 ≤ k + f_ → k ≤ n0 → d = dg1 (gf j.toNatClampNeg) k → ∀ ls : Array Slot, lv_has ls 6 [(0, .ref tt), (1, .int j), (2, .int n), (3, .long d), (5, .int z)] → W p l e (headSpec wsX6_digest ({ frames := 3, cells := 0, slots := 0, locals := 64 })).room s m [.ref tt, .int j, .int n].toArray below meth c s.heap [] 0 0 (MQ below (rq_x (some (.long (dg1 (gf j.toNatClampNeg) n0)))) [.ref tt, .int j, .int n].toArray s 0 0 (fun _ => False)) (F0 m 5 ls []) := by
    intro f
    induction f with
    | zero =>
      intro k z d hz h1 h2
      omega
    | succ f ih =>
      intro k z d hz h1 h2 hd ls hl
      refine lv_iload hx hb dX6_digest_5 (lv_at hl 4 rfl) ?_
      refine lv_iload_n hx hb dX6_digest_7 rfl (lv_at hl 2 rfl) ?_
      refine lv_icmp_ge (tgt := 30) hx hb dX6_digest_8 (by decide) (fun c_8 => ?_) (fun c_8 => ?_)
      · skip
        refine lv_lload_n hx hb dX6_digest_30 rfl (lv_at hl 3 rfl) ?_
        exact W.lret (v := d) hx hb hr (fun t ht hW => ⟨congrArg (fun z => Outcome.returned (some (Value.long z))) ((by rw [hd, lp_end hz hn (by omega) h2 c_8])), ht⟩) (fun _ h => by cases h) dX6_digest_31
      · skip
        refine lv_lload_n hx hb dX6_digest_11 rfl (lv_at hl 3 rfl) ?_
        refine lv_aload_n hx hb dX6_digest_12 rfl (lv_at hl 0 rfl) ?_
        refine lv_iload_n hx hb dX6_digest_13 rfl (lv_at hl 1 rfl) ?_
        refine lv_iload hx hb dX6_digest_14 (lv_at hl 4 rfl) ?_
        refine rq_call1 (v := .int (gft gvn gf ts j z)) (rn_VT (As := [.int j, .int z]) (rest := [.long d]) (ci := 5) (fs := [.ref g, .int ts, .int tk, .ref tco, .ref t4, .ref t5, .ref t6, .int tv]) (X := [(tt, .inr (5, [.ref g, .int ts, .int tk, .ref tco, .ref t4, .ref t5, .ref t6, .int tv])), (t4, .inl (cA 1, (t0 + 1), .inl gvn)), (t5, .inl (cA 4, (t0 + 1), .inr (.inr (.inr (.inr (fun k => some (ra + k)))))))]) (cx := [(tt, .inr (5, [.ref g, .int ts, .int tk, .ref tco, .ref t4, .ref t5, .ref t6, .int tv])), (t4, .inl (cA 1, (t0 + 1), .inl gvn)), (t5, .inl (cA 4, (t0 + 1), .inr (.inr (.inr (.inr (fun k => some (ra + k)))))))]) (pl := (rwT cA ra gf (t0 + 1))) ⟨hx, hb, hml, hown, hts⟩ (c_X6_gift l D cA tt g ts tk tco t4 t5 t6 tv gvn gf ra t0 j z hts0 ht5) rfl (cwV 2 hts gX6_digest_X6_gift rfl rfl rfl (by decide +kernel) ⟨Nat.le_of_ble_eq_true rfl, Nat.le_of_ble_eq_true rfl⟩) hK hP [0, 1, 2] rfl rfl rfl hl.1 rfl (Nat.le_of_ble_eq_true rfl) dX6_digest_16 ⟨Nat.le_of_ble_eq_true rfl, Nat.le_of_ble_eq_true rfl⟩) ?_
        rw [gft_n hgv hz (show k < 40 from Nat.lt_of_lt_of_le (lp_lt hz hn (by omega) h2 c_8) hn4)]
        refine lv_i2l hx hb dX6_digest_19 rfl ?_
        refine rq_call1 (v := .long (dg d ((gf j.toNatClampNeg k).toInt64))) (rn_S (As := [.long d, .long (gf j.toNatClampNeg k).toInt64]) (rest := []) ⟨hx, hb, hml, hown, hts⟩ (c_X3_digested l D cA d ((gf j.toNatClampNeg k).toInt64)) (va_cwS 2 hts gX6_digest_X3_digested rfl rfl rfl (by decide +kernel) ⟨Nat.le_of_ble_eq_true rfl, Nat.le_of_ble_eq_true rfl⟩) hK hP [] rfl rfl hl.1 rfl (Nat.le_of_ble_eq_true rfl) dX6_digest_20 ⟨Nat.le_of_ble_eq_true rfl, Nat.le_of_ble_eq_true rfl⟩) ?_
        refine lv_lstore_n (lv' := [(3, .long (dg d ((gf j.toNatClampNeg k).toInt64))), (0, .ref tt), (1, .int j), (2, .int n), (5, .int z)]) hx hb dX6_digest_23 rfl hl (by decide) rfl (fun ls hl => ?_)
        refine lv_iinc (v := (z + 1)) (lv' := [(5, .int (z + 1)), (3, .long (dg d ((gf j.toNatClampNeg k).toInt64))), (0, .ref tt), (1, .int j), (2, .int n)]) hx hb dX6_digest_24 hl (k := 4) rfl rfl (by decide) rfl (fun ls hl => ?_)
        refine lv_goto (tgt := 5) hx hb dX6_digest_27 (by decide) ?_
        have hk := lp_lt hz hn (by omega) h2 c_8
        exact ih (k + 1) (z + 1) _ (st_1 hz) (by omega) (by omega) (by rw [hd]; rfl) ls (lv_sub hl [2, 3, 4, 1, 0] rfl)
  exact loop5 (n0 + 1) 0 0 0 rfl (by omega) (by omega) rfl ls (lv_sub hl [2, 3, 4, 1, 0] rfl)

set_option maxHeartbeats 4000000 in
set_option maxRecDepth 100000 in
theorem c_X6_give (l : Launch) (D : va_G) (cA : Nat → ClassId) (tt : Nat) (g : Nat) (ts : Int32) (tk : Int32) (tco : Nat) (t4 : Nat) (t5 : Nat) (t6 : Nat) (tv : Int32) (gp : Int32) (gq : Int32) (gh : Int32) (o1 : Nat) (oa1 : Nat) (ob1 : Nat) (ra : Nat) (t0 : Nat) (k0 : Nat) (n0 : Nat) (e0 : Nat) (j : Int32) (n : Int32) (cf : Nat → Int32) (gvn : Nat → Int32) (sa : Nat → Int32) (sb : Nat → Int32) (gf : Nat → Nat → Int32) (hts0 : ts = nI t0) (ht5 : t0 ≤ 5) (htk : tk = nI k0) (hk5 : k0 ≤ 5) (hgq : 0 < gq) (hgp : 0 < gp) (hn : n = nI n0) (hn4 : n0 ≤ 40) (hmay : (1 ≤ j ∧ j ≤ ts) ∧ gvn j.toNatClampNeg = 0) (he0 : shr gq j cf k0 0 = nI e0) (he9 : e0 < 2 ^ 31) : Met l yX6_give wsX6_give ({ frames := 3, cells := 0, slots := 0, locals := 69 }) (wPc vwCl D cA ([(tt, .inr (5, [.ref g, .int ts, .int tk, .ref tco, .ref t4, .ref t5, .ref t6, .int tv])), (g, .inr (1, [.int gp, .int gq, .int gh])), (tco, .inl (cA 0, k0, .inl cf)), (t4, .inl (cA 1, (t0 + 1), .inl gvn)), (t5, .inl (cA 4, (t0 + 1), .inr (.inr (.inr (.inr (fun k => some (ra + k))))))), (o1, .inr (3, [.ref oa1, .ref ob1])), (oa1, .inl (cA 0, 40, .inl sa)), (ob1, .inl (cA 0, 40, .inl sb))] ++ (rwT cA ra gf (t0 + 1))) [.ref tt, .int j, .ref o1, .int n]) (wq_x vwCl D ([(tt, .inr (5, [.ref g, .int ts, .int tk, .ref tco, .ref t4, .ref t5, .ref t6, .int (tv + 1)])), (g, .inr (1, [.int gp, .int gq, .int gh])), (tco, .inl (cA 0, k0, .inl cf)), (t4, .inl (cA 1, (t0 + 1), .inl (upd gvn j.toNatClampNeg (vp_nar .boolean 1)))), (t5, .inl (cA 4, (t0 + 1), .inr (.inr (.inr (.inr (fun k => some (ra + k))))))), (o1, .inr (3, [.ref oa1, .ref ob1])), (oa1, .inl (cA 0, 40, .inl sa)), (ob1, .inl (cA 0, 40, .inl sb))] ++ (rwT cA ra (upr gf j.toNatClampNeg (scat (fun i => i) (fun i => pw gp 32 e0 1 (sa i)) (gf j.toNatClampNeg) n0)) (t0 + 1))) none (wA ([(tt, .inr (5, [.ref g, .int ts, .int tk, .ref tco, .ref t4, .ref t5, .ref t6, .int tv])), (g, .inr (1, [.int gp, .int gq, .int gh])), (tco, .inl (cA 0, k0, .inl cf)), (t4, .inl (cA 1, (t0 + 1), .inl gvn)), (t5, .inl (cA 4, (t0 + 1), .inr (.inr (.inr (.inr (fun k => some (ra + k))))))), (o1, .inr (3, [.ref oa1, .ref ob1])), (oa1, .inl (cA 0, 40, .inl sa)), (ob1, .inl (cA 0, 40, .inl sb))] ++ (rwT cA ra gf (t0 + 1))))) 0 0 (wA ([(tt, .inr (5, [.ref g, .int ts, .int tk, .ref tco, .ref t4, .ref t5, .ref t6, .int tv])), (g, .inr (1, [.int gp, .int gq, .int gh])), (tco, .inl (cA 0, k0, .inl cf)), (t4, .inl (cA 1, (t0 + 1), .inl gvn)), (t5, .inl (cA 4, (t0 + 1), .inr (.inr (.inr (.inr (fun k => some (ra + k))))))), (o1, .inr (3, [.ref oa1, .ref ob1])), (oa1, .inl (cA 0, 40, .inl sa)), (ob1, .inl (cA 0, 40, .inl sb))] ++ (rwT cA ra gf (t0 + 1)))) := by
  refine Met.ofW (cc := cX6_give) (maxL := 6) (ret := none) (by decide) rfl ?_
  intro p e s m args below meth c s₁ B hml hv
  obtain ⟨rfl, hP, hK, hD0⟩ := hv
  have hx := B.exec
  have hb := B.bytes
  have hr := B.returns
  have hts := atoms_spec (ws := wsX6_give) B.pre
  have hown : s.vm.findClass RX6 = some m.cls := findClass_of_methodNamed B.named
  have hlocks := B.notSynchronized
  have hin_X6 : ∀ w ∈ wsX60, w ∈ wsX6_give := fun w h => List.mem_cons_of_mem _ (List.mem_append_left _ (List.mem_append_left _ (List.mem_append_right _ h)))
  have w_RX6_44 := hts (.fieldLink RX6 44 "MixElection$Trustees" "hasGiven" "[Z") (by decide +kernel)
  have w_RX6_56 := hts (.fieldLink RX6 56 "MixElection$Trustees" "givers" "I") (by decide +kernel)
  have w_RX6_50 := hts (.fieldLink RX6 50 "MixElection$Trustees" "gifts" "[[I") (by decide +kernel)
  have w_RX6_9 := hts (.fieldLink RX6 9 "MixElection$Trustees" "group" "LMixElection$Group;") (by decide +kernel)
  have hD : va_D (wA ([(tt, .inr (5, [.ref g, .int ts, .int tk, .ref tco, .ref t4, .ref t5, .ref t6, .int tv])), (g, .inr (1, [.int gp, .int gq, .int gh])), (tco, .inl (cA 0, k0, .inl cf)), (t4, .inl (cA 1, (t0 + 1), .inl gvn)), (t5, .inl (cA 4, (t0 + 1), .inr (.inr (.inr (.inr (fun k => some (ra + k))))))), (o1, .inr (3, [.ref oa1, .ref ob1])), (oa1, .inl (cA 0, 40, .inl sa)), (ob1, .inl (cA 0, 40, .inl sb))] ++ (rwT cA ra gf (t0 + 1)))) ([(tt, .inr (5, [.ref g, .int ts, .int tk, .ref tco, .ref t4, .ref t5, .ref t6, .int tv])), (g, .inr (1, [.int gp, .int gq, .int gh])), (tco, .inl (cA 0, k0, .inl cf)), (t4, .inl (cA 1, (t0 + 1), .inl gvn)), (t5, .inl (cA 4, (t0 + 1), .inr (.inr (.inr (.inr (fun k => some (ra + k))))))), (o1, .inr (3, [.ref oa1, .ref ob1])), (oa1, .inl (cA 0, 40, .inl sa)), (ob1, .inl (cA 0, 40, .inl sb))] ++ (rwT cA ra gf (t0 + 1))) := ⟨hD0.1, fun k q h => List.mem_map.mpr ⟨q, List.mem_of_getElem? h, rfl⟩⟩
  have hS : va_S (wA ([(tt, .inr (5, [.ref g, .int ts, .int tk, .ref tco, .ref t4, .ref t5, .ref t6, .int tv])), (g, .inr (1, [.int gp, .int gq, .int gh])), (tco, .inl (cA 0, k0, .inl cf)), (t4, .inl (cA 1, (t0 + 1), .inl gvn)), (t5, .inl (cA 4, (t0 + 1), .inr (.inr (.inr (.inr (fun k => some (ra + k))))))), (o1, .inr (3, [.ref oa1, .ref ob1])), (oa1, .inl (cA 0, 40, .inl sa)), (ob1, .inl (cA 0, 40, .inl sb))] ++ (rwT cA ra gf (t0 + 1)))) s.heap s.heap [] := va_S.rf
  generalize hAe : wA ([(tt, .inr (5, [.ref g, .int ts, .int tk, .ref tco, .ref t4, .ref t5, .ref t6, .int tv])), (g, .inr (1, [.int gp, .int gq, .int gh])), (tco, .inl (cA 0, k0, .inl cf)), (t4, .inl (cA 1, (t0 + 1), .inl gvn)), (t5, .inl (cA 4, (t0 + 1), .inr (.inr (.inr (.inr (fun k => some (ra + k))))))), (o1, .inr (3, [.ref oa1, .ref ob1])), (oa1, .inl (cA 0, 40, .inl sa)), (ob1, .inl (cA 0, 40, .inl sb))] ++ (rwT cA ra gf (t0 + 1))) = A at hD hS ⊢
  have hP : va_P D vwCl ([(tt, .inr (5, [.ref g, .int ts, .int tk, .ref tco, .ref t4, .ref t5, .ref t6, .int tv])), (g, .inr (1, [.int gp, .int gq, .int gh])), (tco, .inl (cA 0, k0, .inl cf)), (t4, .inl (cA 1, (t0 + 1), .inl gvn)), (t5, .inl (cA 4, (t0 + 1), .inr (.inr (.inr (.inr (fun k => some (ra + k))))))), (o1, .inr (3, [.ref oa1, .ref ob1])), (oa1, .inl (cA 0, 40, .inl sa)), (ob1, .inl (cA 0, 40, .inl sb))] ++ (rwT cA ra gf (t0 + 1))) s.heap := hP
  have hl := lv_entry ([.ref tt, .int j, .ref o1, .int n]) (n := 6) (Nat.le_of_ble_eq_true rfl)
  rw [lg_entry_eq]
  generalize (lg_sl ([.ref tt, .int j, .ref o1, .int n]) ++ List.replicate (6 - (lg_sl ([.ref tt, .int j, .ref o1, .int n])).length) Slot.unset).toArray = ls at hl ⊢
  have hl : lv_has ls 6 [(0, .ref tt), (1, .int j), (2, .ref o1), (3, .int n)] := hl
  refine lv_aload_n hx hb dX6_give_0 rfl (lv_at hl 0 rfl) ?_
  refine lv_iload_n hx hb dX6_give_1 rfl (lv_at hl 1 rfl) ?_
  refine rq_call1 (v := .int (bI ((1 ≤ j ∧ j ≤ ts) ∧ gvn j.toNatClampNeg = 0))) (rn_V (As := [.int j]) (rest := []) (ci := 5) (fs := [.ref g, .int ts, .int tk, .ref tco, .ref t4, .ref t5, .ref t6, .int tv]) ⟨hx, hb, hml, hown, hts⟩ (c_X6_mayGive l D cA tt g ts tk tco t4 t5 t6 tv j gvn t0 hts0 ht5) rfl (cwV 1 hts gX6_give_X6_mayGive rfl rfl rfl (by decide +kernel) ⟨Nat.le_of_ble_eq_true rfl, Nat.le_of_ble_eq_true rfl⟩) hK hP [0, 3] rfl rfl rfl hl.1 rfl (Nat.le_of_ble_eq_true rfl) dX6_give_2 ⟨Nat.le_of_ble_eq_true rfl, Nat.le_of_ble_eq_true rfl⟩) ?_
  refine lv_if_eq (tgt := 14) hx hb dX6_give_5 (by decide) (fun c_5 => ?_) (fun c_5 => ?_)
  · exact absurd hmay (bI_0 c_5)
  · skip
    refine lv_iload_n hx hb dX6_give_8 rfl (lv_at hl 3 rfl) ?_
    refine lv_bipush (v := 40) hx hb dX6_give_9 (by decide) ?_
    refine lv_icmp_le (tgt := 15) hx hb dX6_give_11 (by decide) (fun c_11 => ?_) (fun c_11 => ?_)
    · skip
      refine lv_aload_n hx hb dX6_give_15 rfl (lv_at hl 0 rfl) ?_
      refine lv_iload_n hx hb dX6_give_16 rfl (lv_at hl 1 rfl) ?_
      refine rq_call1 (v := .int (shr gq j cf k0 0)) (rn_V (As := [.int j]) (rest := []) (ci := 5) (fs := [.ref g, .int ts, .int tk, .ref tco, .ref t4, .ref t5, .ref t6, .int tv]) ⟨hx, hb, hml, hown, hts⟩ (c_X6_shareOf l D cA tt g ts tk tco t4 t5 t6 tv gp gq gh j k0 cf htk hk5 hgq) rfl (cwV 1 hts gX6_give_X6_shareOf rfl rfl rfl (by decide +kernel) ⟨Nat.le_of_ble_eq_true rfl, Nat.le_of_ble_eq_true rfl⟩) hK hP [0, 1, 2] rfl rfl rfl hl.1 rfl (Nat.le_of_ble_eq_true rfl) dX6_give_17 ⟨Nat.le_of_ble_eq_true rfl, Nat.le_of_ble_eq_true rfl⟩) ?_
      rw [he0]
      refine lv_istore (lv' := [(4, .int (nI e0)), (0, .ref tt), (1, .int j), (2, .ref o1), (3, .int n)]) hx hb dX6_give_20 hl (by decide) rfl (fun ls hl => ?_)
      refine lv_iconst (v := 0) hx hb dX6_give_22 (by decide) ?_
      refine lv_istore (lv' := [(5, .int 0), (4, .int (nI e0)), (0, .ref tt), (1, .int j), (2, .ref o1), (3, .int n)]) hx hb dX6_give_23 hl (by decide) rfl (fun ls hl => ?_)
      have loop25 : ∀ (f_ k : Nat) (z : Int32), z = nI k → n0 + 1 ≤ k + f_ → k ≤ n0 → ∀ (H : Heap) (locs : List Loc), va_P D vwCl ([(tt, .inr (5, [.ref g, .int ts, .int tk, .ref tco, .ref t4, .ref t5, .ref t6, .int tv])), (g, .inr (1, [.int gp, .int gq, .int gh])), (tco, .inl (cA 0, k0, .inl cf)), (t4, .inl (cA 1, (t0 + 1), .inl gvn)), (t5, .inl (cA 4, (t0 + 1), .inr (.inr (.inr (.inr (fun k => some (ra + k))))))), (o1, .inr (3, [.ref oa1, .ref ob1])), (oa1, .inl (cA 0, 40, .inl sa)), (ob1, .inl (cA 0, 40, .inl sb))] ++ (rwT cA ra (upr gf j.toNatClampNeg (scat (fun i => i) (fun i => pw gp 32 e0 1 (sa i)) (gf j.toNatClampNeg) k)) (t0 + 1))) H → va_D A ([(tt, .inr (5, [.ref g, .int ts, .int tk, .ref tco, .ref t4, .ref t5, .ref t6, .int tv])), (g, .inr (1, [.int gp, .int gq, .int gh])), (tco, .inl (cA 0, k0, .inl cf)), (t4, .inl (cA 1, (t0 + 1), .inl gvn)), (t5, .inl (cA 4, (t0 + 1), .inr (.inr (.inr (.inr (fun k => some (ra + k))))))), (o1, .inr (3, [.ref oa1, .ref ob1])), (oa1, .inl (cA 0, 40, .inl sa)), (ob1, .inl (cA 0, 40, .inl sb))] ++ (rwT cA ra (upr gf j.toNatClampNeg (scat (fun i => i) (fun i => pw gp 32 e0 1 (sa i)) (gf j.toNatClampNeg) k)) (t0 + 1))) → va_S A s.heap H locs → ∀ ls : Array Slot, lv_has ls 6 [(0, .ref tt), (1, .int j), (2, .ref o1), (3, .int n), (4, .int (nI e0)), (5, .int z)] → W p l e (headSpec wsX6_give ({ frames := 3, cells := 0, slots := 0, locals := 69 })).room s m [.ref tt, .int j, .ref o1, .int n].toArray below meth c H locs 0 0 (MQ below (wq_x vwCl D ([(tt, .inr (5, [.ref g, .int ts, .int tk, .ref tco, .ref t4, .ref t5, .ref t6, .int (tv + 1)])), (g, .inr (1, [.int gp, .int gq, .int gh])), (tco, .inl (cA 0, k0, .inl cf)), (t4, .inl (cA 1, (t0 + 1), .inl (upd gvn j.toNatClampNeg (vp_nar .boolean 1)))), (t5, .inl (cA 4, (t0 + 1), .inr (.inr (.inr (.inr (fun k => some (ra + k))))))), (o1, .inr (3, [.ref oa1, .ref ob1])), (oa1, .inl (cA 0, 40, .inl sa)), (ob1, .inl (cA 0, 40, .inl sb))] ++ (rwT cA ra (upr gf j.toNatClampNeg (scat (fun i => i) (fun i => pw gp 32 e0 1 (sa i)) (gf j.toNatClampNeg) n0)) (t0 + 1))) none A) [.ref tt, .int j, .ref o1, .int n].toArray s 0 0 A) (F0 m 25 ls []) := by
        intro f
        induction f with
        | zero =>
          intro k z hz h1 h2
          omega
        | succ f ih =>
          intro k z hz h1 h2 H locs hP hD hS ls hl
          refine lv_iload hx hb dX6_give_25 (lv_at hl 5 rfl) ?_
          refine lv_iload_n hx hb dX6_give_27 rfl (lv_at hl 3 rfl) ?_
          refine lv_icmp_ge (tgt := 61) hx hb dX6_give_28 (by decide) (fun c_28 => ?_) (fun c_28 => ?_)
          · skip
            refine lv_aload_n hx hb dX6_give_61 rfl (lv_at hl 0 rfl) ?_
            refine va_get (D := D) (ci := 5) (v := .ref t4) (C := RX6) (T := TX6) (N := 8) hx hb hts hin_X6 hown hK hP 0 rfl rfl 4 (by decide) (w_RX6_44) (fun _ h9 => h9) rfl dX6_give_62 ?_
            refine lv_iload_n hx hb dX6_give_65 rfl (lv_at hl 1 rfl) ?_
            refine lv_iconst (v := 1) hx hb dX6_give_66 (by decide) ?_
            refine va_zast hx hb hK hP hD hS 3 1 rfl rfl (gv_i1 hmay.1 hts0 ht5) dX6_give_67 (fun H locs hP hD hS => ?_)
            have hP : va_P D vwCl ([(tt, .inr (5, [.ref g, .int ts, .int tk, .ref tco, .ref t4, .ref t5, .ref t6, .int tv])), (g, .inr (1, [.int gp, .int gq, .int gh])), (tco, .inl (cA 0, k0, .inl cf)), (t4, .inl (cA 1, (t0 + 1), .inl (upd gvn j.toNatClampNeg (vp_nar .boolean 1)))), (t5, .inl (cA 4, (t0 + 1), .inr (.inr (.inr (.inr (fun k => some (ra + k))))))), (o1, .inr (3, [.ref oa1, .ref ob1])), (oa1, .inl (cA 0, 40, .inl sa)), (ob1, .inl (cA 0, 40, .inl sb))] ++ (rwT cA ra (upr gf j.toNatClampNeg (scat (fun i => i) (fun i => pw gp 32 e0 1 (sa i)) (gf j.toNatClampNeg) k)) (t0 + 1))) H := hP
            have hD : va_D A ([(tt, .inr (5, [.ref g, .int ts, .int tk, .ref tco, .ref t4, .ref t5, .ref t6, .int tv])), (g, .inr (1, [.int gp, .int gq, .int gh])), (tco, .inl (cA 0, k0, .inl cf)), (t4, .inl (cA 1, (t0 + 1), .inl (upd gvn j.toNatClampNeg (vp_nar .boolean 1)))), (t5, .inl (cA 4, (t0 + 1), .inr (.inr (.inr (.inr (fun k => some (ra + k))))))), (o1, .inr (3, [.ref oa1, .ref ob1])), (oa1, .inl (cA 0, 40, .inl sa)), (ob1, .inl (cA 0, 40, .inl sb))] ++ (rwT cA ra (upr gf j.toNatClampNeg (scat (fun i => i) (fun i => pw gp 32 e0 1 (sa i)) (gf j.toNatClampNeg) k)) (t0 + 1))) := hD
            refine lv_aload_n hx hb dX6_give_68 rfl (lv_at hl 0 rfl) ?_
            refine lv_dup hx hb dX6_give_69 rfl ?_
            refine va_get (D := D) (ci := 5) (v := .int tv) (C := RX6) (T := TX6) (N := 8) hx hb hts hin_X6 hown hK hP 0 rfl rfl 7 (by decide) (w_RX6_56) (fun _ h9 => h9) rfl dX6_give_70 ?_
            refine lv_iconst (v := 1) hx hb dX6_give_73 (by decide) ?_
            refine lv_iadd hx hb dX6_give_74 ?_
            refine va_put (D := D) (ci := 5) (v := .int (tv + 1)) (ty := .int) (C := RX6) (T := TX6) (N := 8) hx hb hts hin_X6 tyX6 tyX6_ok nmX6 hown hK hP hD hS 0 rfl rfl 7 (by decide) (w_RX6_56) (fun _ h9 => h9) rfl (by decide +kernel) rfl rfl (Nat.le_of_ble_eq_true rfl) dX6_give_75 (fun H locs hP hD hS => ?_)
            have hP : va_P D vwCl ([(tt, .inr (5, [.ref g, .int ts, .int tk, .ref tco, .ref t4, .ref t5, .ref t6, .int (tv + 1)])), (g, .inr (1, [.int gp, .int gq, .int gh])), (tco, .inl (cA 0, k0, .inl cf)), (t4, .inl (cA 1, (t0 + 1), .inl (upd gvn j.toNatClampNeg (vp_nar .boolean 1)))), (t5, .inl (cA 4, (t0 + 1), .inr (.inr (.inr (.inr (fun k => some (ra + k))))))), (o1, .inr (3, [.ref oa1, .ref ob1])), (oa1, .inl (cA 0, 40, .inl sa)), (ob1, .inl (cA 0, 40, .inl sb))] ++ (rwT cA ra (upr gf j.toNatClampNeg (scat (fun i => i) (fun i => pw gp 32 e0 1 (sa i)) (gf j.toNatClampNeg) k)) (t0 + 1))) H := hP
            have hD : va_D A ([(tt, .inr (5, [.ref g, .int ts, .int tk, .ref tco, .ref t4, .ref t5, .ref t6, .int (tv + 1)])), (g, .inr (1, [.int gp, .int gq, .int gh])), (tco, .inl (cA 0, k0, .inl cf)), (t4, .inl (cA 1, (t0 + 1), .inl (upd gvn j.toNatClampNeg (vp_nar .boolean 1)))), (t5, .inl (cA 4, (t0 + 1), .inr (.inr (.inr (.inr (fun k => some (ra + k))))))), (o1, .inr (3, [.ref oa1, .ref ob1])), (oa1, .inl (cA 0, 40, .inl sa)), (ob1, .inl (cA 0, 40, .inl sb))] ++ (rwT cA ra (upr gf j.toNatClampNeg (scat (fun i => i) (fun i => pw gp 32 e0 1 (sa i)) (gf j.toNatClampNeg) k)) (t0 + 1))) := hD
            have hP9 : va_P D vwCl ([(tt, .inr (5, [.ref g, .int ts, .int tk, .ref tco, .ref t4, .ref t5, .ref t6, .int (tv + 1)])), (g, .inr (1, [.int gp, .int gq, .int gh])), (tco, .inl (cA 0, k0, .inl cf)), (t4, .inl (cA 1, (t0 + 1), .inl (upd gvn j.toNatClampNeg (vp_nar .boolean 1)))), (t5, .inl (cA 4, (t0 + 1), .inr (.inr (.inr (.inr (fun k => some (ra + k))))))), (o1, .inr (3, [.ref oa1, .ref ob1])), (oa1, .inl (cA 0, 40, .inl sa)), (ob1, .inl (cA 0, 40, .inl sb))] ++ (rwT cA ra (upr gf j.toNatClampNeg (scat (fun i => i) (fun i => pw gp 32 e0 1 (sa i)) (gf j.toNatClampNeg) n0)) (t0 + 1))) H := (by rw [← lp_end hz hn (by omega) h2 c_28]; exact hP)
            exact W.vret hx hb hr (fun t ht hW => ⟨rfl, by rw [ht]; exact hP9, hS.F ht⟩) hS.2.2 dX6_give_78
          · skip
            refine lv_aload_n hx hb dX6_give_31 rfl (lv_at hl 0 rfl) ?_
            refine va_get (D := D) (ci := 5) (v := .ref t5) (C := RX6) (T := TX6) (N := 8) hx hb hts hin_X6 hown hK hP 0 rfl rfl 5 (by decide) (w_RX6_50) (fun _ h9 => h9) rfl dX6_give_32 ?_
            refine lv_iload_n hx hb dX6_give_35 rfl (lv_at hl 1 rfl) ?_
            refine va_aldg (v := (ra + j.toNatClampNeg)) hx hb hK hP 4 4 rfl rfl (gv_i1 hmay.1 hts0 ht5) rfl dX6_give_36 ?_
            refine lv_iload hx hb dX6_give_37 (lv_at hl 5 rfl) ?_
            refine lv_aload_n hx hb dX6_give_39 rfl (lv_at hl 0 rfl) ?_
            refine va_get (D := D) (ci := 5) (v := .ref g) (C := RX6) (T := TX6) (N := 8) hx hb hts hin_X6 hown hK hP 0 rfl rfl 0 (by decide) (w_RX6_9) (fun _ h9 => h9) rfl dX6_give_40 ?_
            refine lv_aload_n hx hb dX6_give_43 rfl (lv_at hl 2 rfl) ?_
            refine lv_iload hx hb dX6_give_44 (lv_at hl 5 rfl) ?_
            refine rq_call1 (v := .int (g40 sa z)) (rn_V (As := [.int z]) (rest := [.ref g, .int z, .ref (ra + j.toNatClampNeg)]) (ci := 3) (fs := [.ref oa1, .ref ob1]) ⟨hx, hb, hml, hown, hts⟩ (c_X4_first l D cA o1 oa1 ob1 sa sb z) rfl (cwV 1 hts gX6_give_X4_first rfl rfl rfl (by decide +kernel) ⟨Nat.le_of_ble_eq_true rfl, Nat.le_of_ble_eq_true rfl⟩) hK hP [5, 6, 7] rfl rfl rfl hl.1 rfl (Nat.le_of_ble_eq_true rfl) dX6_give_46 ⟨Nat.le_of_ble_eq_true rfl, Nat.le_of_ble_eq_true rfl⟩) ?_
            rw [g40_n hz (show k < 40 from Nat.lt_of_lt_of_le (lp_lt hz hn (by omega) h2 c_28) hn4)]
            refine lv_iload hx hb dX6_give_49 (lv_at hl 4 rfl) ?_
            refine rq_call1 (v := .int (pw gp 32 e0 1 (sa k))) (rn_V (As := [.int (sa k), .int (nI e0)]) (rest := [.int z, .ref (ra + j.toNatClampNeg)]) (ci := 1) (fs := [.int gp, .int gq, .int gh]) ⟨hx, hb, hml, hown, hts⟩ (c_X1_raised l D cA g gp gq gh (sa k) (nI e0) e0 rfl he9 hgp) rfl (cwV 2 hts gX6_give_X1_raised rfl rfl rfl (by decide +kernel) ⟨Nat.le_of_ble_eq_true rfl, Nat.le_of_ble_eq_true rfl⟩) hK hP [1] rfl rfl rfl hl.1 rfl (Nat.le_of_ble_eq_true rfl) dX6_give_51 ⟨Nat.le_of_ble_eq_true rfl, Nat.le_of_ble_eq_true rfl⟩) ?_
            refine va_iast hx hb hK hP hD hS (8 + j.toNatClampNeg) 0 (rwT_at rfl (gv_lt hmay.1 hts0 ht5)) rfl (by rw [hz]; exact vp_in_nI (Nat.lt_of_lt_of_le (lp_lt hz hn (by omega) h2 c_28) hn4) (by omega)) dX6_give_54 (fun H locs hP hD hS => ?_)
            rw [rwT_set (k := 8 + j.toNatClampNeg) (j := j.toNatClampNeg) (X := [(tt, .inr (5, [.ref g, .int ts, .int tk, .ref tco, .ref t4, .ref t5, .ref t6, .int tv])), (g, .inr (1, [.int gp, .int gq, .int gh])), (tco, .inl (cA 0, k0, .inl cf)), (t4, .inl (cA 1, (t0 + 1), .inl gvn)), (t5, .inl (cA 4, (t0 + 1), .inr (.inr (.inr (.inr (fun k => some (ra + k))))))), (o1, .inr (3, [.ref oa1, .ref ob1])), (oa1, .inl (cA 0, 40, .inl sa)), (ob1, .inl (cA 0, 40, .inl sb))]) rfl] at hP hD
            have hP : va_P D vwCl ([(tt, .inr (5, [.ref g, .int ts, .int tk, .ref tco, .ref t4, .ref t5, .ref t6, .int tv])), (g, .inr (1, [.int gp, .int gq, .int gh])), (tco, .inl (cA 0, k0, .inl cf)), (t4, .inl (cA 1, (t0 + 1), .inl gvn)), (t5, .inl (cA 4, (t0 + 1), .inr (.inr (.inr (.inr (fun k => some (ra + k))))))), (o1, .inr (3, [.ref oa1, .ref ob1])), (oa1, .inl (cA 0, 40, .inl sa)), (ob1, .inl (cA 0, 40, .inl sb))] ++ (rwT cA ra (upr (upr gf j.toNatClampNeg (scat (fun i => i) (fun i => pw gp 32 e0 1 (sa i)) (gf j.toNatClampNeg) k)) j.toNatClampNeg (upd ((upr gf j.toNatClampNeg (scat (fun i => i) (fun i => pw gp 32 e0 1 (sa i)) (gf j.toNatClampNeg) k)) j.toNatClampNeg) z.toNatClampNeg (pw gp 32 e0 1 (sa k)))) (t0 + 1))) H := hP
            have hD : va_D A ([(tt, .inr (5, [.ref g, .int ts, .int tk, .ref tco, .ref t4, .ref t5, .ref t6, .int tv])), (g, .inr (1, [.int gp, .int gq, .int gh])), (tco, .inl (cA 0, k0, .inl cf)), (t4, .inl (cA 1, (t0 + 1), .inl gvn)), (t5, .inl (cA 4, (t0 + 1), .inr (.inr (.inr (.inr (fun k => some (ra + k))))))), (o1, .inr (3, [.ref oa1, .ref ob1])), (oa1, .inl (cA 0, 40, .inl sa)), (ob1, .inl (cA 0, 40, .inl sb))] ++ (rwT cA ra (upr (upr gf j.toNatClampNeg (scat (fun i => i) (fun i => pw gp 32 e0 1 (sa i)) (gf j.toNatClampNeg) k)) j.toNatClampNeg (upd ((upr gf j.toNatClampNeg (scat (fun i => i) (fun i => pw gp 32 e0 1 (sa i)) (gf j.toNatClampNeg) k)) j.toNatClampNeg) z.toNatClampNeg (pw gp 32 e0 1 (sa k)))) (t0 + 1))) := hD
            refine lv_iinc (v := (z + 1)) (lv' := [(5, .int (z + 1)), (0, .ref tt), (1, .int j), (2, .ref o1), (3, .int n), (4, .int (nI e0))]) hx hb dX6_give_55 hl (k := 5) rfl rfl (by decide) rfl (fun ls hl => ?_)
            refine lv_goto (tgt := 25) hx hb dX6_give_58 (by decide) ?_
            have e9 : (upr (upr gf j.toNatClampNeg (scat (fun i => i) (fun i => pw gp 32 e0 1 (sa i)) (gf j.toNatClampNeg) k)) j.toNatClampNeg (upd ((upr gf j.toNatClampNeg (scat (fun i => i) (fun i => pw gp 32 e0 1 (sa i)) (gf j.toNatClampNeg) k)) j.toNatClampNeg) z.toNatClampNeg (pw gp 32 e0 1 (sa k)))) = (upr gf j.toNatClampNeg (scat (fun i => i) (fun i => pw gp 32 e0 1 (sa i)) (gf j.toNatClampNeg) (k + 1))) := gv_step hz (show k < 40 from Nat.lt_of_lt_of_le (lp_lt hz hn (by omega) h2 c_28) hn4)
            rw [e9] at hP hD
            clear e9
            have hP : va_P D vwCl ([(tt, .inr (5, [.ref g, .int ts, .int tk, .ref tco, .ref t4, .ref t5, .ref t6, .int tv])), (g, .inr (1, [.int gp, .int gq, .int gh])), (tco, .inl (cA 0, k0, .inl cf)), (t4, .inl (cA 1, (t0 + 1), .inl gvn)), (t5, .inl (cA 4, (t0 + 1), .inr (.inr (.inr (.inr (fun k => some (ra + k))))))), (o1, .inr (3, [.ref oa1, .ref ob1])), (oa1, .inl (cA 0, 40, .inl sa)), (ob1, .inl (cA 0, 40, .inl sb))] ++ (rwT cA ra (upr gf j.toNatClampNeg (scat (fun i => i) (fun i => pw gp 32 e0 1 (sa i)) (gf j.toNatClampNeg) (k + 1))) (t0 + 1))) H := hP
            have hD : va_D A ([(tt, .inr (5, [.ref g, .int ts, .int tk, .ref tco, .ref t4, .ref t5, .ref t6, .int tv])), (g, .inr (1, [.int gp, .int gq, .int gh])), (tco, .inl (cA 0, k0, .inl cf)), (t4, .inl (cA 1, (t0 + 1), .inl gvn)), (t5, .inl (cA 4, (t0 + 1), .inr (.inr (.inr (.inr (fun k => some (ra + k))))))), (o1, .inr (3, [.ref oa1, .ref ob1])), (oa1, .inl (cA 0, 40, .inl sa)), (ob1, .inl (cA 0, 40, .inl sb))] ++ (rwT cA ra (upr gf j.toNatClampNeg (scat (fun i => i) (fun i => pw gp 32 e0 1 (sa i)) (gf j.toNatClampNeg) (k + 1))) (t0 + 1))) := hD
            have hk := lp_lt hz hn (by omega) h2 c_28
            exact ih (k + 1) (z + 1) (st_1 hz) (by omega) (by omega) _ _ hP hD hS ls (lv_sub hl [1, 2, 3, 4, 5, 0] rfl)
      rw [gv_start gf j.toNatClampNeg (fun i => pw gp 32 e0 1 (sa i))] at hP hD
      exact loop25 (n0 + 1) 0 0 rfl (by omega) (by omega) _ _ hP hD hS ls (lv_sub hl [2, 3, 4, 5, 1, 0] rfl)
    · exact absurd (by rw [hn]; exact nI_le (b := 40) hn4 (by omega)) c_11

set_option maxHeartbeats 4000000 in
set_option maxRecDepth 100000 in
theorem c_X6_lastNeededGiver (l : Launch) (D : va_G) (cA : Nat → ClassId) (tt : Nat) (g : Nat) (ts : Int32) (tk : Int32) (tco : Nat) (t4 : Nat) (t5 : Nat) (t6 : Nat) (tv : Int32) (gvn : Nat → Int32) (t0 : Nat) (k0 : Nat) (la : Nat) (hts0 : ts = nI t0) (ht5 : t0 ≤ 5) (htk : tk = nI k0) (hk5 : k0 ≤ 5) (hk1 : 1 ≤ k0) (hL1 : gvc gvn la = k0) (hL2 : ∀ j : Nat, j < la → gvc gvn j < k0) (hL3 : la ≤ t0) : Met l yX6_lastNeededGiver wsX6_lastNeededGiver ({ frames := 2, cells := 0, slots := 0, locals := 42 }) (rPc vwCl D cA [(tt, .inr (5, [.ref g, .int ts, .int tk, .ref tco, .ref t4, .ref t5, .ref t6, .int tv])), (t4, .inl (cA 1, (t0 + 1), .inl gvn))] [.ref tt]) (rq_x (some (.int (nI la)))) 0 0 (fun _ => False) := by
  refine Met.ofW (cc := cX6_lastNeededGiver) (maxL := 3) (ret := (some .int)) (by decide) rfl ?_
  intro p e s m args below meth c s₁ B hml hv
  obtain ⟨rfl, hP, hK⟩ := hv
  have hx := B.exec
  have hb := B.bytes
  have hr := B.returns
  have hts := atoms_spec (ws := wsX6_lastNeededGiver) B.pre
  have hown : s.vm.findClass RX6 = some m.cls := findClass_of_methodNamed B.named
  have hlocks := B.notSynchronized
  have hin_X6 : ∀ w ∈ wsX60, w ∈ wsX6_lastNeededGiver := fun w h => List.mem_cons_of_mem _ (List.mem_append_right _ h)
  have w_RX6_33 := hts (.fieldLink RX6 33 "MixElection$Trustees" "size" "I") (by decide +kernel)
  have w_RX6_37 := hts (.fieldLink RX6 37 "MixElection$Trustees" "threshold" "I") (by decide +kernel)
  have hl := lv_entry ([.ref tt]) (n := 3) (Nat.le_of_ble_eq_true rfl)
  rw [lg_entry_eq]
  generalize (lg_sl ([.ref tt]) ++ List.replicate (3 - (lg_sl ([.ref tt])).length) Slot.unset).toArray = ls at hl ⊢
  have hl : lv_has ls 3 [(0, .ref tt)] := hl
  refine lv_iconst (v := 0) hx hb dX6_lastNeededGiver_0 (by decide) ?_
  refine lv_istore_n (lv' := [(1, .int 0), (0, .ref tt)]) hx hb dX6_lastNeededGiver_1 rfl hl (by decide) rfl (fun ls hl => ?_)
  refine lv_iconst (v := 1) hx hb dX6_lastNeededGiver_2 (by decide) ?_
  refine lv_istore_n (lv' := [(2, .int 1), (1, .int 0), (0, .ref tt)]) hx hb dX6_lastNeededGiver_3 rfl hl (by decide) rfl (fun ls hl => ?_)
  have loop4 : ∀ (f_ k : Nat) (z v : Int32), z = nI (k + 1) → la ≤ k + f_ → k < la → v = nI (gvc gvn k) → ∀ ls : Array Slot, lv_has ls 3 [(0, .ref tt), (1, .int v), (2, .int z)] → W p l e (headSpec wsX6_lastNeededGiver ({ frames := 2, cells := 0, slots := 0, locals := 42 })).room s m [.ref tt].toArray below meth c s.heap [] 0 0 (MQ below (rq_x (some (.int (nI la)))) [.ref tt].toArray s 0 0 (fun _ => False)) (F0 m 4 ls []) := by
    intro f
    induction f with
    | zero =>
      intro k z v hz h1 h2
      omega
    | succ f ih =>
      intro k z v hz h1 h2 hv ls hl
      refine lv_iload_n hx hb dX6_lastNeededGiver_4 rfl (lv_at hl 2 rfl) ?_
      refine lv_aload_n hx hb dX6_lastNeededGiver_5 rfl (lv_at hl 0 rfl) ?_
      refine va_get (D := D) (ci := 5) (v := .int ts) (C := RX6) (T := TX6) (N := 8) hx hb hts hin_X6 hown hK hP 0 rfl rfl 1 (by decide) (w_RX6_33) (fun _ h9 => h9) rfl dX6_lastNeededGiver_6 ?_
      refine lv_icmp_gt (tgt := 44) hx hb dX6_lastNeededGiver_9 (by decide) (fun c_9 => ?_) (fun c_9 => ?_)
      · exact absurd c_9 (ln_in hts0 ht5 hz h2 hL3)
      · skip
        refine lv_iload_n hx hb dX6_lastNeededGiver_12 rfl (lv_at hl 1 rfl) ?_
        refine lv_aload_n hx hb dX6_lastNeededGiver_13 rfl (lv_at hl 0 rfl) ?_
        refine lv_iload_n hx hb dX6_lastNeededGiver_14 rfl (lv_at hl 2 rfl) ?_
        refine rq_call1 (v := .int (bI ((1 ≤ z ∧ z ≤ ts) ∧ ¬ gvn z.toNatClampNeg = 0))) (rn_V (As := [.int z]) (rest := [.int v]) (ci := 5) (fs := [.ref g, .int ts, .int tk, .ref tco, .ref t4, .ref t5, .ref t6, .int tv]) ⟨hx, hb, hml, hown, hts⟩ (c_X6_gave l D cA tt g ts tk tco t4 t5 t6 tv z gvn t0 hts0 ht5) rfl (cwV 1 hts gX6_lastNeededGiver_X6_gave rfl rfl rfl (by decide +kernel) ⟨Nat.le_of_ble_eq_true rfl, Nat.le_of_ble_eq_true rfl⟩) hK hP [0, 1] rfl rfl rfl hl.1 rfl (Nat.le_of_ble_eq_true rfl) dX6_lastNeededGiver_15 ⟨Nat.le_of_ble_eq_true rfl, Nat.le_of_ble_eq_true rfl⟩) ?_
        refine lv_if_eq (tgt := 25) hx hb dX6_lastNeededGiver_18 (by decide) (fun c_18 => ?_) (fun c_18 => ?_)
        · skip
          refine lv_iconst (v := 0) hx hb dX6_lastNeededGiver_25 (by decide) ?_
          refine lv_iadd hx hb dX6_lastNeededGiver_26 ?_
          refine lv_istore_n (lv' := [(1, .int (v + 0)), (0, .ref tt), (2, .int z)]) hx hb dX6_lastNeededGiver_27 rfl hl (by decide) rfl (fun ls hl => ?_)
          refine lv_iload_n hx hb dX6_lastNeededGiver_28 rfl (lv_at hl 0 rfl) ?_
          refine lv_aload_n hx hb dX6_lastNeededGiver_29 rfl (lv_at hl 1 rfl) ?_
          refine va_get (D := D) (ci := 5) (v := .int tk) (C := RX6) (T := TX6) (N := 8) hx hb hts hin_X6 hown hK hP 0 rfl rfl 2 (by decide) (w_RX6_37) (fun _ h9 => h9) rfl dX6_lastNeededGiver_30 ?_
          refine lv_icmp_ne (tgt := 38) hx hb dX6_lastNeededGiver_33 (by decide) (fun c_33 => ?_) (fun c_33 => ?_)
          · skip
            refine lv_iinc (v := (z + 1)) (lv' := [(2, .int (z + 1)), (1, .int (v + 0)), (0, .ref tt)]) hx hb dX6_lastNeededGiver_38 hl (k := 2) rfl rfl (by decide) rfl (fun ls hl => ?_)
            refine lv_goto (tgt := 4) hx hb dX6_lastNeededGiver_41 (by decide) ?_
            have h5 := ln_next hts0 ht5 htk hk5 hz h2 hv hL1 hL2 hL3 (ln_0 hts0 ht5 hz h2 hL3 hv c_18) c_33
            exact ih (k + 1) (z + 1) _ (st_1 hz) (by omega) h5.1 h5.2 ls (lv_sub hl [2, 1, 0] rfl)
          · skip
            refine lv_iload_n hx hb dX6_lastNeededGiver_36 rfl (lv_at hl 2 rfl) ?_
            exact W.iret (v := z) hx hb hr (fun t ht hW => ⟨congrArg (fun z => Outcome.returned (some (Value.int z))) (ln_ret hts0 ht5 htk hk5 hz h2 hv hL1 hL2 hL3 (ln_0 hts0 ht5 hz h2 hL3 hv c_18) c_33), ht⟩) (fun _ h => by cases h) dX6_lastNeededGiver_37
        · skip
          refine lv_iconst (v := 1) hx hb dX6_lastNeededGiver_21 (by decide) ?_
          refine lv_goto (tgt := 26) hx hb dX6_lastNeededGiver_22 (by decide) ?_
          refine lv_iadd hx hb dX6_lastNeededGiver_26 ?_
          refine lv_istore_n (lv' := [(1, .int (v + 1)), (0, .ref tt), (2, .int z)]) hx hb dX6_lastNeededGiver_27 rfl hl (by decide) rfl (fun ls hl => ?_)
          refine lv_iload_n hx hb dX6_lastNeededGiver_28 rfl (lv_at hl 0 rfl) ?_
          refine lv_aload_n hx hb dX6_lastNeededGiver_29 rfl (lv_at hl 1 rfl) ?_
          refine va_get (D := D) (ci := 5) (v := .int tk) (C := RX6) (T := TX6) (N := 8) hx hb hts hin_X6 hown hK hP 0 rfl rfl 2 (by decide) (w_RX6_37) (fun _ h9 => h9) rfl dX6_lastNeededGiver_30 ?_
          refine lv_icmp_ne (tgt := 38) hx hb dX6_lastNeededGiver_33 (by decide) (fun c_33 => ?_) (fun c_33 => ?_)
          · skip
            refine lv_iinc (v := (z + 1)) (lv' := [(2, .int (z + 1)), (1, .int (v + 1)), (0, .ref tt)]) hx hb dX6_lastNeededGiver_38 hl (k := 2) rfl rfl (by decide) rfl (fun ls hl => ?_)
            refine lv_goto (tgt := 4) hx hb dX6_lastNeededGiver_41 (by decide) ?_
            have h5 := ln_next hts0 ht5 htk hk5 hz h2 hv hL1 hL2 hL3 (ln_1 hz ht5 h2 hL3 hv c_18) c_33
            exact ih (k + 1) (z + 1) _ (st_1 hz) (by omega) h5.1 h5.2 ls (lv_sub hl [2, 1, 0] rfl)
          · skip
            refine lv_iload_n hx hb dX6_lastNeededGiver_36 rfl (lv_at hl 2 rfl) ?_
            exact W.iret (v := z) hx hb hr (fun t ht hW => ⟨congrArg (fun z => Outcome.returned (some (Value.int z))) (ln_ret hts0 ht5 htk hk5 hz h2 hv hL1 hL2 hL3 (ln_1 hz ht5 h2 hL3 hv c_18) c_33), ht⟩) (fun _ h => by cases h) dX6_lastNeededGiver_37
  exact loop4 la 0 1 0 rfl (by omega) (ln_pos hk1 hL1) rfl ls (lv_sub hl [2, 1, 0] rfl)

set_option maxHeartbeats 4000000 in
set_option maxRecDepth 100000 in
theorem c_X6_weightOf (l : Launch) (D : va_G) (cA : Nat → ClassId) (tt : Nat) (g : Nat) (ts : Int32) (tk : Int32) (tco : Nat) (t4 : Nat) (t5 : Nat) (t6 : Nat) (tv : Int32) (gp : Int32) (gq : Int32) (gh : Int32) (gvn : Nat → Int32) (j : Int32) (x : Int32) (t0 : Nat) (j0 : Nat) (la : Nat) (q0 : Nat) (hts0 : ts = nI t0) (ht5 : t0 ≤ 5) (hj : j = nI j0) (hj5 : j0 ≤ 5) (hla : x = nI la) (hla5 : la ≤ t0) (hq0 : gq = nI q0) (hq2 : 2 ≤ q0) (hq9 : q0 < 1000000) : Met l yX6_weightOf wsX6_weightOf ({ frames := 3, cells := 0, slots := 0, locals := 68 }) (rPc vwCl D cA [(tt, .inr (5, [.ref g, .int ts, .int tk, .ref tco, .ref t4, .ref t5, .ref t6, .int tv])), (g, .inr (1, [.int gp, .int gq, .int gh])), (t4, .inl (cA 1, (t0 + 1), .inl gvn))] [.ref tt, .int j, .int x]) (rq_x (some (.int (wgt gq q0 gvn la j0)))) 0 0 (fun _ => False) := by
  refine Met.ofW (cc := cX6_weightOf) (maxL := 7) (ret := (some .int)) (by decide) rfl ?_
  intro p e s m args below meth c s₁ B hml hv
  obtain ⟨rfl, hP, hK⟩ := hv
  have hx := B.exec
  have hb := B.bytes
  have hr := B.returns
  have hts := atoms_spec (ws := wsX6_weightOf) B.pre
  have hown : s.vm.findClass RX6 = some m.cls := findClass_of_methodNamed B.named
  have hlocks := B.notSynchronized
  have hin_X6 : ∀ w ∈ wsX60, w ∈ wsX6_weightOf := fun w h => List.mem_cons_of_mem _ (List.mem_append_left _ (List.mem_append_right _ h))
  have w_RX6_9 := hts (.fieldLink RX6 9 "MixElection$Trustees" "group" "LMixElection$Group;") (by decide +kernel)
  have hl := lv_entry ([.ref tt, .int j, .int x]) (n := 7) (Nat.le_of_ble_eq_true rfl)
  rw [lg_entry_eq]
  generalize (lg_sl ([.ref tt, .int j, .int x]) ++ List.replicate (7 - (lg_sl ([.ref tt, .int j, .int x])).length) Slot.unset).toArray = ls at hl ⊢
  have hl : lv_has ls 7 [(0, .ref tt), (1, .int j), (2, .int x)] := hl
  refine lv_aload_n hx hb dX6_weightOf_0 rfl (lv_at hl 0 rfl) ?_
  refine va_get (D := D) (ci := 5) (v := .ref g) (C := RX6) (T := TX6) (N := 8) hx hb hts hin_X6 hown hK hP 0 rfl rfl 0 (by decide) (w_RX6_9) (fun _ h9 => h9) rfl dX6_weightOf_1 ?_
  refine rq_call1 (v := .int gq) (rn_V (As := []) (rest := []) (ci := 1) (fs := [.int gp, .int gq, .int gh]) ⟨hx, hb, hml, hown, hts⟩ (c_X1_order l D cA g gp gq gh) rfl (cwV 0 hts gX6_weightOf_X1_order rfl rfl rfl (by decide +kernel) ⟨Nat.le_of_ble_eq_true rfl, Nat.le_of_ble_eq_true rfl⟩) hK hP [1] rfl rfl rfl hl.1 rfl (Nat.le_of_ble_eq_true rfl) dX6_weightOf_4 ⟨Nat.le_of_ble_eq_true rfl, Nat.le_of_ble_eq_true rfl⟩) ?_
  refine lv_istore_n (lv' := [(3, .int gq), (0, .ref tt), (1, .int j), (2, .int x)]) hx hb dX6_weightOf_7 rfl hl (by decide) rfl (fun ls hl => ?_)
  refine lv_iconst (v := 1) hx hb dX6_weightOf_8 (by decide) ?_
  refine lv_istore (lv' := [(4, .int 1), (3, .int gq), (0, .ref tt), (1, .int j), (2, .int x)]) hx hb dX6_weightOf_9 hl (by decide) rfl (fun ls hl => ?_)
  refine lv_iconst (v := 1) hx hb dX6_weightOf_11 (by decide) ?_
  refine lv_istore (lv' := [(5, .int 1), (4, .int 1), (3, .int gq), (0, .ref tt), (1, .int j), (2, .int x)]) hx hb dX6_weightOf_12 hl (by decide) rfl (fun ls hl => ?_)
  refine lv_iconst (v := 1) hx hb dX6_weightOf_14 (by decide) ?_
  refine lv_istore (lv' := [(6, .int 1), (5, .int 1), (4, .int 1), (3, .int gq), (0, .ref tt), (1, .int j), (2, .int x)]) hx hb dX6_weightOf_15 hl (by decide) rfl (fun ls hl => ?_)
  have loop17 : ∀ (f_ k : Nat) (z u v : Int32), z = nI (k + 1) → la + 1 ≤ k + f_ → k ≤ la → u = wup gq gvn j0 k → v = wdn gq gvn j0 k → ∀ ls : Array Slot, lv_has ls 7 [(0, .ref tt), (1, .int j), (2, .int x), (3, .int gq), (4, .int u), (5, .int v), (6, .int z)] → W p l e (headSpec wsX6_weightOf ({ frames := 3, cells := 0, slots := 0, locals := 68 })).room s m [.ref tt, .int j, .int x].toArray below meth c s.heap [] 0 0 (MQ below (rq_x (some (.int (wgt gq q0 gvn la j0)))) [.ref tt, .int j, .int x].toArray s 0 0 (fun _ => False)) (F0 m 17 ls []) := by
    intro f
    induction f with
    | zero =>
      intro k z u v hz h1 h2
      omega
    | succ f ih =>
      intro k z u v hz h1 h2 hu hv ls hl
      refine lv_iload hx hb dX6_weightOf_17 (lv_at hl 6 rfl) ?_
      refine lv_iload_n hx hb dX6_weightOf_19 rfl (lv_at hl 2 rfl) ?_
      refine lv_icmp_gt (tgt := 69) hx hb dX6_weightOf_20 (by decide) (fun c_20 => ?_) (fun c_20 => ?_)
      · skip
        refine lv_iload hx hb dX6_weightOf_69 (lv_at hl 4 rfl) ?_
        refine lv_iload hx hb dX6_weightOf_71 (lv_at hl 5 rfl) ?_
        refine lv_iload_n hx hb dX6_weightOf_73 rfl (lv_at hl 3 rfl) ?_
        refine rq_call1 (v := .int (pw gq 32 (q0 - 2) 1 v)) (rn_S (As := [.int v, .int gq]) (rest := [.int u]) ⟨hx, hb, hml, hown, hts⟩ (c_X3_inverse l D cA v gq q0 hq0 hq2 hq9) (va_cwS 2 hts gX6_weightOf_X3_inverse rfl rfl rfl (by decide +kernel) ⟨Nat.le_of_ble_eq_true rfl, Nat.le_of_ble_eq_true rfl⟩) hK hP [] rfl rfl hl.1 rfl (Nat.le_of_ble_eq_true rfl) dX6_weightOf_74 ⟨Nat.le_of_ble_eq_true rfl, Nat.le_of_ble_eq_true rfl⟩) ?_
        refine lv_iload_n hx hb dX6_weightOf_77 rfl (lv_at hl 3 rfl) ?_
        refine rq_call1 (v := .int (tm gq u (pw gq 32 (q0 - 2) 1 v))) (rn_S (As := [.int u, .int (pw gq 32 (q0 - 2) 1 v), .int gq]) (rest := []) ⟨hx, hb, hml, hown, hts⟩ (c_X3_times l D cA u (pw gq 32 (q0 - 2) 1 v) gq (iv_p hq0 hq2 hq9)) (va_cwS 3 hts gX6_weightOf_X3_times rfl rfl rfl (by decide +kernel) ⟨Nat.le_of_ble_eq_true rfl, Nat.le_of_ble_eq_true rfl⟩) hK hP [] rfl rfl hl.1 rfl (Nat.le_of_ble_eq_true rfl) dX6_weightOf_78 ⟨Nat.le_of_ble_eq_true rfl, Nat.le_of_ble_eq_true rfl⟩) ?_
        exact W.iret (v := (tm gq u (pw gq 32 (q0 - 2) 1 v))) hx hb hr (fun t ht hW => ⟨congrArg (fun z => Outcome.returned (some (Value.int z))) ((by rw [wgt, hu, hv, show k = la from by have := lq_end hz hla (by omega) (by omega) c_20; omega])), ht⟩) (fun _ h => by cases h) dX6_weightOf_81
      · skip
        refine lv_iload hx hb dX6_weightOf_23 (lv_at hl 6 rfl) ?_
        refine lv_iload_n hx hb dX6_weightOf_25 rfl (lv_at hl 1 rfl) ?_
        refine lv_icmp_eq (tgt := 63) hx hb dX6_weightOf_26 (by decide) (fun c_26 => ?_) (fun c_26 => ?_)
        · skip
          refine lv_iinc (v := (z + 1)) (lv' := [(6, .int (z + 1)), (0, .ref tt), (1, .int j), (2, .int x), (3, .int gq), (4, .int u), (5, .int v)]) hx hb dX6_weightOf_63 hl (k := 6) rfl rfl (by decide) rfl (fun ls hl => ?_)
          refine lv_goto (tgt := 17) hx hb dX6_weightOf_66 (by decide) ?_
          have hk := lq_le hz hla (by omega) (by omega) c_20
          have h5 := wo_eq hz hj (by omega) (by omega) c_26 hu hv
          exact ih (k + 1) (z + 1) _ _ (st_1 hz) (by omega) (by omega) h5.1 h5.2 ls (lv_sub hl [1, 2, 3, 4, 5, 6, 0] rfl)
        · skip
          refine lv_aload_n hx hb dX6_weightOf_29 rfl (lv_at hl 0 rfl) ?_
          refine lv_iload hx hb dX6_weightOf_30 (lv_at hl 6 rfl) ?_
          refine rq_call1 (v := .int (bI ((1 ≤ z ∧ z ≤ ts) ∧ ¬ gvn z.toNatClampNeg = 0))) (rn_V (As := [.int z]) (rest := []) (ci := 5) (fs := [.ref g, .int ts, .int tk, .ref tco, .ref t4, .ref t5, .ref t6, .int tv]) ⟨hx, hb, hml, hown, hts⟩ (c_X6_gave l D cA tt g ts tk tco t4 t5 t6 tv z gvn t0 hts0 ht5) rfl (cwV 1 hts gX6_weightOf_X6_gave rfl rfl rfl (by decide +kernel) ⟨Nat.le_of_ble_eq_true rfl, Nat.le_of_ble_eq_true rfl⟩) hK hP [0, 2] rfl rfl rfl hl.1 rfl (Nat.le_of_ble_eq_true rfl) dX6_weightOf_32 ⟨Nat.le_of_ble_eq_true rfl, Nat.le_of_ble_eq_true rfl⟩) ?_
          refine lv_if_eq (tgt := 63) hx hb dX6_weightOf_35 (by decide) (fun c_35 => ?_) (fun c_35 => ?_)
          · skip
            refine lv_iinc (v := (z + 1)) (lv' := [(6, .int (z + 1)), (0, .ref tt), (1, .int j), (2, .int x), (3, .int gq), (4, .int u), (5, .int v)]) hx hb dX6_weightOf_63 hl (k := 6) rfl rfl (by decide) rfl (fun ls hl => ?_)
            refine lv_goto (tgt := 17) hx hb dX6_weightOf_66 (by decide) ?_
            have hk := lq_le hz hla (by omega) (by omega) c_20
            have h5 := wo_no hz (by omega) hts0 ht5 (by omega) c_35 hu hv
            exact ih (k + 1) (z + 1) _ _ (st_1 hz) (by omega) (by omega) h5.1 h5.2 ls (lv_sub hl [1, 2, 3, 4, 5, 6, 0] rfl)
          · skip
            refine lv_iload hx hb dX6_weightOf_38 (lv_at hl 4 rfl) ?_
            refine lv_iload hx hb dX6_weightOf_40 (lv_at hl 6 rfl) ?_
            refine lv_iload_n hx hb dX6_weightOf_42 rfl (lv_at hl 3 rfl) ?_
            refine rq_call1 (v := .int (tm gq u z)) (rn_S (As := [.int u, .int z, .int gq]) (rest := []) ⟨hx, hb, hml, hown, hts⟩ (c_X3_times l D cA u z gq (iv_p hq0 hq2 hq9)) (va_cwS 3 hts gX6_weightOf_X3_times rfl rfl rfl (by decide +kernel) ⟨Nat.le_of_ble_eq_true rfl, Nat.le_of_ble_eq_true rfl⟩) hK hP [] rfl rfl hl.1 rfl (Nat.le_of_ble_eq_true rfl) dX6_weightOf_43 ⟨Nat.le_of_ble_eq_true rfl, Nat.le_of_ble_eq_true rfl⟩) ?_
            refine lv_istore (lv' := [(4, .int (tm gq u z)), (0, .ref tt), (1, .int j), (2, .int x), (3, .int gq), (5, .int v), (6, .int z)]) hx hb dX6_weightOf_46 hl (by decide) rfl (fun ls hl => ?_)
            refine lv_iload hx hb dX6_weightOf_48 (lv_at hl 5 rfl) ?_
            refine lv_iload hx hb dX6_weightOf_50 (lv_at hl 6 rfl) ?_
            refine lv_iload_n hx hb dX6_weightOf_52 rfl (lv_at hl 2 rfl) ?_
            refine lv_iload_n hx hb dX6_weightOf_53 rfl (lv_at hl 4 rfl) ?_
            refine rq_call1 (v := .int (mn gq z j)) (rn_S (As := [.int z, .int j, .int gq]) (rest := [.int v]) ⟨hx, hb, hml, hown, hts⟩ (c_X3_minus l D cA z j gq) (va_cwS 3 hts gX6_weightOf_X3_minus rfl rfl rfl (by decide +kernel) ⟨Nat.le_of_ble_eq_true rfl, Nat.le_of_ble_eq_true rfl⟩) hK hP [] rfl rfl hl.1 rfl (Nat.le_of_ble_eq_true rfl) dX6_weightOf_54 ⟨Nat.le_of_ble_eq_true rfl, Nat.le_of_ble_eq_true rfl⟩) ?_
            refine lv_iload_n hx hb dX6_weightOf_57 rfl (lv_at hl 4 rfl) ?_
            refine rq_call1 (v := .int (tm gq v (mn gq z j))) (rn_S (As := [.int v, .int (mn gq z j), .int gq]) (rest := []) ⟨hx, hb, hml, hown, hts⟩ (c_X3_times l D cA v (mn gq z j) gq (iv_p hq0 hq2 hq9)) (va_cwS 3 hts gX6_weightOf_X3_times rfl rfl rfl (by decide +kernel) ⟨Nat.le_of_ble_eq_true rfl, Nat.le_of_ble_eq_true rfl⟩) hK hP [] rfl rfl hl.1 rfl (Nat.le_of_ble_eq_true rfl) dX6_weightOf_58 ⟨Nat.le_of_ble_eq_true rfl, Nat.le_of_ble_eq_true rfl⟩) ?_
            refine lv_istore (lv' := [(5, .int (tm gq v (mn gq z j))), (4, .int (tm gq u z)), (0, .ref tt), (1, .int j), (2, .int x), (3, .int gq), (6, .int z)]) hx hb dX6_weightOf_61 hl (by decide) rfl (fun ls hl => ?_)
            refine lv_iinc (v := (z + 1)) (lv' := [(6, .int (z + 1)), (5, .int (tm gq v (mn gq z j))), (4, .int (tm gq u z)), (0, .ref tt), (1, .int j), (2, .int x), (3, .int gq)]) hx hb dX6_weightOf_63 hl (k := 6) rfl rfl (by decide) rfl (fun ls hl => ?_)
            refine lv_goto (tgt := 17) hx hb dX6_weightOf_66 (by decide) ?_
            have hk := lq_le hz hla (by omega) (by omega) c_20
            have h5 := wo_yes hz hj (by omega) (by omega) c_26 c_35 hu hv
            exact ih (k + 1) (z + 1) _ _ (st_1 hz) (by omega) (by omega) h5.1 h5.2 ls (lv_sub hl [3, 4, 5, 6, 2, 1, 0] rfl)
  exact loop17 (la + 1) 0 1 1 1 rfl (by omega) (by omega) rfl rfl ls (lv_sub hl [4, 5, 6, 3, 2, 1, 0] rfl)

set_option maxHeartbeats 4000000 in
set_option maxRecDepth 100000 in
theorem c_X6_weighFirstGivers (l : Launch) (D : va_G) (cA : Nat → ClassId) (tt : Nat) (g : Nat) (ts : Int32) (tk : Int32) (tco : Nat) (t4 : Nat) (t5 : Nat) (t6 : Nat) (tv : Int32) (gp : Int32) (gq : Int32) (gh : Int32) (gvn : Nat → Int32) (wf : Nat → Int32) (t0 : Nat) (k0 : Nat) (la : Nat) (q0 : Nat) (hts0 : ts = nI t0) (ht5 : t0 ≤ 5) (htk : tk = nI k0) (hk5 : k0 ≤ 5) (hk1 : 1 ≤ k0) (hL1 : gvc gvn la = k0) (hL2 : ∀ j : Nat, j < la → gvc gvn j < k0) (hL3 : la ≤ t0) (hq0 : gq = nI q0) (hq2 : 2 ≤ q0) (hq9 : q0 < 1000000) : Met l yX6_weighFirstGivers wsX6_weighFirstGivers ({ frames := 4, cells := 0, slots := 0, locals := 94 }) (wPc vwCl D cA [(tt, .inr (5, [.ref g, .int ts, .int tk, .ref tco, .ref t4, .ref t5, .ref t6, .int tv])), (g, .inr (1, [.int gp, .int gq, .int gh])), (t4, .inl (cA 1, (t0 + 1), .inl gvn)), (t6, .inl (cA 0, (t0 + 1), .inl wf))] [.ref tt]) (wq_x vwCl D [(tt, .inr (5, [.ref g, .int ts, .int tk, .ref tco, .ref t4, .ref t5, .ref t6, .int tv])), (g, .inr (1, [.int gp, .int gq, .int gh])), (t4, .inl (cA 1, (t0 + 1), .inl gvn)), (t6, .inl (cA 0, (t0 + 1), .inl (wts gq q0 gvn la wf t0)))] none (wA [(tt, .inr (5, [.ref g, .int ts, .int tk, .ref tco, .ref t4, .ref t5, .ref t6, .int tv])), (g, .inr (1, [.int gp, .int gq, .int gh])), (t4, .inl (cA 1, (t0 + 1), .inl gvn)), (t6, .inl (cA 0, (t0 + 1), .inl wf))])) 0 0 (wA [(tt, .inr (5, [.ref g, .int ts, .int tk, .ref tco, .ref t4, .ref t5, .ref t6, .int tv])), (g, .inr (1, [.int gp, .int gq, .int gh])), (t4, .inl (cA 1, (t0 + 1), .inl gvn)), (t6, .inl (cA 0, (t0 + 1), .inl wf))]) := by
  refine Met.ofW (cc := cX6_weighFirstGivers) (maxL := 3) (ret := none) (by decide) rfl ?_
  intro p e s m args below meth c s₁ B hml hv
  obtain ⟨rfl, hP, hK, hD0⟩ := hv
  have hx := B.exec
  have hb := B.bytes
  have hr := B.returns
  have hts := atoms_spec (ws := wsX6_weighFirstGivers) B.pre
  have hown : s.vm.findClass RX6 = some m.cls := findClass_of_methodNamed B.named
  have hlocks := B.notSynchronized
  have hin_X6 : ∀ w ∈ wsX60, w ∈ wsX6_weighFirstGivers := fun w h => List.mem_cons_of_mem _ (List.mem_append_left _ (List.mem_append_right _ h))
  have w_RX6_33 := hts (.fieldLink RX6 33 "MixElection$Trustees" "size" "I") (by decide +kernel)
  have w_RX6_53 := hts (.fieldLink RX6 53 "MixElection$Trustees" "weights" "[I") (by decide +kernel)
  have hD : va_D (wA [(tt, .inr (5, [.ref g, .int ts, .int tk, .ref tco, .ref t4, .ref t5, .ref t6, .int tv])), (g, .inr (1, [.int gp, .int gq, .int gh])), (t4, .inl (cA 1, (t0 + 1), .inl gvn)), (t6, .inl (cA 0, (t0 + 1), .inl wf))]) [(tt, .inr (5, [.ref g, .int ts, .int tk, .ref tco, .ref t4, .ref t5, .ref t6, .int tv])), (g, .inr (1, [.int gp, .int gq, .int gh])), (t4, .inl (cA 1, (t0 + 1), .inl gvn)), (t6, .inl (cA 0, (t0 + 1), .inl wf))] := ⟨hD0.1, fun k q h => List.mem_map.mpr ⟨q, List.mem_of_getElem? h, rfl⟩⟩
  have hS : va_S (wA [(tt, .inr (5, [.ref g, .int ts, .int tk, .ref tco, .ref t4, .ref t5, .ref t6, .int tv])), (g, .inr (1, [.int gp, .int gq, .int gh])), (t4, .inl (cA 1, (t0 + 1), .inl gvn)), (t6, .inl (cA 0, (t0 + 1), .inl wf))]) s.heap s.heap [] := va_S.rf
  generalize hAe : wA [(tt, .inr (5, [.ref g, .int ts, .int tk, .ref tco, .ref t4, .ref t5, .ref t6, .int tv])), (g, .inr (1, [.int gp, .int gq, .int gh])), (t4, .inl (cA 1, (t0 + 1), .inl gvn)), (t6, .inl (cA 0, (t0 + 1), .inl wf))] = A at hD hS ⊢
  have hP : va_P D vwCl [(tt, .inr (5, [.ref g, .int ts, .int tk, .ref tco, .ref t4, .ref t5, .ref t6, .int tv])), (g, .inr (1, [.int gp, .int gq, .int gh])), (t4, .inl (cA 1, (t0 + 1), .inl gvn)), (t6, .inl (cA 0, (t0 + 1), .inl wf))] s.heap := hP
  have hl := lv_entry ([.ref tt]) (n := 3) (Nat.le_of_ble_eq_true rfl)
  rw [lg_entry_eq]
  generalize (lg_sl ([.ref tt]) ++ List.replicate (3 - (lg_sl ([.ref tt])).length) Slot.unset).toArray = ls at hl ⊢
  have hl : lv_has ls 3 [(0, .ref tt)] := hl
  have hla : nI la = nI la := rfl
  refine lv_aload_n hx hb dX6_weighFirstGivers_0 rfl (lv_at hl 0 rfl) ?_
  refine rq_call1 (v := .int (nI la)) (rn_V (As := []) (rest := []) (ci := 5) (fs := [.ref g, .int ts, .int tk, .ref tco, .ref t4, .ref t5, .ref t6, .int tv]) ⟨hx, hb, hml, hown, hts⟩ (c_X6_lastNeededGiver l D cA tt g ts tk tco t4 t5 t6 tv gvn t0 k0 la hts0 ht5 htk hk5 hk1 hL1 hL2 hL3) rfl (cwV 0 hts gX6_weighFirstGivers_X6_lastNeededGiver rfl rfl rfl (by decide +kernel) ⟨Nat.le_of_ble_eq_true rfl, Nat.le_of_ble_eq_true rfl⟩) hK hP [0, 2] rfl rfl rfl hl.1 rfl (Nat.le_of_ble_eq_true rfl) dX6_weighFirstGivers_1 ⟨Nat.le_of_ble_eq_true rfl, Nat.le_of_ble_eq_true rfl⟩) ?_
  refine lv_istore_n (lv' := [(1, .int (nI la)), (0, .ref tt)]) hx hb dX6_weighFirstGivers_4 rfl hl (by decide) rfl (fun ls hl => ?_)
  refine lv_iconst (v := 1) hx hb dX6_weighFirstGivers_5 (by decide) ?_
  refine lv_istore_n (lv' := [(2, .int 1), (1, .int (nI la)), (0, .ref tt)]) hx hb dX6_weighFirstGivers_6 rfl hl (by decide) rfl (fun ls hl => ?_)
  have loop7 : ∀ (f_ k : Nat) (z : Int32), z = nI (k + 1) → t0 + 1 ≤ k + f_ → k ≤ t0 → ∀ (H : Heap) (locs : List Loc), va_P D vwCl [(tt, .inr (5, [.ref g, .int ts, .int tk, .ref tco, .ref t4, .ref t5, .ref t6, .int tv])), (g, .inr (1, [.int gp, .int gq, .int gh])), (t4, .inl (cA 1, (t0 + 1), .inl gvn)), (t6, .inl (cA 0, (t0 + 1), .inl (wts gq q0 gvn la wf k)))] H → va_D A [(tt, .inr (5, [.ref g, .int ts, .int tk, .ref tco, .ref t4, .ref t5, .ref t6, .int tv])), (g, .inr (1, [.int gp, .int gq, .int gh])), (t4, .inl (cA 1, (t0 + 1), .inl gvn)), (t6, .inl (cA 0, (t0 + 1), .inl (wts gq q0 gvn la wf k)))] → va_S A s.heap H locs → ∀ ls : Array Slot, lv_has ls 3 [(0, .ref tt), (1, .int (nI la)), (2, .int z)] → W p l e (headSpec wsX6_weighFirstGivers ({ frames := 4, cells := 0, slots := 0, locals := 94 })).room s m [.ref tt].toArray below meth c H locs 0 0 (MQ below (wq_x vwCl D [(tt, .inr (5, [.ref g, .int ts, .int tk, .ref tco, .ref t4, .ref t5, .ref t6, .int tv])), (g, .inr (1, [.int gp, .int gq, .int gh])), (t4, .inl (cA 1, (t0 + 1), .inl gvn)), (t6, .inl (cA 0, (t0 + 1), .inl (wts gq q0 gvn la wf t0)))] none A) [.ref tt].toArray s 0 0 A) (F0 m 7 ls []) := by
    intro f
    induction f with
    | zero =>
      intro k z hz h1 h2
      omega
    | succ f ih =>
      intro k z hz h1 h2 H locs hP hD hS ls hl
      refine lv_iload_n hx hb dX6_weighFirstGivers_7 rfl (lv_at hl 2 rfl) ?_
      refine lv_aload_n hx hb dX6_weighFirstGivers_8 rfl (lv_at hl 0 rfl) ?_
      refine va_get (D := D) (ci := 5) (v := .int ts) (C := RX6) (T := TX6) (N := 8) hx hb hts hin_X6 hown hK hP 0 rfl rfl 1 (by decide) (w_RX6_33) (fun _ h9 => h9) rfl dX6_weighFirstGivers_9 ?_
      refine lv_icmp_gt (tgt := 50) hx hb dX6_weighFirstGivers_12 (by decide) (fun c_12 => ?_) (fun c_12 => ?_)
      · skip
        have hP9 : va_P D vwCl [(tt, .inr (5, [.ref g, .int ts, .int tk, .ref tco, .ref t4, .ref t5, .ref t6, .int tv])), (g, .inr (1, [.int gp, .int gq, .int gh])), (t4, .inl (cA 1, (t0 + 1), .inl gvn)), (t6, .inl (cA 0, (t0 + 1), .inl (wts gq q0 gvn la wf t0)))] H := (by have e : k = t0 := (by have := lq_end hz hts0 (by omega) (by omega) c_12; omega); rw [e] at hP; exact hP)
        exact W.vret hx hb hr (fun t ht hW => ⟨rfl, by rw [ht]; exact hP9, hS.F ht⟩) hS.2.2 dX6_weighFirstGivers_50
      · skip
        refine lv_aload_n hx hb dX6_weighFirstGivers_15 rfl (lv_at hl 0 rfl) ?_
        refine va_get (D := D) (ci := 5) (v := .ref t6) (C := RX6) (T := TX6) (N := 8) hx hb hts hin_X6 hown hK hP 0 rfl rfl 6 (by decide) (w_RX6_53) (fun _ h9 => h9) rfl dX6_weighFirstGivers_16 ?_
        refine lv_iload_n hx hb dX6_weighFirstGivers_19 rfl (lv_at hl 2 rfl) ?_
        refine lv_iload_n hx hb dX6_weighFirstGivers_20 rfl (lv_at hl 2 rfl) ?_
        refine lv_iload_n hx hb dX6_weighFirstGivers_21 rfl (lv_at hl 1 rfl) ?_
        refine lv_icmp_gt (tgt := 42) hx hb dX6_weighFirstGivers_22 (by decide) (fun c_22 => ?_) (fun c_22 => ?_)
        · skip
          refine lv_iconst (v := 0) hx hb dX6_weighFirstGivers_42 (by decide) ?_
          refine va_iast hx hb hK hP hD hS 3 0 rfl rfl (by rw [hz]; exact vp_in_nI (by have := lq_le hz hts0 (by omega) (by omega) c_12; omega) (by omega)) dX6_weighFirstGivers_43 (fun H locs hP hD hS => ?_)
          have hP : va_P D vwCl [(tt, .inr (5, [.ref g, .int ts, .int tk, .ref tco, .ref t4, .ref t5, .ref t6, .int tv])), (g, .inr (1, [.int gp, .int gq, .int gh])), (t4, .inl (cA 1, (t0 + 1), .inl gvn)), (t6, .inl (cA 0, (t0 + 1), .inl (upd (wts gq q0 gvn la wf k) z.toNatClampNeg 0)))] H := hP
          have hD : va_D A [(tt, .inr (5, [.ref g, .int ts, .int tk, .ref tco, .ref t4, .ref t5, .ref t6, .int tv])), (g, .inr (1, [.int gp, .int gq, .int gh])), (t4, .inl (cA 1, (t0 + 1), .inl gvn)), (t6, .inl (cA 0, (t0 + 1), .inl (upd (wts gq q0 gvn la wf k) z.toNatClampNeg 0)))] := hD
          refine lv_iinc (v := (z + 1)) (lv' := [(2, .int (z + 1)), (0, .ref tt), (1, .int (nI la))]) hx hb dX6_weighFirstGivers_44 hl (k := 2) rfl rfl (by decide) rfl (fun ls hl => ?_)
          refine lv_goto (tgt := 7) hx hb dX6_weighFirstGivers_47 (by decide) ?_
          have hk := lq_le hz hts0 (by omega) (by omega) c_12
          have e9 : (upd (wts gq q0 gvn la wf k) z.toNatClampNeg 0) = (wts gq q0 gvn la wf (k + 1)) := wk_s hz (by omega) (wk_gt hz hla (by omega) (by omega) c_22)
          have hP := va_P.arr (g' := (wts gq q0 gvn la wf (k + 1))) hP 3 rfl (fun j _ => congrFun e9 j)
          have hD := va_D.arr (g' := (wts gq q0 gvn la wf (k + 1))) hD 3 rfl
          clear e9
          have hP : va_P D vwCl [(tt, .inr (5, [.ref g, .int ts, .int tk, .ref tco, .ref t4, .ref t5, .ref t6, .int tv])), (g, .inr (1, [.int gp, .int gq, .int gh])), (t4, .inl (cA 1, (t0 + 1), .inl gvn)), (t6, .inl (cA 0, (t0 + 1), .inl (wts gq q0 gvn la wf (k + 1))))] H := hP
          have hD : va_D A [(tt, .inr (5, [.ref g, .int ts, .int tk, .ref tco, .ref t4, .ref t5, .ref t6, .int tv])), (g, .inr (1, [.int gp, .int gq, .int gh])), (t4, .inl (cA 1, (t0 + 1), .inl gvn)), (t6, .inl (cA 0, (t0 + 1), .inl (wts gq q0 gvn la wf (k + 1))))] := hD
          exact ih (k + 1) (z + 1) (st_1 hz) (by omega) (by omega) _ _ hP hD hS ls (lv_sub hl [1, 2, 0] rfl)
        · skip
          refine lv_aload_n hx hb dX6_weighFirstGivers_25 rfl (lv_at hl 0 rfl) ?_
          refine lv_iload_n hx hb dX6_weighFirstGivers_26 rfl (lv_at hl 2 rfl) ?_
          refine rq_call1 (v := .int (bI ((1 ≤ z ∧ z ≤ ts) ∧ ¬ gvn z.toNatClampNeg = 0))) (rn_V (As := [.int z]) (rest := [.int z, .ref t6]) (ci := 5) (fs := [.ref g, .int ts, .int tk, .ref tco, .ref t4, .ref t5, .ref t6, .int tv]) ⟨hx, hb, hml, hown, hts⟩ (c_X6_gave l D cA tt g ts tk tco t4 t5 t6 tv z gvn t0 hts0 ht5) rfl (cwV 1 hts gX6_weighFirstGivers_X6_gave rfl rfl rfl (by decide +kernel) ⟨Nat.le_of_ble_eq_true rfl, Nat.le_of_ble_eq_true rfl⟩) hK hP [0, 2] rfl rfl rfl hl.1 rfl (Nat.le_of_ble_eq_true rfl) dX6_weighFirstGivers_27 ⟨Nat.le_of_ble_eq_true rfl, Nat.le_of_ble_eq_true rfl⟩) ?_
          refine lv_if_eq (tgt := 42) hx hb dX6_weighFirstGivers_30 (by decide) (fun c_30 => ?_) (fun c_30 => ?_)
          · skip
            refine lv_iconst (v := 0) hx hb dX6_weighFirstGivers_42 (by decide) ?_
            refine va_iast hx hb hK hP hD hS 3 0 rfl rfl (by rw [hz]; exact vp_in_nI (by have := lq_le hz hts0 (by omega) (by omega) c_12; omega) (by omega)) dX6_weighFirstGivers_43 (fun H locs hP hD hS => ?_)
            have hP : va_P D vwCl [(tt, .inr (5, [.ref g, .int ts, .int tk, .ref tco, .ref t4, .ref t5, .ref t6, .int tv])), (g, .inr (1, [.int gp, .int gq, .int gh])), (t4, .inl (cA 1, (t0 + 1), .inl gvn)), (t6, .inl (cA 0, (t0 + 1), .inl (upd (wts gq q0 gvn la wf k) z.toNatClampNeg 0)))] H := hP
            have hD : va_D A [(tt, .inr (5, [.ref g, .int ts, .int tk, .ref tco, .ref t4, .ref t5, .ref t6, .int tv])), (g, .inr (1, [.int gp, .int gq, .int gh])), (t4, .inl (cA 1, (t0 + 1), .inl gvn)), (t6, .inl (cA 0, (t0 + 1), .inl (upd (wts gq q0 gvn la wf k) z.toNatClampNeg 0)))] := hD
            refine lv_iinc (v := (z + 1)) (lv' := [(2, .int (z + 1)), (0, .ref tt), (1, .int (nI la))]) hx hb dX6_weighFirstGivers_44 hl (k := 2) rfl rfl (by decide) rfl (fun ls hl => ?_)
            refine lv_goto (tgt := 7) hx hb dX6_weighFirstGivers_47 (by decide) ?_
            have hk := lq_le hz hts0 (by omega) (by omega) c_12
            have e9 : (upd (wts gq q0 gvn la wf k) z.toNatClampNeg 0) = (wts gq q0 gvn la wf (k + 1)) := wk_s hz (by omega) (wk_no hz hts0 ht5 (by omega) c_30)
            have hP := va_P.arr (g' := (wts gq q0 gvn la wf (k + 1))) hP 3 rfl (fun j _ => congrFun e9 j)
            have hD := va_D.arr (g' := (wts gq q0 gvn la wf (k + 1))) hD 3 rfl
            clear e9
            have hP : va_P D vwCl [(tt, .inr (5, [.ref g, .int ts, .int tk, .ref tco, .ref t4, .ref t5, .ref t6, .int tv])), (g, .inr (1, [.int gp, .int gq, .int gh])), (t4, .inl (cA 1, (t0 + 1), .inl gvn)), (t6, .inl (cA 0, (t0 + 1), .inl (wts gq q0 gvn la wf (k + 1))))] H := hP
            have hD : va_D A [(tt, .inr (5, [.ref g, .int ts, .int tk, .ref tco, .ref t4, .ref t5, .ref t6, .int tv])), (g, .inr (1, [.int gp, .int gq, .int gh])), (t4, .inl (cA 1, (t0 + 1), .inl gvn)), (t6, .inl (cA 0, (t0 + 1), .inl (wts gq q0 gvn la wf (k + 1))))] := hD
            exact ih (k + 1) (z + 1) (st_1 hz) (by omega) (by omega) _ _ hP hD hS ls (lv_sub hl [1, 2, 0] rfl)
          · skip
            refine lv_aload_n hx hb dX6_weighFirstGivers_33 rfl (lv_at hl 0 rfl) ?_
            refine lv_iload_n hx hb dX6_weighFirstGivers_34 rfl (lv_at hl 2 rfl) ?_
            refine lv_iload_n hx hb dX6_weighFirstGivers_35 rfl (lv_at hl 1 rfl) ?_
            refine rq_call1 (v := .int (wgt gq q0 gvn la (k + 1))) (rn_V (As := [.int z, .int (nI la)]) (rest := [.int z, .ref t6]) (ci := 5) (fs := [.ref g, .int ts, .int tk, .ref tco, .ref t4, .ref t5, .ref t6, .int tv]) ⟨hx, hb, hml, hown, hts⟩ (c_X6_weightOf l D cA tt g ts tk tco t4 t5 t6 tv gp gq gh gvn z (nI la) t0 (k + 1) la q0 hts0 ht5 hz (by have := lq_le hz hts0 (by omega) (by omega) c_12; omega) rfl hL3 hq0 hq2 hq9) rfl (cwV 2 hts gX6_weighFirstGivers_X6_weightOf rfl rfl rfl (by decide +kernel) ⟨Nat.le_of_ble_eq_true rfl, Nat.le_of_ble_eq_true rfl⟩) hK hP [0, 1, 2] rfl rfl rfl hl.1 rfl (Nat.le_of_ble_eq_true rfl) dX6_weighFirstGivers_36 ⟨Nat.le_of_ble_eq_true rfl, Nat.le_of_ble_eq_true rfl⟩) ?_
            refine lv_goto (tgt := 43) hx hb dX6_weighFirstGivers_39 (by decide) ?_
            refine va_iast hx hb hK hP hD hS 3 0 rfl rfl (by rw [hz]; exact vp_in_nI (by have := lq_le hz hts0 (by omega) (by omega) c_12; omega) (by omega)) dX6_weighFirstGivers_43 (fun H locs hP hD hS => ?_)
            have hP : va_P D vwCl [(tt, .inr (5, [.ref g, .int ts, .int tk, .ref tco, .ref t4, .ref t5, .ref t6, .int tv])), (g, .inr (1, [.int gp, .int gq, .int gh])), (t4, .inl (cA 1, (t0 + 1), .inl gvn)), (t6, .inl (cA 0, (t0 + 1), .inl (upd (wts gq q0 gvn la wf k) z.toNatClampNeg (wgt gq q0 gvn la (k + 1)))))] H := hP
            have hD : va_D A [(tt, .inr (5, [.ref g, .int ts, .int tk, .ref tco, .ref t4, .ref t5, .ref t6, .int tv])), (g, .inr (1, [.int gp, .int gq, .int gh])), (t4, .inl (cA 1, (t0 + 1), .inl gvn)), (t6, .inl (cA 0, (t0 + 1), .inl (upd (wts gq q0 gvn la wf k) z.toNatClampNeg (wgt gq q0 gvn la (k + 1)))))] := hD
            refine lv_iinc (v := (z + 1)) (lv' := [(2, .int (z + 1)), (0, .ref tt), (1, .int (nI la))]) hx hb dX6_weighFirstGivers_44 hl (k := 2) rfl rfl (by decide) rfl (fun ls hl => ?_)
            refine lv_goto (tgt := 7) hx hb dX6_weighFirstGivers_47 (by decide) ?_
            have hk := lq_le hz hts0 (by omega) (by omega) c_12
            have e9 : (upd (wts gq q0 gvn la wf k) z.toNatClampNeg (wgt gq q0 gvn la (k + 1))) = (wts gq q0 gvn la wf (k + 1)) := wk_s hz (by omega) (wk_yes hz hla (by omega) (by omega) c_22 c_30)
            have hP := va_P.arr (g' := (wts gq q0 gvn la wf (k + 1))) hP 3 rfl (fun j _ => congrFun e9 j)
            have hD := va_D.arr (g' := (wts gq q0 gvn la wf (k + 1))) hD 3 rfl
            clear e9
            have hP : va_P D vwCl [(tt, .inr (5, [.ref g, .int ts, .int tk, .ref tco, .ref t4, .ref t5, .ref t6, .int tv])), (g, .inr (1, [.int gp, .int gq, .int gh])), (t4, .inl (cA 1, (t0 + 1), .inl gvn)), (t6, .inl (cA 0, (t0 + 1), .inl (wts gq q0 gvn la wf (k + 1))))] H := hP
            have hD : va_D A [(tt, .inr (5, [.ref g, .int ts, .int tk, .ref tco, .ref t4, .ref t5, .ref t6, .int tv])), (g, .inr (1, [.int gp, .int gq, .int gh])), (t4, .inl (cA 1, (t0 + 1), .inl gvn)), (t6, .inl (cA 0, (t0 + 1), .inl (wts gq q0 gvn la wf (k + 1))))] := hD
            exact ih (k + 1) (z + 1) (st_1 hz) (by omega) (by omega) _ _ hP hD hS ls (lv_sub hl [1, 2, 0] rfl)
  exact loop7 (t0 + 1) 0 1 rfl (by omega) (by omega) _ _ hP hD hS ls (lv_sub hl [2, 1, 0] rfl)

set_option maxHeartbeats 4000000 in
set_option maxRecDepth 100000 in
theorem c_X6_joinedGift (l : Launch) (D : va_G) (cA : Nat → ClassId) (tt : Nat) (g : Nat) (ts : Int32) (tk : Int32) (tco : Nat) (t4 : Nat) (t5 : Nat) (t6 : Nat) (tv : Int32) (gp : Int32) (gq : Int32) (gh : Int32) (gvn : Nat → Int32) (wf : Nat → Int32) (gf : Nat → Nat → Int32) (ra : Nat) (t0 : Nat) (i : Int32) (hts0 : ts = nI t0) (ht5 : t0 ≤ 5) (hgp : 0 < gp) (hwn : ∀ j : Nat, 1 ≤ j → j ≤ t0 → nn (wf j)) : Met l yX6_joinedGift wsX6_joinedGift ({ frames := 3, cells := 0, slots := 0, locals := 69 }) (rPc vwCl D cA ([(tt, .inr (5, [.ref g, .int ts, .int tk, .ref tco, .ref t4, .ref t5, .ref t6, .int tv])), (g, .inr (1, [.int gp, .int gq, .int gh])), (t4, .inl (cA 1, (t0 + 1), .inl gvn)), (t5, .inl (cA 4, (t0 + 1), .inr (.inr (.inr (.inr (fun k => some (ra + k))))))), (t6, .inl (cA 0, (t0 + 1), .inl wf))] ++ (rwT cA ra gf (t0 + 1))) [.ref tt, .int i]) (rq_x (some (.int (jgf gp wf (fun j => gft gvn gf ts (nI j) i) t0)))) 0 0 (fun _ => False) := by
  refine Met.ofW (cc := cX6_joinedGift) (maxL := 4) (ret := (some .int)) (by decide) rfl ?_
  intro p e s m args below meth c s₁ B hml hv
  obtain ⟨rfl, hP, hK⟩ := hv
  have hx := B.exec
  have hb := B.bytes
  have hr := B.returns
  have hts := atoms_spec (ws := wsX6_joinedGift) B.pre
  have hown : s.vm.findClass RX6 = some m.cls := findClass_of_methodNamed B.named
  have hlocks := B.notSynchronized
  have hin_X6 : ∀ w ∈ wsX60, w ∈ wsX6_joinedGift := fun w h => List.mem_cons_of_mem _ (List.mem_append_left _ (List.mem_append_right _ h))
  have w_RX6_33 := hts (.fieldLink RX6 33 "MixElection$Trustees" "size" "I") (by decide +kernel)
  have w_RX6_53 := hts (.fieldLink RX6 53 "MixElection$Trustees" "weights" "[I") (by decide +kernel)
  have w_RX6_9 := hts (.fieldLink RX6 9 "MixElection$Trustees" "group" "LMixElection$Group;") (by decide +kernel)
  have hl := lv_entry ([.ref tt, .int i]) (n := 4) (Nat.le_of_ble_eq_true rfl)
  rw [lg_entry_eq]
  generalize (lg_sl ([.ref tt, .int i]) ++ List.replicate (4 - (lg_sl ([.ref tt, .int i])).length) Slot.unset).toArray = ls at hl ⊢
  have hl : lv_has ls 4 [(0, .ref tt), (1, .int i)] := hl
  refine lv_iconst (v := 1) hx hb dX6_joinedGift_0 (by decide) ?_
  refine lv_istore_n (lv' := [(2, .int 1), (0, .ref tt), (1, .int i)]) hx hb dX6_joinedGift_1 rfl hl (by decide) rfl (fun ls hl => ?_)
  refine lv_iconst (v := 1) hx hb dX6_joinedGift_2 (by decide) ?_
  refine lv_istore_n (lv' := [(3, .int 1), (2, .int 1), (0, .ref tt), (1, .int i)]) hx hb dX6_joinedGift_3 rfl hl (by decide) rfl (fun ls hl => ?_)
  have loop4 : ∀ (f_ k : Nat) (z v : Int32), z = nI (k + 1) → t0 + 1 ≤ k + f_ → k ≤ t0 → v = (jgf gp wf (fun j => gft gvn gf ts (nI j) i) k) → ∀ ls : Array Slot, lv_has ls 4 [(0, .ref tt), (1, .int i), (2, .int v), (3, .int z)] → W p l e (headSpec wsX6_joinedGift ({ frames := 3, cells := 0, slots := 0, locals := 69 })).room s m [.ref tt, .int i].toArray below meth c s.heap [] 0 0 (MQ below (rq_x (some (.int (jgf gp wf (fun j => gft gvn gf ts (nI j) i) t0)))) [.ref tt, .int i].toArray s 0 0 (fun _ => False)) (F0 m 4 ls []) := by
    intro f
    induction f with
    | zero =>
      intro k z v hz h1 h2
      omega
    | succ f ih =>
      intro k z v hz h1 h2 hv ls hl
      refine lv_iload_n hx hb dX6_joinedGift_4 rfl (lv_at hl 3 rfl) ?_
      refine lv_aload_n hx hb dX6_joinedGift_5 rfl (lv_at hl 0 rfl) ?_
      refine va_get (D := D) (ci := 5) (v := .int ts) (C := RX6) (T := TX6) (N := 8) hx hb hts hin_X6 hown hK hP 0 rfl rfl 1 (by decide) (w_RX6_33) (fun _ h9 => h9) rfl dX6_joinedGift_6 ?_
      refine lv_icmp_gt (tgt := 55) hx hb dX6_joinedGift_9 (by decide) (fun c_9 => ?_) (fun c_9 => ?_)
      · skip
        refine lv_iload_n hx hb dX6_joinedGift_55 rfl (lv_at hl 2 rfl) ?_
        exact W.iret (v := v) hx hb hr (fun t ht hW => ⟨congrArg (fun z => Outcome.returned (some (Value.int z))) ((by rw [hv, show k = t0 from by have := lq_end hz hts0 (by omega) (by omega) c_9; omega])), ht⟩) (fun _ h => by cases h) dX6_joinedGift_56
      · skip
        refine lv_aload_n hx hb dX6_joinedGift_12 rfl (lv_at hl 0 rfl) ?_
        refine va_get (D := D) (ci := 5) (v := .ref t6) (C := RX6) (T := TX6) (N := 8) hx hb hts hin_X6 hown hK hP 0 rfl rfl 6 (by decide) (w_RX6_53) (fun _ h9 => h9) rfl dX6_joinedGift_13 ?_
        refine lv_iload_n hx hb dX6_joinedGift_16 rfl (lv_at hl 3 rfl) ?_
        refine va_iald hx hb hK hP 4 0 rfl rfl (by rw [hz]; exact vp_in_nI (by have := lq_le hz hts0 (by omega) (by omega) c_9; omega) (by omega)) dX6_joinedGift_17 ?_
        refine lv_if_eq (tgt := 49) hx hb dX6_joinedGift_18 (by decide) (fun c_18 => ?_) (fun c_18 => ?_)
        · skip
          refine lv_iinc (v := (z + 1)) (lv' := [(3, .int (z + 1)), (0, .ref tt), (1, .int i), (2, .int v)]) hx hb dX6_joinedGift_49 hl (k := 3) rfl rfl (by decide) rfl (fun ls hl => ?_)
          refine lv_goto (tgt := 4) hx hb dX6_joinedGift_52 (by decide) ?_
          have hk := lq_le hz hts0 (by omega) (by omega) c_9
          exact ih (k + 1) (z + 1) _ (st_1 hz) (by omega) (by omega) (jg_0 hz (by omega) c_18 hv) ls (lv_sub hl [1, 2, 3, 0] rfl)
        · skip
          refine lv_aload_n hx hb dX6_joinedGift_21 rfl (lv_at hl 0 rfl) ?_
          refine va_get (D := D) (ci := 5) (v := .ref g) (C := RX6) (T := TX6) (N := 8) hx hb hts hin_X6 hown hK hP 0 rfl rfl 0 (by decide) (w_RX6_9) (fun _ h9 => h9) rfl dX6_joinedGift_22 ?_
          refine lv_iload_n hx hb dX6_joinedGift_25 rfl (lv_at hl 2 rfl) ?_
          refine lv_aload_n hx hb dX6_joinedGift_26 rfl (lv_at hl 0 rfl) ?_
          refine va_get (D := D) (ci := 5) (v := .ref g) (C := RX6) (T := TX6) (N := 8) hx hb hts hin_X6 hown hK hP 0 rfl rfl 0 (by decide) (w_RX6_9) (fun _ h9 => h9) rfl dX6_joinedGift_27 ?_
          refine lv_aload_n hx hb dX6_joinedGift_30 rfl (lv_at hl 0 rfl) ?_
          refine lv_iload_n hx hb dX6_joinedGift_31 rfl (lv_at hl 3 rfl) ?_
          refine lv_iload_n hx hb dX6_joinedGift_32 rfl (lv_at hl 1 rfl) ?_
          refine rq_call1 (v := .int (gft gvn gf ts z i)) (rn_VT (As := [.int z, .int i]) (rest := [.ref g, .int v, .ref g]) (ci := 5) (fs := [.ref g, .int ts, .int tk, .ref tco, .ref t4, .ref t5, .ref t6, .int tv]) (X := [(tt, .inr (5, [.ref g, .int ts, .int tk, .ref tco, .ref t4, .ref t5, .ref t6, .int tv])), (g, .inr (1, [.int gp, .int gq, .int gh])), (t4, .inl (cA 1, (t0 + 1), .inl gvn)), (t5, .inl (cA 4, (t0 + 1), .inr (.inr (.inr (.inr (fun k => some (ra + k))))))), (t6, .inl (cA 0, (t0 + 1), .inl wf))]) (cx := [(tt, .inr (5, [.ref g, .int ts, .int tk, .ref tco, .ref t4, .ref t5, .ref t6, .int tv])), (t4, .inl (cA 1, (t0 + 1), .inl gvn)), (t5, .inl (cA 4, (t0 + 1), .inr (.inr (.inr (.inr (fun k => some (ra + k)))))))]) (pl := (rwT cA ra gf (t0 + 1))) ⟨hx, hb, hml, hown, hts⟩ (c_X6_gift l D cA tt g ts tk tco t4 t5 t6 tv gvn gf ra t0 z i hts0 ht5) rfl (cwV 2 hts gX6_joinedGift_X6_gift rfl rfl rfl (by decide +kernel) ⟨Nat.le_of_ble_eq_true rfl, Nat.le_of_ble_eq_true rfl⟩) hK hP [0, 2, 3] rfl rfl rfl hl.1 rfl (Nat.le_of_ble_eq_true rfl) dX6_joinedGift_33 ⟨Nat.le_of_ble_eq_true rfl, Nat.le_of_ble_eq_true rfl⟩) ?_
          refine lv_aload_n hx hb dX6_joinedGift_36 rfl (lv_at hl 0 rfl) ?_
          refine va_get (D := D) (ci := 5) (v := .ref t6) (C := RX6) (T := TX6) (N := 8) hx hb hts hin_X6 hown hK hP 0 rfl rfl 6 (by decide) (w_RX6_53) (fun _ h9 => h9) rfl dX6_joinedGift_37 ?_
          refine lv_iload_n hx hb dX6_joinedGift_40 rfl (lv_at hl 3 rfl) ?_
          refine va_iald hx hb hK hP 4 0 rfl rfl (by rw [hz]; exact vp_in_nI (by have := lq_le hz hts0 (by omega) (by omega) c_9; omega) (by omega)) dX6_joinedGift_41 ?_
          refine rq_call1 (v := .int (pw gp 32 (nt wf z.toNatClampNeg) 1 (gft gvn gf ts z i))) (rn_V (As := [.int (gft gvn gf ts z i), .int (wf z.toNatClampNeg)]) (rest := [.int v, .ref g]) (ci := 1) (fs := [.int gp, .int gq, .int gh]) ⟨hx, hb, hml, hown, hts⟩ (c_X1_raised l D cA g gp gq gh (gft gvn gf ts z i) (wf z.toNatClampNeg) (nt wf z.toNatClampNeg) (jg_nn hz (lq_le hz hts0 (by omega) (by omega) c_9) ht5 hwn) (nn_lt _) hgp) rfl (cwV 2 hts gX6_joinedGift_X1_raised rfl rfl rfl (by decide +kernel) ⟨Nat.le_of_ble_eq_true rfl, Nat.le_of_ble_eq_true rfl⟩) hK hP [1] rfl rfl rfl hl.1 rfl (Nat.le_of_ble_eq_true rfl) dX6_joinedGift_42 ⟨Nat.le_of_ble_eq_true rfl, Nat.le_of_ble_eq_true rfl⟩) ?_
          refine rq_call1 (v := .int (tm gp v (pw gp 32 (nt wf z.toNatClampNeg) 1 (gft gvn gf ts z i)))) (rn_V (As := [.int v, .int (pw gp 32 (nt wf z.toNatClampNeg) 1 (gft gvn gf ts z i))]) (rest := []) (ci := 1) (fs := [.int gp, .int gq, .int gh]) ⟨hx, hb, hml, hown, hts⟩ (c_X1_multiplied l D cA g gp gq gh v (pw gp 32 (nt wf z.toNatClampNeg) 1 (gft gvn gf ts z i)) hgp) rfl (cwV 2 hts gX6_joinedGift_X1_multiplied rfl rfl rfl (by decide +kernel) ⟨Nat.le_of_ble_eq_true rfl, Nat.le_of_ble_eq_true rfl⟩) hK hP [1] rfl rfl rfl hl.1 rfl (Nat.le_of_ble_eq_true rfl) dX6_joinedGift_45 ⟨Nat.le_of_ble_eq_true rfl, Nat.le_of_ble_eq_true rfl⟩) ?_
          refine lv_istore_n (lv' := [(2, .int (tm gp v (pw gp 32 (nt wf z.toNatClampNeg) 1 (gft gvn gf ts z i)))), (0, .ref tt), (1, .int i), (3, .int z)]) hx hb dX6_joinedGift_48 rfl hl (by decide) rfl (fun ls hl => ?_)
          refine lv_iinc (v := (z + 1)) (lv' := [(3, .int (z + 1)), (2, .int (tm gp v (pw gp 32 (nt wf z.toNatClampNeg) 1 (gft gvn gf ts z i)))), (0, .ref tt), (1, .int i)]) hx hb dX6_joinedGift_49 hl (k := 3) rfl rfl (by decide) rfl (fun ls hl => ?_)
          refine lv_goto (tgt := 4) hx hb dX6_joinedGift_52 (by decide) ?_
          have hk := lq_le hz hts0 (by omega) (by omega) c_9
          exact ih (k + 1) (z + 1) _ (st_1 hz) (by omega) (by omega) (jg_1 hz (by omega) c_18 hv) ls (lv_sub hl [2, 3, 1, 0] rfl)
  exact loop4 (t0 + 1) 0 1 1 rfl (by omega) (by omega) rfl ls (lv_sub hl [2, 3, 1, 0] rfl)
