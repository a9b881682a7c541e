set_option maxRecDepth 20000 in
theorem ggX7_share_X6_mayGive : GoodIn wsX7_share wsX6_mayGive := goodIn_r _ [11, 12, 13, 14, 15, 10, 16, 17, 127, 128, 129, 130, 131, 132, 133, 134] (by decide +kernel) (by decide +kernel)
set_option maxRecDepth 20000 in
theorem gX7_share_X6_mayGive : GoodIn wsX7_share (wsV RX7 209 RX6 yX6_mayGive wsX6_mayGive) := goodIn_app (goodIn_of _ (by decide +kernel)) ggX7_share_X6_mayGive
set_option maxRecDepth 20000 in
theorem ggX7_share_X7_listOf : GoodIn wsX7_share wsX7_listOf := goodIn_r _ [22, 23, 107, 108, 109, 110, 111, 112, 113, 114, 115, 116, 117, 118, 119, 120, 121, 122, 123, 124, 125, 126] (by decide +kernel) (by decide +kernel)
set_option maxRecDepth 20000 in
theorem gX7_share_X7_listOf : GoodIn wsX7_share (wsV RX7 182 RX7 yX7_listOf wsX7_listOf) := goodIn_app (goodIn_of _ (by decide +kernel)) ggX7_share_X7_listOf
set_option maxRecDepth 20000 in
theorem ggX7_share_X6_give : GoodIn wsX7_share wsX6_give := goodIn_r _ [27, 28, 29, 12, 30, 31, 8, 9, 10, 11, 13, 14, 15, 16, 17, 32, 33, 34, 35, 36, 37, 38, 39, 40, 41, 42, 43, 44, 45, 46, 47, 48, 49, 50, 51, 52, 53, 54, 55, 56, 57, 58, 59, 60, 61, 62, 63, 64, 65, 127, 128, 129, 130, 131, 132, 133, 134, 135, 136, 137, 138, 139] (by decide +kernel) (by decide +kernel)
set_option maxRecDepth 20000 in
theorem gX7_share_X6_give : GoodIn wsX7_share (wsV RX7 212 RX6 yX6_give wsX6_give) := goodIn_app (goodIn_of _ (by decide +kernel)) ggX7_share_X6_give
set_option maxRecDepth 20000 in
theorem ggX7_share_X6_digest : GoodIn wsX7_share wsX6_digest := goodIn_r _ [69, 70, 71, 72, 10, 73, 28, 74, 75, 76, 77, 12, 13, 14, 15, 16, 17, 78, 79, 46, 80, 81, 127, 128, 129, 130, 131, 132, 133, 134] (by decide +kernel) (by decide +kernel)
set_option maxRecDepth 20000 in
theorem gX7_share_X6_digest : GoodIn wsX7_share (wsV RX7 216 RX6 yX6_digest wsX6_digest) := goodIn_app (goodIn_of _ (by decide +kernel)) ggX7_share_X6_digest
set_option maxRecDepth 20000 in
theorem ggX7_share_X0_add : GoodIn wsX7_share wsX0_add := goodIn_r _ [86, 87, 88, 89, 90, 91, 92, 93, 94, 95, 85, 96, 97, 98, 99, 100, 101, 102, 79, 46, 80, 81, 140, 141, 142, 143, 144, 145] (by decide +kernel) (by decide +kernel)
set_option maxRecDepth 20000 in
theorem gX7_share_X0_add : GoodIn wsX7_share (wsV RX7 119 RX0 yX0_add wsX0_add) := goodIn_app (goodIn_of _ (by decide +kernel)) ggX7_share_X0_add
set_option maxRecDepth 20000 in
theorem ggX7_share_X6_givers : GoodIn wsX7_share wsX6_givers := goodIn_r _ [106, 30, 127, 128, 129, 130, 131, 132, 133, 134] (by decide +kernel) (by decide +kernel)
set_option maxRecDepth 20000 in
theorem gX7_share_X6_givers : GoodIn wsX7_share (wsV RX7 219 RX6 yX6_givers wsX6_givers) := goodIn_app (goodIn_of _ (by decide +kernel)) ggX7_share_X6_givers
theorem dX7_share_0 : decode cX7_share 0 = .ok (.aload_n 0, 1) := by decide +kernel
theorem dX7_share_1 : decode cX7_share 1 = .ok (.getfield 97, 3) := by decide +kernel
theorem dX7_share_4 : decode cX7_share 4 = .ok (.iconst 2, 1) := by decide +kernel
theorem dX7_share_5 : decode cX7_share 5 = .ok (.if_icmp .ne 29, 3) := by decide +kernel
theorem dX7_share_8 : decode cX7_share 8 = .ok (.aload_n 0, 1) := by decide +kernel
theorem dX7_share_9 : decode cX7_share 9 = .ok (.getfield 179, 3) := by decide +kernel
theorem dX7_share_12 : decode cX7_share 12 = .ok (.iconst 1, 1) := by decide +kernel
theorem dX7_share_13 : decode cX7_share 13 = .ok (.if_icmp .lt 21, 3) := by decide +kernel
theorem dX7_share_16 : decode cX7_share 16 = .ok (.aload_n 0, 1) := by decide +kernel
theorem dX7_share_17 : decode cX7_share 17 = .ok (.getfield 196, 3) := by decide +kernel
theorem dX7_share_20 : decode cX7_share 20 = .ok (.ifCond .ne 14, 3) := by decide +kernel
theorem dX7_share_23 : decode cX7_share 23 = .ok (.aload_n 0, 1) := by decide +kernel
theorem dX7_share_24 : decode cX7_share 24 = .ok (.getfield 48, 3) := by decide +kernel
theorem dX7_share_27 : decode cX7_share 27 = .ok (.iload_n 1, 1) := by decide +kernel
theorem dX7_share_28 : decode cX7_share 28 = .ok (.invokevirtual 209, 3) := by decide +kernel
theorem dX7_share_31 : decode cX7_share 31 = .ok (.ifCond .ne 5, 3) := by decide +kernel
theorem dX7_share_34 : decode cX7_share 34 = .ok (.iconst (-1), 1) := by decide +kernel
theorem dX7_share_35 : decode cX7_share 35 = .ok (.ireturn, 1) := by decide +kernel
theorem dX7_share_36 : decode cX7_share 36 = .ok (.aload_n 0, 1) := by decide +kernel
theorem dX7_share_37 : decode cX7_share 37 = .ok (.getfield 48, 3) := by decide +kernel
theorem dX7_share_40 : decode cX7_share 40 = .ok (.iload_n 1, 1) := by decide +kernel
theorem dX7_share_41 : decode cX7_share 41 = .ok (.aload_n 0, 1) := by decide +kernel
theorem dX7_share_42 : decode cX7_share 42 = .ok (.aload_n 0, 1) := by decide +kernel
theorem dX7_share_43 : decode cX7_share 43 = .ok (.getfield 179, 3) := by decide +kernel
theorem dX7_share_46 : decode cX7_share 46 = .ok (.invokevirtual 182, 3) := by decide +kernel
theorem dX7_share_49 : decode cX7_share 49 = .ok (.aload_n 0, 1) := by decide +kernel
theorem dX7_share_50 : decode cX7_share 50 = .ok (.getfield 158, 3) := by decide +kernel
theorem dX7_share_53 : decode cX7_share 53 = .ok (.invokevirtual 212, 3) := by decide +kernel
theorem dX7_share_56 : decode cX7_share 56 = .ok (.aload_n 0, 1) := by decide +kernel
theorem dX7_share_57 : decode cX7_share 57 = .ok (.getfield 55, 3) := by decide +kernel
theorem dX7_share_60 : decode cX7_share 60 = .ok (.bipush 7, 2) := by decide +kernel
theorem dX7_share_62 : decode cX7_share 62 = .ok (.iload_n 1, 1) := by decide +kernel
theorem dX7_share_63 : decode cX7_share 63 = .ok (.iconst 0, 1) := by decide +kernel
theorem dX7_share_64 : decode cX7_share 64 = .ok (.aload_n 0, 1) := by decide +kernel
theorem dX7_share_65 : decode cX7_share 65 = .ok (.getfield 48, 3) := by decide +kernel
theorem dX7_share_68 : decode cX7_share 68 = .ok (.iload_n 1, 1) := by decide +kernel
theorem dX7_share_69 : decode cX7_share 69 = .ok (.aload_n 0, 1) := by decide +kernel
theorem dX7_share_70 : decode cX7_share 70 = .ok (.getfield 158, 3) := by decide +kernel
theorem dX7_share_73 : decode cX7_share 73 = .ok (.invokevirtual 216, 3) := by decide +kernel
theorem dX7_share_76 : decode cX7_share 76 = .ok (.invokevirtual 119, 3) := by decide +kernel
theorem dX7_share_79 : decode cX7_share 79 = .ok (.pop2, 1) := by decide +kernel
theorem dX7_share_80 : decode cX7_share 80 = .ok (.aload_n 0, 1) := by decide +kernel
theorem dX7_share_81 : decode cX7_share 81 = .ok (.getfield 48, 3) := by decide +kernel
theorem dX7_share_84 : decode cX7_share 84 = .ok (.invokevirtual 219, 3) := by decide +kernel
theorem dX7_share_87 : decode cX7_share 87 = .ok (.ireturn, 1) := by decide +kernel
set_option maxRecDepth 20000 in
theorem ggX7_tally_X6_areEnough : GoodIn wsX7_tally wsX6_areEnough := goodIn_r _ [13, 14, 15, 166, 167, 168, 169, 170, 171, 172, 173] (by decide +kernel) (by decide +kernel)
set_option maxRecDepth 20000 in
theorem gX7_tally_X6_areEnough : GoodIn wsX7_tally (wsV RX7 222 RX6 yX6_areEnough wsX6_areEnough) := goodIn_app (goodIn_of _ (by decide +kernel)) ggX7_tally_X6_areEnough
set_option maxRecDepth 20000 in
theorem ggX7_tally_X7_countBallots : GoodIn wsX7_tally wsX7_countBallots := goodIn_r _ [20, 5, 8, 21, 4, 22, 23, 24, 25, 12, 26, 27, 28, 29, 30, 31, 32, 15, 33, 34, 35, 36, 37, 38, 39, 40, 41, 42, 43, 44, 45, 46, 47, 48, 49, 50, 51, 52, 53, 54, 55, 56, 57, 58, 59, 60, 61, 62, 63, 64, 65, 66, 67, 68, 69, 19, 70, 71, 72, 73, 74, 75, 76, 77, 78, 79, 80, 81, 82, 83, 84, 85, 86, 87, 88, 89, 90, 91, 92, 93, 94, 95, 96, 97, 98, 99, 100, 101, 102, 103, 104, 105, 106, 107, 6, 108, 109, 110, 111, 112, 146, 147, 148, 149, 150, 151, 152, 153, 154, 155, 156, 157, 158, 159, 160, 161, 162, 163, 164, 165, 166, 167, 168, 169, 170, 171, 172, 173, 174, 175, 176, 177, 178] (by decide +kernel) (by decide +kernel)
set_option maxRecDepth 20000 in
theorem gX7_tally_X7_countBallots : GoodIn wsX7_tally (wsV RX7 225 RX7 yX7_countBallots wsX7_countBallots) := goodIn_app (goodIn_of _ (by decide +kernel)) ggX7_tally_X7_countBallots
set_option maxRecDepth 20000 in
theorem ggX7_tally_X7_count : GoodIn wsX7_tally wsX7_count := goodIn_r _ [116, 1, 22, 146, 147, 148, 149, 150, 151, 152, 153, 154, 155, 156, 157, 158, 159, 160, 161, 162, 163, 164, 165] (by decide +kernel) (by decide +kernel)
set_option maxRecDepth 20000 in
theorem gX7_tally_X7_count : GoodIn wsX7_tally (wsV RX7 228 RX7 yX7_count wsX7_count) := goodIn_app (goodIn_of _ (by decide +kernel)) ggX7_tally_X7_count
set_option maxRecDepth 20000 in
theorem ggX7_tally_X7_digestOfCounts : GoodIn wsX7_tally wsX7_digestOfCounts := goodIn_r _ [120, 6, 113, 114, 115, 19, 116, 1, 22, 121, 122, 55, 123, 124, 146, 147, 148, 149, 150, 151, 152, 153, 154, 155, 156, 157, 158, 159, 160, 161, 162, 163, 164, 165] (by decide +kernel) (by decide +kernel)
set_option maxRecDepth 20000 in
theorem gX7_tally_X7_digestOfCounts : GoodIn wsX7_tally (wsV RX7 231 RX7 yX7_digestOfCounts wsX7_digestOfCounts) := goodIn_app (goodIn_of _ (by decide +kernel)) ggX7_tally_X7_digestOfCounts
set_option maxRecDepth 20000 in
theorem ggX7_tally_X0_add : GoodIn wsX7_tally wsX0_add := goodIn_r _ [129, 130, 131, 132, 133, 134, 135, 136, 137, 138, 128, 139, 140, 141, 142, 143, 144, 145, 122, 55, 123, 124, 179, 180, 181, 182, 183, 184] (by decide +kernel) (by decide +kernel)
set_option maxRecDepth 20000 in
theorem gX7_tally_X0_add : GoodIn wsX7_tally (wsV RX7 119 RX0 yX0_add wsX0_add) := goodIn_app (goodIn_of _ (by decide +kernel)) ggX7_tally_X0_add
theorem dX7_tally_0 : decode cX7_tally 0 = .ok (.aload_n 0, 1) := by decide +kernel
theorem dX7_tally_1 : decode cX7_tally 1 = .ok (.getfield 97, 3) := by decide +kernel
theorem dX7_tally_4 : decode cX7_tally 4 = .ok (.iconst 2, 1) := by decide +kernel
theorem dX7_tally_5 : decode cX7_tally 5 = .ok (.if_icmp .ne 31, 3) := by decide +kernel
theorem dX7_tally_8 : decode cX7_tally 8 = .ok (.aload_n 0, 1) := by decide +kernel
theorem dX7_tally_9 : decode cX7_tally 9 = .ok (.getfield 206, 3) := by decide +kernel
theorem dX7_tally_12 : decode cX7_tally 12 = .ok (.ifCond .gt 24, 3) := by decide +kernel
theorem dX7_tally_15 : decode cX7_tally 15 = .ok (.aload_n 0, 1) := by decide +kernel
theorem dX7_tally_16 : decode cX7_tally 16 = .ok (.getfield 193, 3) := by decide +kernel
theorem dX7_tally_19 : decode cX7_tally 19 = .ok (.aload_n 0, 1) := by decide +kernel
theorem dX7_tally_20 : decode cX7_tally 20 = .ok (.getfield 179, 3) := by decide +kernel
theorem dX7_tally_23 : decode cX7_tally 23 = .ok (.if_icmp .lt 13, 3) := by decide +kernel
theorem dX7_tally_26 : decode cX7_tally 26 = .ok (.aload_n 0, 1) := by decide +kernel
theorem dX7_tally_27 : decode cX7_tally 27 = .ok (.getfield 48, 3) := by decide +kernel
theorem dX7_tally_30 : decode cX7_tally 30 = .ok (.invokevirtual 222, 3) := by decide +kernel
theorem dX7_tally_33 : decode cX7_tally 33 = .ok (.ifCond .ne 5, 3) := by decide +kernel
theorem dX7_tally_36 : decode cX7_tally 36 = .ok (.iconst (-1), 1) := by decide +kernel
theorem dX7_tally_37 : decode cX7_tally 37 = .ok (.ireturn, 1) := by decide +kernel
theorem dX7_tally_38 : decode cX7_tally 38 = .ok (.aload_n 0, 1) := by decide +kernel
theorem dX7_tally_39 : decode cX7_tally 39 = .ok (.iconst 3, 1) := by decide +kernel
theorem dX7_tally_40 : decode cX7_tally 40 = .ok (.putfield 97, 3) := by decide +kernel
theorem dX7_tally_43 : decode cX7_tally 43 = .ok (.aload_n 0, 1) := by decide +kernel
theorem dX7_tally_44 : decode cX7_tally 44 = .ok (.invokevirtual 225, 3) := by decide +kernel
theorem dX7_tally_47 : decode cX7_tally 47 = .ok (.aload_n 0, 1) := by decide +kernel
theorem dX7_tally_48 : decode cX7_tally 48 = .ok (.aload_n 0, 1) := by decide +kernel
theorem dX7_tally_49 : decode cX7_tally 49 = .ok (.getfield 39, 3) := by decide +kernel
theorem dX7_tally_52 : decode cX7_tally 52 = .ok (.invokevirtual 228, 3) := by decide +kernel
theorem dX7_tally_55 : decode cX7_tally 55 = .ok (.istore_n 1, 1) := by decide +kernel
theorem dX7_tally_56 : decode cX7_tally 56 = .ok (.aload_n 0, 1) := by decide +kernel
theorem dX7_tally_57 : decode cX7_tally 57 = .ok (.getfield 55, 3) := by decide +kernel
theorem dX7_tally_60 : decode cX7_tally 60 = .ok (.bipush 8, 2) := by decide +kernel
theorem dX7_tally_62 : decode cX7_tally 62 = .ok (.aload_n 0, 1) := by decide +kernel
theorem dX7_tally_63 : decode cX7_tally 63 = .ok (.getfield 158, 3) := by decide +kernel
theorem dX7_tally_66 : decode cX7_tally 66 = .ok (.iload_n 1, 1) := by decide +kernel
theorem dX7_tally_67 : decode cX7_tally 67 = .ok (.isub, 1) := by decide +kernel
theorem dX7_tally_68 : decode cX7_tally 68 = .ok (.iload_n 1, 1) := by decide +kernel
theorem dX7_tally_69 : decode cX7_tally 69 = .ok (.aload_n 0, 1) := by decide +kernel
theorem dX7_tally_70 : decode cX7_tally 70 = .ok (.invokevirtual 231, 3) := by decide +kernel
theorem dX7_tally_73 : decode cX7_tally 73 = .ok (.invokevirtual 119, 3) := by decide +kernel
theorem dX7_tally_76 : decode cX7_tally 76 = .ok (.pop2, 1) := by decide +kernel
theorem dX7_tally_77 : decode cX7_tally 77 = .ok (.aload_n 0, 1) := by decide +kernel
theorem dX7_tally_78 : decode cX7_tally 78 = .ok (.getfield 158, 3) := by decide +kernel
theorem dX7_tally_81 : decode cX7_tally 81 = .ok (.iload_n 1, 1) := by decide +kernel
theorem dX7_tally_82 : decode cX7_tally 82 = .ok (.isub, 1) := by decide +kernel
theorem dX7_tally_83 : decode cX7_tally 83 = .ok (.ireturn, 1) := by decide +kernel
theorem dX7_count_0 : decode cX7_count 0 = .ok (.aload_n 0, 1) := by decide +kernel
theorem dX7_count_1 : decode cX7_count 1 = .ok (.getfield 97, 3) := by decide +kernel
theorem dX7_count_4 : decode cX7_count 4 = .ok (.iconst 3, 1) := by decide +kernel
theorem dX7_count_5 : decode cX7_count 5 = .ok (.if_icmp .ne 25, 3) := by decide +kernel
theorem dX7_count_8 : decode cX7_count 8 = .ok (.iload_n 1, 1) := by decide +kernel
theorem dX7_count_9 : decode cX7_count 9 = .ok (.ifCond .lt 21, 3) := by decide +kernel
theorem dX7_count_12 : decode cX7_count 12 = .ok (.iload_n 1, 1) := by decide +kernel
theorem dX7_count_13 : decode cX7_count 13 = .ok (.aload_n 0, 1) := by decide +kernel
theorem dX7_count_14 : decode cX7_count 14 = .ok (.getfield 93, 3) := by decide +kernel
theorem dX7_count_17 : decode cX7_count 17 = .ok (.arraylength, 1) := by decide +kernel
theorem dX7_count_18 : decode cX7_count 18 = .ok (.if_icmp .ge 12, 3) := by decide +kernel
theorem dX7_count_21 : decode cX7_count 21 = .ok (.aload_n 0, 1) := by decide +kernel
theorem dX7_count_22 : decode cX7_count 22 = .ok (.getfield 93, 3) := by decide +kernel
theorem dX7_count_25 : decode cX7_count 25 = .ok (.iload_n 1, 1) := by decide +kernel
theorem dX7_count_26 : decode cX7_count 26 = .ok (.iaload, 1) := by decide +kernel
theorem dX7_count_27 : decode cX7_count 27 = .ok (.goto 4, 3) := by decide +kernel
theorem dX7_count_30 : decode cX7_count 30 = .ok (.iconst (-1), 1) := by decide +kernel
theorem dX7_count_31 : decode cX7_count 31 = .ok (.ireturn, 1) := by decide +kernel
set_option maxRecDepth 20000 in
theorem ggX7_about_X1_modulus : GoodIn wsX7_about wsX1_modulus := goodIn_r _ [16, 17, 92, 93, 94] (by decide +kernel) (by decide +kernel)
set_option maxRecDepth 20000 in
theorem gX7_about_X1_modulus : GoodIn wsX7_about (wsV RX7 235 RX1 yX1_modulus wsX1_modulus) := goodIn_app (goodIn_of _ (by decide +kernel)) ggX7_about_X1_modulus
set_option maxRecDepth 20000 in
theorem ggX7_about_X1_order : GoodIn wsX7_about wsX1_order := goodIn_r _ [21, 22, 92, 93, 94] (by decide +kernel) (by decide +kernel)
set_option maxRecDepth 20000 in
theorem gX7_about_X1_order : GoodIn wsX7_about (wsV RX7 29 RX1 yX1_order wsX1_order) := goodIn_app (goodIn_of _ (by decide +kernel)) ggX7_about_X1_order
set_option maxRecDepth 20000 in
theorem ggX7_about_X1_publicKey : GoodIn wsX7_about wsX1_publicKey := goodIn_r _ [26, 27, 92, 93, 94] (by decide +kernel) (by decide +kernel)
set_option maxRecDepth 20000 in
theorem gX7_about_X1_publicKey : GoodIn wsX7_about (wsV RX7 110 RX1 yX1_publicKey wsX1_publicKey) := goodIn_app (goodIn_of _ (by decide +kernel)) ggX7_about_X1_publicKey
set_option maxRecDepth 20000 in
theorem ggX7_about_X6_size : GoodIn wsX7_about wsX6_size := goodIn_r _ [32, 33, 95, 96, 97, 98, 99, 100, 101, 102] (by decide +kernel) (by decide +kernel)
set_option maxRecDepth 20000 in
theorem gX7_about_X6_size : GoodIn wsX7_about (wsV RX7 113 RX6 yX6_size wsX6_size) := goodIn_app (goodIn_of _ (by decide +kernel)) ggX7_about_X6_size
set_option maxRecDepth 20000 in
theorem ggX7_about_X6_needed : GoodIn wsX7_about wsX6_needed := goodIn_r _ [37, 38, 95, 96, 97, 98, 99, 100, 101, 102] (by decide +kernel) (by decide +kernel)
set_option maxRecDepth 20000 in
theorem gX7_about_X6_needed : GoodIn wsX7_about (wsV RX7 116 RX6 yX6_needed wsX6_needed) := goodIn_app (goodIn_of _ (by decide +kernel)) ggX7_about_X6_needed
set_option maxRecDepth 20000 in
theorem ggX7_about_X0_size : GoodIn wsX7_about wsX0_size := goodIn_r _ [43, 44, 103, 104, 105, 106, 107, 108] (by decide +kernel) (by decide +kernel)
set_option maxRecDepth 20000 in
theorem gX7_about_X0_size : GoodIn wsX7_about (wsV RX7 238 RX0 yX0_size wsX0_size) := goodIn_app (goodIn_of _ (by decide +kernel)) ggX7_about_X0_size
set_option maxRecDepth 20000 in
theorem ggX7_about_X6_givers : GoodIn wsX7_about wsX6_givers := goodIn_r _ [48, 49, 95, 96, 97, 98, 99, 100, 101, 102] (by decide +kernel) (by decide +kernel)
set_option maxRecDepth 20000 in
theorem gX7_about_X6_givers : GoodIn wsX7_about (wsV RX7 219 RX6 yX6_givers wsX6_givers) := goodIn_app (goodIn_of _ (by decide +kernel)) ggX7_about_X6_givers
set_option maxRecDepth 20000 in
theorem ggX7_about_X7_aboutStaging : GoodIn wsX7_about wsX7_aboutStaging := goodIn_r _ [54, 5, 55, 7, 56, 57, 58, 59, 60, 61, 62, 63, 64, 65, 66, 67, 68, 69, 70, 71, 72, 73, 74, 75, 76, 77, 78, 79, 80, 81, 82, 83, 84, 85, 86, 87, 88, 89, 90, 91, 109, 110, 111, 112] (by decide +kernel) (by decide +kernel)
set_option maxRecDepth 20000 in
theorem gX7_about_X7_aboutStaging : GoodIn wsX7_about (wsV RX7 239 RX7 yX7_aboutStaging wsX7_aboutStaging) := goodIn_app (goodIn_of _ (by decide +kernel)) ggX7_about_X7_aboutStaging
theorem dX7_about_0 : decode cX7_about 0 = .ok (.iload_n 1, 1) := by decide +kernel
theorem dX7_about_1 : decode cX7_about 1 = .ok (.tableswitch 200 0 15 #[79, 87, 95, 103, 108, 116, 124, 129, 134, 142, 159, 164, 169, 174, 182, 195], 79) := by decide +kernel
theorem dX7_about_80 : decode cX7_about 80 = .ok (.aload_n 0, 1) := by decide +kernel
theorem dX7_about_81 : decode cX7_about 81 = .ok (.getfield 25, 3) := by decide +kernel
theorem dX7_about_84 : decode cX7_about 84 = .ok (.invokevirtual 235, 3) := by decide +kernel
theorem dX7_about_87 : decode cX7_about 87 = .ok (.ireturn, 1) := by decide +kernel
theorem dX7_about_88 : decode cX7_about 88 = .ok (.aload_n 0, 1) := by decide +kernel
theorem dX7_about_89 : decode cX7_about 89 = .ok (.getfield 25, 3) := by decide +kernel
theorem dX7_about_92 : decode cX7_about 92 = .ok (.invokevirtual 29, 3) := by decide +kernel
theorem dX7_about_95 : decode cX7_about 95 = .ok (.ireturn, 1) := by decide +kernel
theorem dX7_about_96 : decode cX7_about 96 = .ok (.aload_n 0, 1) := by decide +kernel
theorem dX7_about_97 : decode cX7_about 97 = .ok (.getfield 25, 3) := by decide +kernel
theorem dX7_about_100 : decode cX7_about 100 = .ok (.invokevirtual 110, 3) := by decide +kernel
theorem dX7_about_103 : decode cX7_about 103 = .ok (.ireturn, 1) := by decide +kernel
theorem dX7_about_104 : decode cX7_about 104 = .ok (.aload_n 0, 1) := by decide +kernel
theorem dX7_about_105 : decode cX7_about 105 = .ok (.getfield 39, 3) := by decide +kernel
theorem dX7_about_108 : decode cX7_about 108 = .ok (.ireturn, 1) := by decide +kernel
theorem dX7_about_109 : decode cX7_about 109 = .ok (.aload_n 0, 1) := by decide +kernel
theorem dX7_about_110 : decode cX7_about 110 = .ok (.getfield 48, 3) := by decide +kernel
theorem dX7_about_113 : decode cX7_about 113 = .ok (.invokevirtual 113, 3) := by decide +kernel
theorem dX7_about_116 : decode cX7_about 116 = .ok (.ireturn, 1) := by decide +kernel
theorem dX7_about_117 : decode cX7_about 117 = .ok (.aload_n 0, 1) := by decide +kernel
theorem dX7_about_118 : decode cX7_about 118 = .ok (.getfield 48, 3) := by decide +kernel
theorem dX7_about_121 : decode cX7_about 121 = .ok (.invokevirtual 116, 3) := by decide +kernel
theorem dX7_about_124 : decode cX7_about 124 = .ok (.ireturn, 1) := by decide +kernel
theorem dX7_about_125 : decode cX7_about 125 = .ok (.aload_n 0, 1) := by decide +kernel
theorem dX7_about_126 : decode cX7_about 126 = .ok (.getfield 123, 3) := by decide +kernel
theorem dX7_about_129 : decode cX7_about 129 = .ok (.ireturn, 1) := by decide +kernel
theorem dX7_about_130 : decode cX7_about 130 = .ok (.aload_n 0, 1) := by decide +kernel
theorem dX7_about_131 : decode cX7_about 131 = .ok (.getfield 97, 3) := by decide +kernel
theorem dX7_about_134 : decode cX7_about 134 = .ok (.ireturn, 1) := by decide +kernel
theorem dX7_about_135 : decode cX7_about 135 = .ok (.aload_n 0, 1) := by decide +kernel
theorem dX7_about_136 : decode cX7_about 136 = .ok (.getfield 55, 3) := by decide +kernel
theorem dX7_about_139 : decode cX7_about 139 = .ok (.invokevirtual 238, 3) := by decide +kernel
theorem dX7_about_142 : decode cX7_about 142 = .ok (.ireturn, 1) := by decide +kernel
theorem dX7_about_143 : decode cX7_about 143 = .ok (.aload_n 0, 1) := by decide +kernel
theorem dX7_about_144 : decode cX7_about 144 = .ok (.getfield 97, 3) := by decide +kernel
theorem dX7_about_147 : decode cX7_about 147 = .ok (.iconst 2, 1) := by decide +kernel
theorem dX7_about_148 : decode cX7_about 148 = .ok (.if_icmp .ge 7, 3) := by decide +kernel
theorem dX7_about_151 : decode cX7_about 151 = .ok (.iconst (-1), 1) := by decide +kernel
theorem dX7_about_152 : decode cX7_about 152 = .ok (.goto 7, 3) := by decide +kernel
theorem dX7_about_155 : decode cX7_about 155 = .ok (.aload_n 0, 1) := by decide +kernel
theorem dX7_about_156 : decode cX7_about 156 = .ok (.getfield 158, 3) := by decide +kernel
theorem dX7_about_159 : decode cX7_about 159 = .ok (.ireturn, 1) := by decide +kernel
theorem dX7_about_160 : decode cX7_about 160 = .ok (.aload_n 0, 1) := by decide +kernel
theorem dX7_about_161 : decode cX7_about 161 = .ok (.getfield 179, 3) := by decide +kernel
theorem dX7_about_164 : decode cX7_about 164 = .ok (.ireturn, 1) := by decide +kernel
theorem dX7_about_165 : decode cX7_about 165 = .ok (.aload_n 0, 1) := by decide +kernel
theorem dX7_about_166 : decode cX7_about 166 = .ok (.getfield 190, 3) := by decide +kernel
theorem dX7_about_169 : decode cX7_about 169 = .ok (.ireturn, 1) := by decide +kernel
theorem dX7_about_170 : decode cX7_about 170 = .ok (.aload_n 0, 1) := by decide +kernel
theorem dX7_about_171 : decode cX7_about 171 = .ok (.getfield 206, 3) := by decide +kernel
theorem dX7_about_174 : decode cX7_about 174 = .ok (.ireturn, 1) := by decide +kernel
theorem dX7_about_175 : decode cX7_about 175 = .ok (.aload_n 0, 1) := by decide +kernel
theorem dX7_about_176 : decode cX7_about 176 = .ok (.getfield 48, 3) := by decide +kernel
theorem dX7_about_179 : decode cX7_about 179 = .ok (.invokevirtual 219, 3) := by decide +kernel
theorem dX7_about_182 : decode cX7_about 182 = .ok (.ireturn, 1) := by decide +kernel
theorem dX7_about_183 : decode cX7_about 183 = .ok (.aload_n 0, 1) := by decide +kernel
theorem dX7_about_184 : decode cX7_about 184 = .ok (.getfield 196, 3) := by decide +kernel
theorem dX7_about_187 : decode cX7_about 187 = .ok (.ifCond .eq 7, 3) := by decide +kernel
theorem dX7_about_190 : decode cX7_about 190 = .ok (.iconst 1, 1) := by decide +kernel
theorem dX7_about_191 : decode cX7_about 191 = .ok (.goto 4, 3) := by decide +kernel
theorem dX7_about_194 : decode cX7_about 194 = .ok (.iconst 0, 1) := by decide +kernel
theorem dX7_about_195 : decode cX7_about 195 = .ok (.ireturn, 1) := by decide +kernel
theorem dX7_about_196 : decode cX7_about 196 = .ok (.aload_n 0, 1) := by decide +kernel
theorem dX7_about_197 : decode cX7_about 197 = .ok (.invokevirtual 239, 3) := by decide +kernel
theorem dX7_about_200 : decode cX7_about 200 = .ok (.ireturn, 1) := by decide +kernel
theorem dX7_about_201 : decode cX7_about 201 = .ok (.iconst (-1), 1) := by decide +kernel
theorem dX7_about_202 : decode cX7_about 202 = .ok (.ireturn, 1) := by decide +kernel
set_option maxRecDepth 20000 in
theorem ggX7_list_X7_isBallot : GoodIn wsX7_list wsX7_isBallot := goodIn_r _ [6, 7, 28, 29, 30, 31, 32, 33, 34, 35, 36, 37, 38, 39, 40, 41, 42, 43, 44, 45, 46, 47] (by decide +kernel) (by decide +kernel)
set_option maxRecDepth 20000 in
theorem gX7_list_X7_isBallot : GoodIn wsX7_list (wsV RX7 165 RX7 yX7_isBallot wsX7_isBallot) := goodIn_app (goodIn_of _ (by decide +kernel)) ggX7_list_X7_isBallot
set_option maxRecDepth 20000 in
theorem ggX7_list_X7_listOf : GoodIn wsX7_list wsX7_listOf := goodIn_r _ [11, 12, 28, 29, 30, 31, 32, 33, 34, 35, 36, 37, 38, 39, 40, 41, 42, 43, 44, 45, 46, 47] (by decide +kernel) (by decide +kernel)
set_option maxRecDepth 20000 in
theorem gX7_list_X7_listOf : GoodIn wsX7_list (wsV RX7 182 RX7 yX7_listOf wsX7_listOf) := goodIn_app (goodIn_of _ (by decide +kernel)) ggX7_list_X7_listOf
set_option maxRecDepth 20000 in
theorem ggX7_list_X4_part : GoodIn wsX7_list wsX4_part := goodIn_r _ [17, 18, 19, 20, 16, 21, 22, 23, 24, 25, 26, 27, 48, 49] (by decide +kernel) (by decide +kernel)
set_option maxRecDepth 20000 in
theorem gX7_list_X4_part : GoodIn wsX7_list (wsV RX7 242 RX4 yX4_part wsX4_part) := goodIn_app (goodIn_of _ (by decide +kernel)) ggX7_list_X4_part
theorem dX7_list_0 : decode cX7_list 0 = .ok (.iload_n 1, 1) := by decide +kernel
theorem dX7_list_1 : decode cX7_list 1 = .ok (.ifCond .lt 32, 3) := by decide +kernel
theorem dX7_list_4 : decode cX7_list 4 = .ok (.iload_n 1, 1) := by decide +kernel
theorem dX7_list_5 : decode cX7_list 5 = .ok (.aload_n 0, 1) := by decide +kernel
theorem dX7_list_6 : decode cX7_list 6 = .ok (.getfield 179, 3) := by decide +kernel
theorem dX7_list_9 : decode cX7_list 9 = .ok (.if_icmp .gt 24, 3) := by decide +kernel
theorem dX7_list_12 : decode cX7_list 12 = .ok (.aload_n 0, 1) := by decide +kernel
theorem dX7_list_13 : decode cX7_list 13 = .ok (.iload_n 2, 1) := by decide +kernel
theorem dX7_list_14 : decode cX7_list 14 = .ok (.invokevirtual 165, 3) := by decide +kernel
theorem dX7_list_17 : decode cX7_list 17 = .ok (.ifCond .eq 16, 3) := by decide +kernel
theorem dX7_list_20 : decode cX7_list 20 = .ok (.aload_n 0, 1) := by decide +kernel
theorem dX7_list_21 : decode cX7_list 21 = .ok (.iload_n 1, 1) := by decide +kernel
theorem dX7_list_22 : decode cX7_list 22 = .ok (.invokevirtual 182, 3) := by decide +kernel
theorem dX7_list_25 : decode cX7_list 25 = .ok (.iload_n 2, 1) := by decide +kernel
theorem dX7_list_26 : decode cX7_list 26 = .ok (.iload_n 3, 1) := by decide +kernel
theorem dX7_list_27 : decode cX7_list 27 = .ok (.invokevirtual 242, 3) := by decide +kernel
theorem dX7_list_30 : decode cX7_list 30 = .ok (.goto 4, 3) := by decide +kernel
theorem dX7_list_33 : decode cX7_list 33 = .ok (.iconst (-1), 1) := by decide +kernel
theorem dX7_list_34 : decode cX7_list 34 = .ok (.ireturn, 1) := by decide +kernel
set_option maxRecDepth 20000 in
theorem ggX7_shadowOf_X7_isBallot : GoodIn wsX7_shadowOf wsX7_isBallot := goodIn_r _ [6, 7, 23, 24, 25, 26, 27, 28, 29, 30, 31, 32, 33, 34, 35, 36, 37, 38, 39, 40, 41, 42] (by decide +kernel) (by decide +kernel)
set_option maxRecDepth 20000 in
theorem gX7_shadowOf_X7_isBallot : GoodIn wsX7_shadowOf (wsV RX7 165 RX7 yX7_isBallot wsX7_isBallot) := goodIn_app (goodIn_of _ (by decide +kernel)) ggX7_shadowOf_X7_isBallot
set_option maxRecDepth 20000 in
theorem ggX7_shadowOf_X4_part : GoodIn wsX7_shadowOf wsX4_part := goodIn_r _ [12, 13, 14, 15, 11, 16, 17, 18, 19, 20, 21, 22, 43, 44] (by decide +kernel) (by decide +kernel)
set_option maxRecDepth 20000 in
theorem gX7_shadowOf_X4_part : GoodIn wsX7_shadowOf (wsV RX7 242 RX4 yX4_part wsX4_part) := goodIn_app (goodIn_of _ (by decide +kernel)) ggX7_shadowOf_X4_part
theorem dX7_shadowOf_0 : decode cX7_shadowOf 0 = .ok (.aload_n 0, 1) := by decide +kernel
theorem dX7_shadowOf_1 : decode cX7_shadowOf 1 = .ok (.iload_n 1, 1) := by decide +kernel
theorem dX7_shadowOf_2 : decode cX7_shadowOf 2 = .ok (.invokevirtual 165, 3) := by decide +kernel
theorem dX7_shadowOf_5 : decode cX7_shadowOf 5 = .ok (.ifCond .eq 15, 3) := by decide +kernel
theorem dX7_shadowOf_8 : decode cX7_shadowOf 8 = .ok (.aload_n 0, 1) := by decide +kernel
theorem dX7_shadowOf_9 : decode cX7_shadowOf 9 = .ok (.getfield 70, 3) := by decide +kernel
theorem dX7_shadowOf_12 : decode cX7_shadowOf 12 = .ok (.iload_n 1, 1) := by decide +kernel
theorem dX7_shadowOf_13 : decode cX7_shadowOf 13 = .ok (.iload_n 2, 1) := by decide +kernel
theorem dX7_shadowOf_14 : decode cX7_shadowOf 14 = .ok (.invokevirtual 242, 3) := by decide +kernel
theorem dX7_shadowOf_17 : decode cX7_shadowOf 17 = .ok (.goto 4, 3) := by decide +kernel
theorem dX7_shadowOf_20 : decode cX7_shadowOf 20 = .ok (.iconst (-1), 1) := by decide +kernel
theorem dX7_shadowOf_21 : decode cX7_shadowOf 21 = .ok (.ireturn, 1) := by decide +kernel
set_option maxRecDepth 20000 in
theorem ggX7_shown_X7_isBallot : GoodIn wsX7_shown wsX7_isBallot := goodIn_r _ [6, 7, 19, 20, 21, 22, 23, 24, 25, 26, 27, 28, 29, 30, 31, 32, 33, 34, 35, 36, 37, 38] (by decide +kernel) (by decide +kernel)
set_option maxRecDepth 20000 in
theorem gX7_shown_X7_isBallot : GoodIn wsX7_shown (wsV RX7 165 RX7 yX7_isBallot wsX7_isBallot) := goodIn_app (goodIn_of _ (by decide +kernel)) ggX7_shown_X7_isBallot
set_option maxRecDepth 20000 in
theorem ggX7_shown_X2_target : GoodIn wsX7_shown wsX2_target := goodIn_r _ [12, 13, 39, 40] (by decide +kernel) (by decide +kernel)
set_option maxRecDepth 20000 in
theorem gX7_shown_X2_target : GoodIn wsX7_shown (wsV RX7 245 RX2 yX2_target wsX2_target) := goodIn_app (goodIn_of _ (by decide +kernel)) ggX7_shown_X2_target
set_option maxRecDepth 20000 in
theorem ggX7_shown_X2_exponent : GoodIn wsX7_shown wsX2_exponent := goodIn_r _ [17, 18, 39, 40] (by decide +kernel) (by decide +kernel)
set_option maxRecDepth 20000 in
theorem gX7_shown_X2_exponent : GoodIn wsX7_shown (wsV RX7 248 RX2 yX2_exponent wsX2_exponent) := goodIn_app (goodIn_of _ (by decide +kernel)) ggX7_shown_X2_exponent
theorem dX7_shown_0 : decode cX7_shown 0 = .ok (.aload_n 0, 1) := by decide +kernel
theorem dX7_shown_1 : decode cX7_shown 1 = .ok (.iload_n 1, 1) := by decide +kernel
theorem dX7_shown_2 : decode cX7_shown 2 = .ok (.invokevirtual 165, 3) := by decide +kernel
theorem dX7_shown_5 : decode cX7_shown 5 = .ok (.ifCond .ne 5, 3) := by decide +kernel
theorem dX7_shown_8 : decode cX7_shown 8 = .ok (.iconst (-1), 1) := by decide +kernel
theorem dX7_shown_9 : decode cX7_shown 9 = .ok (.ireturn, 1) := by decide +kernel
theorem dX7_shown_10 : decode cX7_shown 10 = .ok (.iload_n 2, 1) := by decide +kernel
theorem dX7_shown_11 : decode cX7_shown 11 = .ok (.lookupswitch 43 #[(0, 25), (1, 34)], 25) := by decide +kernel
theorem dX7_shown_36 : decode cX7_shown 36 = .ok (.aload_n 0, 1) := by decide +kernel
theorem dX7_shown_37 : decode cX7_shown 37 = .ok (.getfield 90, 3) := by decide +kernel
theorem dX7_shown_40 : decode cX7_shown 40 = .ok (.iload_n 1, 1) := by decide +kernel
theorem dX7_shown_41 : decode cX7_shown 41 = .ok (.invokevirtual 245, 3) := by decide +kernel
theorem dX7_shown_44 : decode cX7_shown 44 = .ok (.ireturn, 1) := by decide +kernel
theorem dX7_shown_45 : decode cX7_shown 45 = .ok (.aload_n 0, 1) := by decide +kernel
theorem dX7_shown_46 : decode cX7_shown 46 = .ok (.getfield 90, 3) := by decide +kernel
theorem dX7_shown_49 : decode cX7_shown 49 = .ok (.iload_n 1, 1) := by decide +kernel
theorem dX7_shown_50 : decode cX7_shown 50 = .ok (.invokevirtual 248, 3) := by decide +kernel
theorem dX7_shown_53 : decode cX7_shown 53 = .ok (.ireturn, 1) := by decide +kernel
theorem dX7_shown_54 : decode cX7_shown 54 = .ok (.iconst (-1), 1) := by decide +kernel
theorem dX7_shown_55 : decode cX7_shown 55 = .ok (.ireturn, 1) := by decide +kernel
set_option maxRecDepth 20000 in
theorem ggX7_given_X7_isBallot : GoodIn wsX7_given wsX7_isBallot := goodIn_r _ [6, 7, 24, 25, 26, 27, 28, 29, 30, 31, 32, 33, 34, 35, 36, 37, 38, 39, 40, 41, 42, 43] (by decide +kernel) (by decide +kernel)
set_option maxRecDepth 20000 in
theorem gX7_given_X7_isBallot : GoodIn wsX7_given (wsV RX7 165 RX7 yX7_isBallot wsX7_isBallot) := goodIn_app (goodIn_of _ (by decide +kernel)) ggX7_given_X7_isBallot
set_option maxRecDepth 20000 in
theorem ggX7_given_X6_gift : GoodIn wsX7_given wsX6_gift := goodIn_r _ [12, 13, 14, 15, 16, 11, 17, 18, 19, 20, 21, 22, 23, 44, 45, 46, 47, 48, 49, 50, 51] (by decide +kernel) (by decide +kernel)
set_option maxRecDepth 20000 in
theorem gX7_given_X6_gift : GoodIn wsX7_given (wsV RX7 251 RX6 yX6_gift wsX6_gift) := goodIn_app (goodIn_of _ (by decide +kernel)) ggX7_given_X6_gift
theorem dX7_given_0 : decode cX7_given 0 = .ok (.aload_n 0, 1) := by decide +kernel
theorem dX7_given_1 : decode cX7_given 1 = .ok (.iload_n 2, 1) := by decide +kernel
theorem dX7_given_2 : decode cX7_given 2 = .ok (.invokevirtual 165, 3) := by decide +kernel
theorem dX7_given_5 : decode cX7_given 5 = .ok (.ifCond .eq 15, 3) := by decide +kernel
theorem dX7_given_8 : decode cX7_given 8 = .ok (.aload_n 0, 1) := by decide +kernel
theorem dX7_given_9 : decode cX7_given 9 = .ok (.getfield 48, 3) := by decide +kernel
theorem dX7_given_12 : decode cX7_given 12 = .ok (.iload_n 1, 1) := by decide +kernel
theorem dX7_given_13 : decode cX7_given 13 = .ok (.iload_n 2, 1) := by decide +kernel
theorem dX7_given_14 : decode cX7_given 14 = .ok (.invokevirtual 251, 3) := by decide +kernel
theorem dX7_given_17 : decode cX7_given 17 = .ok (.goto 4, 3) := by decide +kernel
theorem dX7_given_20 : decode cX7_given 20 = .ok (.iconst (-1), 1) := by decide +kernel
theorem dX7_given_21 : decode cX7_given 21 = .ok (.ireturn, 1) := by decide +kernel
set_option maxRecDepth 20000 in
theorem ggX7_entry_X0_field : GoodIn wsX7_entry wsX0_field := goodIn_r _ [6, 7, 8, 9, 10, 11, 12, 13, 5, 14, 15, 36, 37, 38, 39, 40, 41] (by decide +kernel) (by decide +kernel)
set_option maxRecDepth 20000 in
theorem gX7_entry_X0_field : GoodIn wsX7_entry (wsV RX7 254 RX0 yX0_field wsX0_field) := goodIn_app (goodIn_of _ (by decide +kernel)) ggX7_entry_X0_field
theorem dX7_entry_0 : decode cX7_entry 0 = .ok (.aload_n 0, 1) := by decide +kernel
theorem dX7_entry_1 : decode cX7_entry 1 = .ok (.getfield 55, 3) := by decide +kernel
theorem dX7_entry_4 : decode cX7_entry 4 = .ok (.iload_n 1, 1) := by decide +kernel
theorem dX7_entry_5 : decode cX7_entry 5 = .ok (.iload_n 2, 1) := by decide +kernel
theorem dX7_entry_6 : decode cX7_entry 6 = .ok (.invokevirtual 254, 3) := by decide +kernel
theorem dX7_entry_9 : decode cX7_entry 9 = .ok (.lreturn, 1) := by decide +kernel
set_option maxRecDepth 20000 in
theorem ggX7_chain_X0_chainOf : GoodIn wsX7_chain wsX0_chainOf := goodIn_r _ [6, 7, 8, 9, 10, 11, 5, 12, 13, 34, 35, 36, 37, 38, 39] (by decide +kernel) (by decide +kernel)
set_option maxRecDepth 20000 in
theorem gX7_chain_X0_chainOf : GoodIn wsX7_chain (wsV RX7 257 RX0 yX0_chainOf wsX0_chainOf) := goodIn_app (goodIn_of _ (by decide +kernel)) ggX7_chain_X0_chainOf
theorem dX7_chain_0 : decode cX7_chain 0 = .ok (.aload_n 0, 1) := by decide +kernel
theorem dX7_chain_1 : decode cX7_chain 1 = .ok (.getfield 55, 3) := by decide +kernel
theorem dX7_chain_4 : decode cX7_chain 4 = .ok (.iload_n 1, 1) := by decide +kernel
theorem dX7_chain_5 : decode cX7_chain 5 = .ok (.invokevirtual 257, 3) := by decide +kernel
theorem dX7_chain_8 : decode cX7_chain 8 = .ok (.lreturn, 1) := by decide +kernel
set_option maxRecDepth 20000 in
theorem ggX7_aboutStaging_X5_isWhole : GoodIn wsX7_aboutStaging wsX5_isWhole := goodIn_r _ [8, 9, 10, 11, 12, 13, 14, 15, 16, 17, 18, 19, 40, 41, 42, 43] (by decide +kernel) (by decide +kernel)
set_option maxRecDepth 20000 in
theorem gX7_aboutStaging_X5_isWhole : GoodIn wsX7_aboutStaging (wsV RX7 269 RX5 yX5_isWhole wsX5_isWhole) := goodIn_app (goodIn_of _ (by decide +kernel)) ggX7_aboutStaging_X5_isWhole
theorem dX7_aboutStaging_0 : decode cX7_aboutStaging 0 = .ok (.aload_n 0, 1) := by decide +kernel
theorem dX7_aboutStaging_1 : decode cX7_aboutStaging 1 = .ok (.getfield 97, 3) := by decide +kernel
theorem dX7_aboutStaging_4 : decode cX7_aboutStaging 4 = .ok (.iconst 2, 1) := by decide +kernel
theorem dX7_aboutStaging_5 : decode cX7_aboutStaging 5 = .ok (.if_icmp .eq 5, 3) := by decide +kernel
theorem dX7_aboutStaging_8 : decode cX7_aboutStaging 8 = .ok (.iconst (-1), 1) := by decide +kernel
theorem dX7_aboutStaging_9 : decode cX7_aboutStaging 9 = .ok (.ireturn, 1) := by decide +kernel
theorem dX7_aboutStaging_10 : decode cX7_aboutStaging 10 = .ok (.aload_n 0, 1) := by decide +kernel
theorem dX7_aboutStaging_11 : decode cX7_aboutStaging 11 = .ok (.getfield 76, 3) := by decide +kernel
theorem dX7_aboutStaging_14 : decode cX7_aboutStaging 14 = .ok (.aload_n 0, 1) := by decide +kernel
theorem dX7_aboutStaging_15 : decode cX7_aboutStaging 15 = .ok (.getfield 158, 3) := by decide +kernel
theorem dX7_aboutStaging_18 : decode cX7_aboutStaging 18 = .ok (.invokevirtual 269, 3) := by decide +kernel
theorem dX7_aboutStaging_21 : decode cX7_aboutStaging 21 = .ok (.ifCond .eq 7, 3) := by decide +kernel
theorem dX7_aboutStaging_24 : decode cX7_aboutStaging 24 = .ok (.iconst 1, 1) := by decide +kernel
theorem dX7_aboutStaging_25 : decode cX7_aboutStaging 25 = .ok (.goto 4, 3) := by decide +kernel
theorem dX7_aboutStaging_28 : decode cX7_aboutStaging 28 = .ok (.iconst 0, 1) := by decide +kernel
theorem dX7_aboutStaging_29 : decode cX7_aboutStaging 29 = .ok (.ireturn, 1) := by decide +kernel
set_option maxRecDepth 20000 in
theorem ggX7_countBallots_X6_weighFirstGivers : GoodIn wsX7_countBallots wsX6_weighFirstGivers := goodIn_r _ [10, 11, 12, 13, 14, 15, 9, 16, 17, 18, 19, 20, 21, 22, 23, 24, 25, 26, 27, 28, 29, 30, 31, 32, 33, 34, 35, 36, 37, 38, 39, 40, 41, 42, 43, 44, 45, 46, 47, 48, 49, 50, 51, 120, 121, 122, 123, 124, 125, 126, 127, 128, 129, 130] (by decide +kernel) (by decide +kernel)
set_option maxRecDepth 20000 in
theorem gX7_countBallots_X6_weighFirstGivers : GoodIn wsX7_countBallots (wsV RX7 294 RX6 yX6_weighFirstGivers wsX6_weighFirstGivers) := goodIn_app (goodIn_of _ (by decide +kernel)) ggX7_countBallots_X6_weighFirstGivers
set_option maxRecDepth 20000 in
theorem ggX7_countBallots_X7_listOf : GoodIn wsX7_countBallots wsX7_listOf := goodIn_r _ [56, 57, 100, 101, 102, 103, 104, 105, 106, 107, 108, 109, 110, 111, 112, 113, 114, 115, 116, 117, 118, 119] (by decide +kernel) (by decide +kernel)
set_option maxRecDepth 20000 in
theorem gX7_countBallots_X7_listOf : GoodIn wsX7_countBallots (wsV RX7 182 RX7 yX7_listOf wsX7_listOf) := goodIn_app (goodIn_of _ (by decide +kernel)) ggX7_countBallots_X7_listOf
set_option maxRecDepth 20000 in
theorem ggX7_countBallots_X4_second : GoodIn wsX7_countBallots wsX4_second := goodIn_r _ [62, 63, 131, 132] (by decide +kernel) (by decide +kernel)
set_option maxRecDepth 20000 in
theorem gX7_countBallots_X4_second : GoodIn wsX7_countBallots (wsV RX7 266 RX4 yX4_second wsX4_second) := goodIn_app (goodIn_of _ (by decide +kernel)) ggX7_countBallots_X4_second
set_option maxRecDepth 20000 in
theorem ggX7_countBallots_X6_joinedGift : GoodIn wsX7_countBallots wsX6_joinedGift := goodIn_r _ [67, 11, 12, 31, 68, 69, 70, 9, 71, 72, 18, 19, 20, 21, 22, 23, 24, 25, 26, 73, 74, 75, 35, 76, 77, 78, 49, 40, 50, 51, 39, 41, 79, 80, 81, 82, 83, 120, 121, 122, 123, 124, 125, 126, 127, 128, 129, 130] (by decide +kernel) (by decide +kernel)
set_option maxRecDepth 20000 in
theorem gX7_countBallots_X6_joinedGift : GoodIn wsX7_countBallots (wsV RX7 297 RX6 yX6_joinedGift wsX6_joinedGift) := goodIn_app (goodIn_of _ (by decide +kernel)) ggX7_countBallots_X6_joinedGift
set_option maxRecDepth 20000 in
theorem ggX7_countBallots_X1_divided : GoodIn wsX7_countBallots wsX1_divided := goodIn_r _ [87, 77, 88, 46, 40, 47, 48, 49, 50, 51, 39, 41, 89, 80, 81, 35, 82, 83, 128, 129, 130] (by decide +kernel) (by decide +kernel)
set_option maxRecDepth 20000 in
theorem gX7_countBallots_X1_divided : GoodIn wsX7_countBallots (wsV RX7 300 RX1 yX1_divided wsX1_divided) := goodIn_app (goodIn_of _ (by decide +kernel)) ggX7_countBallots_X1_divided
set_option maxRecDepth 20000 in
theorem ggX7_countBallots_X7_candidateOf : GoodIn wsX7_countBallots wsX7_candidateOf := goodIn_r _ [93, 94, 3, 95, 96, 97, 35, 98, 99, 74, 75, 76, 77, 78, 49, 40, 50, 51, 39, 41, 100, 101, 102, 103, 104, 105, 106, 107, 108, 109, 110, 111, 112, 113, 114, 115, 116, 117, 118, 119, 128, 129, 130] (by decide +kernel) (by decide +kernel)
set_option maxRecDepth 20000 in
theorem gX7_countBallots_X7_candidateOf : GoodIn wsX7_countBallots (wsV RX7 303 RX7 yX7_candidateOf wsX7_candidateOf) := goodIn_app (goodIn_of _ (by decide +kernel)) ggX7_countBallots_X7_candidateOf
theorem dX7_countBallots_0 : decode cX7_countBallots 0 = .ok (.aload_n 0, 1) := by decide +kernel
theorem dX7_countBallots_1 : decode cX7_countBallots 1 = .ok (.getfield 48, 3) := by decide +kernel
theorem dX7_countBallots_4 : decode cX7_countBallots 4 = .ok (.invokevirtual 294, 3) := by decide +kernel
theorem dX7_countBallots_7 : decode cX7_countBallots 7 = .ok (.iconst 0, 1) := by decide +kernel
theorem dX7_countBallots_8 : decode cX7_countBallots 8 = .ok (.istore_n 1, 1) := by decide +kernel
theorem dX7_countBallots_9 : decode cX7_countBallots 9 = .ok (.iload_n 1, 1) := by decide +kernel
theorem dX7_countBallots_10 : decode cX7_countBallots 10 = .ok (.aload_n 0, 1) := by decide +kernel
theorem dX7_countBallots_11 : decode cX7_countBallots 11 = .ok (.getfield 158, 3) := by decide +kernel
theorem dX7_countBallots_14 : decode cX7_countBallots 14 = .ok (.if_icmp .ge 64, 3) := by decide +kernel
theorem dX7_countBallots_17 : decode cX7_countBallots 17 = .ok (.aload_n 0, 1) := by decide +kernel
theorem dX7_countBallots_18 : decode cX7_countBallots 18 = .ok (.aload_n 0, 1) := by decide +kernel
theorem dX7_countBallots_19 : decode cX7_countBallots 19 = .ok (.getfield 25, 3) := by decide +kernel
theorem dX7_countBallots_22 : decode cX7_countBallots 22 = .ok (.aload_n 0, 1) := by decide +kernel
theorem dX7_countBallots_23 : decode cX7_countBallots 23 = .ok (.aload_n 0, 1) := by decide +kernel
theorem dX7_countBallots_24 : decode cX7_countBallots 24 = .ok (.getfield 179, 3) := by decide +kernel
theorem dX7_countBallots_27 : decode cX7_countBallots 27 = .ok (.invokevirtual 182, 3) := by decide +kernel
theorem dX7_countBallots_30 : decode cX7_countBallots 30 = .ok (.iload_n 1, 1) := by decide +kernel
theorem dX7_countBallots_31 : decode cX7_countBallots 31 = .ok (.invokevirtual 266, 3) := by decide +kernel
theorem dX7_countBallots_34 : decode cX7_countBallots 34 = .ok (.aload_n 0, 1) := by decide +kernel
theorem dX7_countBallots_35 : decode cX7_countBallots 35 = .ok (.getfield 48, 3) := by decide +kernel
theorem dX7_countBallots_38 : decode cX7_countBallots 38 = .ok (.iload_n 1, 1) := by decide +kernel
theorem dX7_countBallots_39 : decode cX7_countBallots 39 = .ok (.invokevirtual 297, 3) := by decide +kernel
theorem dX7_countBallots_42 : decode cX7_countBallots 42 = .ok (.invokevirtual 300, 3) := by decide +kernel
theorem dX7_countBallots_45 : decode cX7_countBallots 45 = .ok (.invokevirtual 303, 3) := by decide +kernel
theorem dX7_countBallots_48 : decode cX7_countBallots 48 = .ok (.istore_n 2, 1) := by decide +kernel
theorem dX7_countBallots_49 : decode cX7_countBallots 49 = .ok (.iload_n 2, 1) := by decide +kernel
theorem dX7_countBallots_50 : decode cX7_countBallots 50 = .ok (.ifCond .lt 22, 3) := by decide +kernel
theorem dX7_countBallots_53 : decode cX7_countBallots 53 = .ok (.iload_n 2, 1) := by decide +kernel
theorem dX7_countBallots_54 : decode cX7_countBallots 54 = .ok (.aload_n 0, 1) := by decide +kernel
theorem dX7_countBallots_55 : decode cX7_countBallots 55 = .ok (.getfield 93, 3) := by decide +kernel
theorem dX7_countBallots_58 : decode cX7_countBallots 58 = .ok (.arraylength, 1) := by decide +kernel
theorem dX7_countBallots_59 : decode cX7_countBallots 59 = .ok (.if_icmp .ge 13, 3) := by decide +kernel
theorem dX7_countBallots_62 : decode cX7_countBallots 62 = .ok (.aload_n 0, 1) := by decide +kernel
theorem dX7_countBallots_63 : decode cX7_countBallots 63 = .ok (.getfield 93, 3) := by decide +kernel
theorem dX7_countBallots_66 : decode cX7_countBallots 66 = .ok (.iload_n 2, 1) := by decide +kernel
theorem dX7_countBallots_67 : decode cX7_countBallots 67 = .ok (.dup2, 1) := by decide +kernel
theorem dX7_countBallots_68 : decode cX7_countBallots 68 = .ok (.iaload, 1) := by decide +kernel
theorem dX7_countBallots_69 : decode cX7_countBallots 69 = .ok (.iconst 1, 1) := by decide +kernel
theorem dX7_countBallots_70 : decode cX7_countBallots 70 = .ok (.iadd, 1) := by decide +kernel
theorem dX7_countBallots_71 : decode cX7_countBallots 71 = .ok (.iastore, 1) := by decide +kernel
theorem dX7_countBallots_72 : decode cX7_countBallots 72 = .ok (.iinc 1 1, 3) := by decide +kernel
theorem dX7_countBallots_75 : decode cX7_countBallots 75 = .ok (.goto (-66), 3) := by decide +kernel
theorem dX7_countBallots_78 : decode cX7_countBallots 78 = .ok (.return_, 1) := by decide +kernel
set_option maxRecDepth 20000 in
theorem ggX7_candidateOf_X1_markOf : GoodIn wsX7_candidateOf wsX1_markOf := goodIn_r _ [7, 8, 9, 10, 6, 11, 12, 13, 14, 15, 16, 17, 18, 19, 40, 41, 42] (by decide +kernel) (by decide +kernel)
set_option maxRecDepth 20000 in
theorem gX7_candidateOf_X1_markOf : GoodIn wsX7_candidateOf (wsV RX7 139 RX1 yX1_markOf wsX1_markOf) := goodIn_app (goodIn_of _ (by decide +kernel)) ggX7_candidateOf_X1_markOf
theorem dX7_candidateOf_0 : decode cX7_candidateOf 0 = .ok (.iconst 0, 1) := by decide +kernel
theorem dX7_candidateOf_1 : decode cX7_candidateOf 1 = .ok (.istore_n 2, 1) := by decide +kernel
theorem dX7_candidateOf_2 : decode cX7_candidateOf 2 = .ok (.iload_n 2, 1) := by decide +kernel
theorem dX7_candidateOf_3 : decode cX7_candidateOf 3 = .ok (.aload_n 0, 1) := by decide +kernel
theorem dX7_candidateOf_4 : decode cX7_candidateOf 4 = .ok (.getfield 39, 3) := by decide +kernel
theorem dX7_candidateOf_7 : decode cX7_candidateOf 7 = .ok (.if_icmp .ge 23, 3) := by decide +kernel
theorem dX7_candidateOf_10 : decode cX7_candidateOf 10 = .ok (.aload_n 0, 1) := by decide +kernel
theorem dX7_candidateOf_11 : decode cX7_candidateOf 11 = .ok (.getfield 25, 3) := by decide +kernel
theorem dX7_candidateOf_14 : decode cX7_candidateOf 14 = .ok (.iload_n 2, 1) := by decide +kernel
theorem dX7_candidateOf_15 : decode cX7_candidateOf 15 = .ok (.invokevirtual 139, 3) := by decide +kernel
theorem dX7_candidateOf_18 : decode cX7_candidateOf 18 = .ok (.iload_n 1, 1) := by decide +kernel
theorem dX7_candidateOf_19 : decode cX7_candidateOf 19 = .ok (.if_icmp .ne 5, 3) := by decide +kernel
theorem dX7_candidateOf_22 : decode cX7_candidateOf 22 = .ok (.iload_n 2, 1) := by decide +kernel
theorem dX7_candidateOf_23 : decode cX7_candidateOf 23 = .ok (.ireturn, 1) := by decide +kernel
theorem dX7_candidateOf_24 : decode cX7_candidateOf 24 = .ok (.iinc 2 1, 3) := by decide +kernel
theorem dX7_candidateOf_27 : decode cX7_candidateOf 27 = .ok (.goto (-25), 3) := by decide +kernel
theorem dX7_candidateOf_30 : decode cX7_candidateOf 30 = .ok (.aload_n 0, 1) := by decide +kernel
theorem dX7_candidateOf_31 : decode cX7_candidateOf 31 = .ok (.getfield 39, 3) := by decide +kernel
theorem dX7_candidateOf_34 : decode cX7_candidateOf 34 = .ok (.ireturn, 1) := by decide +kernel
set_option maxRecDepth 20000 in
theorem ggX7_digestOfCounts_X7_count : GoodIn wsX7_digestOfCounts wsX7_count := goodIn_r _ [6, 7, 8, 14, 15, 16, 17, 18, 19, 20, 21, 22, 23, 24, 25, 26, 27, 28, 29, 30, 31, 32, 33] (by decide +kernel) (by decide +kernel)
set_option maxRecDepth 20000 in
theorem gX7_digestOfCounts_X7_count : GoodIn wsX7_digestOfCounts (wsV RX7 228 RX7 yX7_count wsX7_count) := goodIn_app (goodIn_of _ (by decide +kernel)) ggX7_digestOfCounts_X7_count
set_option maxRecDepth 20000 in
theorem ggX7_digestOfCounts_X3_digested : GoodIn wsX7_digestOfCounts wsX3_digested := goodIn_r _ [12, 13] (by decide +kernel) (by decide +kernel)
set_option maxRecDepth 20000 in
theorem gX7_digestOfCounts_X3_digested : GoodIn wsX7_digestOfCounts (va_wsS RX7 306 yX3_digested wsX3_digested) := goodIn_app (goodIn_of _ (by decide +kernel)) ggX7_digestOfCounts_X3_digested
theorem dX7_digestOfCounts_0 : decode cX7_digestOfCounts 0 = .ok (.lconst 0, 1) := by decide +kernel
theorem dX7_digestOfCounts_1 : decode cX7_digestOfCounts 1 = .ok (.lstore_n 1, 1) := by decide +kernel
theorem dX7_digestOfCounts_2 : decode cX7_digestOfCounts 2 = .ok (.iconst 0, 1) := by decide +kernel
theorem dX7_digestOfCounts_3 : decode cX7_digestOfCounts 3 = .ok (.istore_n 3, 1) := by decide +kernel
theorem dX7_digestOfCounts_4 : decode cX7_digestOfCounts 4 = .ok (.iload_n 3, 1) := by decide +kernel
theorem dX7_digestOfCounts_5 : decode cX7_digestOfCounts 5 = .ok (.aload_n 0, 1) := by decide +kernel
theorem dX7_digestOfCounts_6 : decode cX7_digestOfCounts 6 = .ok (.getfield 39, 3) := by decide +kernel
theorem dX7_digestOfCounts_9 : decode cX7_digestOfCounts 9 = .ok (.if_icmp .ge 20, 3) := by decide +kernel
theorem dX7_digestOfCounts_12 : decode cX7_digestOfCounts 12 = .ok (.lload_n 1, 1) := by decide +kernel
theorem dX7_digestOfCounts_13 : decode cX7_digestOfCounts 13 = .ok (.aload_n 0, 1) := by decide +kernel
theorem dX7_digestOfCounts_14 : decode cX7_digestOfCounts 14 = .ok (.iload_n 3, 1) := by decide +kernel
theorem dX7_digestOfCounts_15 : decode cX7_digestOfCounts 15 = .ok (.invokevirtual 228, 3) := by decide +kernel
theorem dX7_digestOfCounts_18 : decode cX7_digestOfCounts 18 = .ok (.i2l, 1) := by decide +kernel
theorem dX7_digestOfCounts_19 : decode cX7_digestOfCounts 19 = .ok (.invokestatic 306, 3) := by decide +kernel
theorem dX7_digestOfCounts_22 : decode cX7_digestOfCounts 22 = .ok (.lstore_n 1, 1) := by decide +kernel
theorem dX7_digestOfCounts_23 : decode cX7_digestOfCounts 23 = .ok (.iinc 3 1, 3) := by decide +kernel
theorem dX7_digestOfCounts_26 : decode cX7_digestOfCounts 26 = .ok (.goto (-22), 3) := by decide +kernel
theorem dX7_digestOfCounts_29 : decode cX7_digestOfCounts 29 = .ok (.lload_n 1, 1) := by decide +kernel
theorem dX7_digestOfCounts_30 : decode cX7_digestOfCounts 30 = .ok (.lreturn, 1) := by decide +kernel
def abv (x : Int32) (l : List Int32) : Int32 := if x.toInt < 0 then -1 else l.getD x.toInt.toNat (-1)
theorem abv_out {x : Int32} {l : List Int32} (h : x.toInt < 0 ∨ 15 < x.toInt) (hl : l.length = 16) : (-1 : Int32) = abv x l := by
  unfold abv
  split
  · rfl
  · rw [List.getD_eq_getElem?_getD, List.getElem?_eq_none (by omega)]; rfl
theorem sw_16 (x : Int32) : x = 0 ∨ x = 1 ∨ x = 2 ∨ x = 3 ∨ x = 4 ∨ x = 5 ∨ x = 6 ∨ x = 7 ∨ x = 8 ∨ x = 9 ∨ x = 10 ∨ x = 11 ∨ x = 12 ∨ x = 13 ∨ x = 14 ∨ x = 15 ∨ (x.toInt < 0 ∨ 15 < x.toInt) := by
  by_cases h : x.toInt < 0 ∨ 15 < x.toInt
  · simp [h]
  · have e : x = Int32.ofInt x.toInt := (Int32.ofInt_toInt x).symm
    have h2 : x.toInt = 0 ∨ x.toInt = 1 ∨ x.toInt = 2 ∨ x.toInt = 3 ∨ x.toInt = 4 ∨ x.toInt = 5 ∨ x.toInt = 6 ∨ x.toInt = 7 ∨ x.toInt = 8 ∨ x.toInt = 9 ∨ x.toInt = 10 ∨ x.toInt = 11 ∨ x.toInt = 12 ∨ x.toInt = 13 ∨ x.toInt = 14 ∨ x.toInt = 15 := by omega
    rcases h2 with q | q | q | q | q | q | q | q | q | q | q | q | q | q | q | q <;> rw [q] at e <;> rw [e] <;> decide
theorem ab_9 {a b c d g h i j k l m n o q r x y : Int32} (e : x = y) : x = abv 9 [a, b, c, d, g, h, i, j, k, y, l, m, n, o, q, r] := e
theorem ab_14 {a b c d g h i j k l m n o q r x y : Int32} (e : x = y) : x = abv 14 [a, b, c, d, g, h, i, j, k, l, m, n, o, q, y, r] := e
theorem co_next {P v : Int32} {k : Nat} (h : ∀ j : Nat, j < k → (fun c => decide (pw P 32 (c + 1) 1 4 = v)) j = false) (c : ¬ pw P 32 (k + 1) 1 4 = v) : ∀ j : Nat, j < k + 1 → (fun c => decide (pw P 32 (c + 1) 1 4 = v)) j = false := by
  intro j hj
  by_cases e : j = k
  · rw [e]; exact decide_eq_false c
  · exact h j (by omega)
theorem ct_n {st z : Int32} {k c0 : Nat} {ctf : Nat → Int32} (hst : st = 3) (hz : z = nI k) (hk : k < c0) (hc1 : c0 ≤ 10) : (if st = 3 ∧ 0 ≤ z ∧ z < nI (c0 + 1) then ctf z.toNatClampNeg else -1) = ctf k := by
  rw [if_pos ⟨hst, by rw [hz]; exact nI_pos' (by omega), by rw [hz]; exact nI_lt (by omega) (by omega)⟩, hz, nI_clamp (by omega)]
theorem ct_m {z : Int32} {c0 : Nat} {ctf : Nat → Int32} (hz : z = nI c0) (hc1 : c0 ≤ 10) : (if (3 : Int32) = 3 ∧ 0 ≤ z ∧ z < nI (c0 + 1) then ctf z.toNatClampNeg else -1) = ctf c0 := by
  rw [if_pos ⟨rfl, by rw [hz]; exact nI_pos' (by omega), by rw [hz]; exact nI_lt (by omega) (by omega)⟩, hz, nI_clamp (by omega)]
theorem cb_step {ci : Nat → Nat} {w : Nat → Int32} {k c0 : Nat} (h : ci k ≤ c0) (hc1 : c0 ≤ 10) : upd (cts ci w k) (nI (ci k)).toNatClampNeg (cts ci w k (nI (ci k)).toNatClampNeg + 1) = cts ci w (k + 1) := by
  rw [nI_clamp (by omega)]
  rfl
theorem dg1_congr {v w : Nat → Int32} : ∀ n : Nat, (∀ i : Nat, i < n → v i = w i) → dg1 v n = dg1 w n
  | 0, _ => rfl
  | n + 1, h => by
    show dg (dg1 v n) (v n).toInt64 = dg (dg1 w n) (w n).toInt64
    rw [dg1_congr n (fun i hi => h i (by omega)), h n (by omega)]
theorem sd_eq {gf : Nat → Nat → Int32} {j n : Nat} {v w : Nat → Int32} : dg1 (upr gf j (scat (fun i => i) v w n) j) n = dg1 v n := by
  rw [upr_at]
  exact dg1_congr n (fun i hi => scat_in (ix := fun i => i) (fun a b _ _ q => q) i hi)
set_option maxHeartbeats 4000000 in
set_option maxRecDepth 100000 in
theorem c_X7_share_no (l : Launch) (D : va_G) (cA : Nat → ClassId) (h0 : Nat) (x0 : Nat) (x1 : Nat) (x2 : Nat) (x3 : Int32) (x4 : Nat) (x5 : Nat) (x6 : Nat) (x7 : Nat) (x8 : Nat) (x9 : Nat) (x10 : Nat) (x11 : Nat) (x12 : Int32) (x13 : Int32) (x14 : Int32) (x15 : Int32) (x16 : Int32) (x17 : Int32) (x18 : Int32) (x19 : Int32) (ts : Int32) (tk : Int32) (tco : Nat) (t4 : Nat) (t5 : Nat) (t6 : Nat) (tv : Int32) (t0 : Nat) (j : Int32) (gvn : Nat → Int32) (hno : ¬ (x12 = 2 ∧ ¬ x15 < 1 ∧ x19 = 0 ∧ ((1 ≤ j ∧ j ≤ ts) ∧ gvn j.toNatClampNeg = 0))) (hts0 : ts = nI t0) (ht5 : t0 ≤ 5) : Met l yX7_share wsX7_share ({ frames := 2, cells := 0, slots := 0, locals := 42 }) (rPc vwCl D cA [(h0, .inr (6, [.ref x0, .ref x1, .ref x2, .int x3, .ref x4, .ref x5, .ref x6, .ref x7, .ref x8, .ref x9, .ref x10, .ref x11, .int x12, .int x13, .int x14, .int x15, .int x16, .int x17, .int x18, .int x19])), (x1, .inr (5, [.ref x0, .int ts, .int tk, .ref tco, .ref t4, .ref t5, .ref t6, .int tv])), (t4, .inl (cA 1, (t0 + 1), .inl gvn))] [.ref h0, .int j]) (rq_x (some (.int (-1)))) 0 0 (fun _ => False) := by
  refine Met.ofW (cc := cX7_share) (maxL := 2) (ret := (some .int)) (by decide) rfl ?_
  intro p e s m args below meth c s₁ B hml hv
  obtain ⟨rfl, hP, hK⟩ := hv
  have hx := B.exec
  have hb := B.bytes
  have hr := B.returns
  have hts := atoms_spec (ws := wsX7_share) B.pre
  have hown : s.vm.findClass RX7 = some m.cls := findClass_of_methodNamed B.named
  have hlocks := B.notSynchronized
  have hin_X7 : ∀ w ∈ wsX70, w ∈ wsX7_share := fun w h => List.mem_cons_of_mem _ (List.mem_append_left _ (List.mem_append_left _ (List.mem_append_left _ (List.mem_append_left _ (List.mem_append_right _ h)))))
  have w_RX7_97 := hts (.fieldLink RX7 97 "MixElection" "stage" "I") (by decide +kernel)
  have w_RX7_179 := hts (.fieldLink RX7 179 "MixElection" "mixes" "I") (by decide +kernel)
  have w_RX7_196 := hts (.fieldLink RX7 196 "MixElection" "coinIsDue" "Z") (by decide +kernel)
  have w_RX7_48 := hts (.fieldLink RX7 48 "MixElection" "trustees" "LMixElection$Trustees;") (by decide +kernel)
  have hl := lv_entry ([.ref h0, .int j]) (n := 2) (Nat.le_of_ble_eq_true rfl)
  rw [lg_entry_eq]
  generalize (lg_sl ([.ref h0, .int j]) ++ List.replicate (2 - (lg_sl ([.ref h0, .int j])).length) Slot.unset).toArray = ls at hl ⊢
  have hl : lv_has ls 2 [(0, .ref h0), (1, .int j)] := hl
  refine lv_aload_n hx hb dX7_share_0 rfl (lv_at hl 0 rfl) ?_
  refine va_get (D := D) (ci := 6) (v := .int x12) (C := RX7) (T := TX7) (N := 20) hx hb hts hin_X7 hown hK hP 0 rfl rfl 12 (by decide) (w_RX7_97) (fun _ h9 => h9) rfl dX7_share_1 ?_
  refine lv_iconst (v := 2) hx hb dX7_share_4 (by decide) ?_
  refine lv_icmp_ne (tgt := 34) hx hb dX7_share_5 (by decide) (fun c_5 => ?_) (fun c_5 => ?_)
  · skip
    refine lv_iconst (v := (-1)) hx hb dX7_share_34 (by decide) ?_
    exact W.iret (v := (-1)) hx hb hr (fun t ht hW => ⟨congrArg (fun z => Outcome.returned (some (Value.int z))) (rfl), ht⟩) (fun _ h => by cases h) dX7_share_35
  · skip
    refine lv_aload_n hx hb dX7_share_8 rfl (lv_at hl 0 rfl) ?_
    refine va_get (D := D) (ci := 6) (v := .int x15) (C := RX7) (T := TX7) (N := 20) hx hb hts hin_X7 hown hK hP 0 rfl rfl 15 (by decide) (w_RX7_179) (fun _ h9 => h9) rfl dX7_share_9 ?_
    refine lv_iconst (v := 1) hx hb dX7_share_12 (by decide) ?_
    refine lv_icmp_lt (tgt := 34) hx hb dX7_share_13 (by decide) (fun c_13 => ?_) (fun c_13 => ?_)
    · skip
      refine lv_iconst (v := (-1)) hx hb dX7_share_34 (by decide) ?_
      exact W.iret (v := (-1)) hx hb hr (fun t ht hW => ⟨congrArg (fun z => Outcome.returned (some (Value.int z))) (rfl), ht⟩) (fun _ h => by cases h) dX7_share_35
    · skip
      refine lv_aload_n hx hb dX7_share_16 rfl (lv_at hl 0 rfl) ?_
      refine va_get (D := D) (ci := 6) (v := .int x19) (C := RX7) (T := TX7) (N := 20) hx hb hts hin_X7 hown hK hP 0 rfl rfl 19 (by decide) (w_RX7_196) (fun _ h9 => h9) rfl dX7_share_17 ?_
      refine lv_if_ne (tgt := 34) hx hb dX7_share_20 (by decide) (fun c_20 => ?_) (fun c_20 => ?_)
      · skip
        refine lv_iconst (v := (-1)) hx hb dX7_share_34 (by decide) ?_
        exact W.iret (v := (-1)) hx hb hr (fun t ht hW => ⟨congrArg (fun z => Outcome.returned (some (Value.int z))) (rfl), ht⟩) (fun _ h => by cases h) dX7_share_35
      · skip
        refine lv_aload_n hx hb dX7_share_23 rfl (lv_at hl 0 rfl) ?_
        refine va_get (D := D) (ci := 6) (v := .ref x1) (C := RX7) (T := TX7) (N := 20) hx hb hts hin_X7 hown hK hP 0 rfl rfl 1 (by decide) (w_RX7_48) (fun _ h9 => h9) rfl dX7_share_24 ?_
        refine lv_iload_n hx hb dX7_share_27 rfl (lv_at hl 1 rfl) ?_
        refine rq_call1 (v := .int (bI ((1 ≤ j ∧ j ≤ ts) ∧ gvn j.toNatClampNeg = 0))) (rn_V (As := [.int j]) (rest := []) (ci := 5) (fs := [.ref x0, .int ts, .int tk, .ref tco, .ref t4, .ref t5, .ref t6, .int tv]) ⟨hx, hb, hml, hown, hts⟩ (c_X6_mayGive l D cA x1 x0 ts tk tco t4 t5 t6 tv j gvn t0 hts0 ht5) rfl (cwV 1 hts gX7_share_X6_mayGive rfl rfl rfl (by decide +kernel) ⟨Nat.le_of_ble_eq_true rfl, Nat.le_of_ble_eq_true rfl⟩) hK hP [1, 2] rfl rfl rfl hl.1 rfl (Nat.le_of_ble_eq_true rfl) dX7_share_28 ⟨Nat.le_of_ble_eq_true rfl, Nat.le_of_ble_eq_true rfl⟩) ?_
        refine lv_if_ne (tgt := 36) hx hb dX7_share_31 (by decide) (fun c_31 => ?_) (fun c_31 => ?_)
        · skip
          exact absurd ⟨c_5, c_13, c_20, bI_1 c_31⟩ hno
        · skip
          refine lv_iconst (v := (-1)) hx hb dX7_share_34 (by decide) ?_
          exact W.iret (v := (-1)) hx hb hr (fun t ht hW => ⟨congrArg (fun z => Outcome.returned (some (Value.int z))) (rfl), ht⟩) (fun _ h => by cases h) dX7_share_35

set_option maxHeartbeats 4000000 in
set_option maxRecDepth 100000 in
theorem c_X7_share_ok (l : Launch) (D : va_G) (cA : Nat → ClassId) (h0 : Nat) (x0 : Nat) (x1 : Nat) (x2 : Nat) (x3 : Int32) (x4 : Nat) (x5 : Nat) (x6 : Nat) (x7 : Nat) (x8 : Nat) (x9 : Nat) (x10 : Nat) (x11 : Nat) (x12 : Int32) (x13 : Int32) (x14 : Int32) (x15 : Int32) (x16 : Int32) (x17 : Int32) (x18 : Int32) (x19 : Int32) (ts : Int32) (tk : Int32) (tco : Nat) (t4 : Nat) (t5 : Nat) (t6 : Nat) (tv : Int32) (t0 : Nat) (j : Int32) (gvn : Nat → Int32) (gp : Int32) (gq : Int32) (gh : Int32) (k0 : Nat) (e0 : Nat) (ra : Nat) (oa1 : Nat) (ob1 : Nat) (b0 : Nat) (m0 : Nat) (n0 : Nat) (cf_ : Nat → Int32) (sa : Nat → Int32) (sb : Nat → Int32) (gf : Nat → Nat → Int32) (la : Nat → Nat) (ka : Nat) (xa : Nat) (ya : Nat) (za : Nat) (ca : Nat) (n : Int32) (kf : Nat → Int32) (xf : Nat → Int32) (yf : Nat → Int32) (zf : Nat → Int64) (cf : Nat → Int64) (hok : x12 = 2 ∧ ¬ x15 < 1 ∧ x19 = 0 ∧ ((1 ≤ j ∧ j ≤ ts) ∧ gvn j.toNatClampNeg = 0)) (hm : x15 = nI m0) (hm4 : m0 < 5) (hts0 : ts = nI t0) (ht5 : t0 ≤ 5) (htk : tk = nI k0) (hk5 : k0 ≤ 5) (hgq : 0 < gq) (hgp : 0 < gp) (hnb : x14 = nI b0) (hb4 : b0 ≤ 40) (he0 : shr gq j cf_ k0 0 = nI e0) (he9 : e0 < 2 ^ 31) (hbn : n = nI n0) (h6 : n0 < 600) : Met l yX7_share wsX7_share ({ frames := 4, cells := 0, slots := 0, locals := 94 }) (wPc vwCl D cA ([(h0, .inr (6, [.ref x0, .ref x1, .ref x2, .int x3, .ref x4, .ref x5, .ref x6, .ref x7, .ref x8, .ref x9, .ref x10, .ref x11, .int x12, .int x13, .int x14, .int x15, .int x16, .int x17, .int x18, .int x19])), (x1, .inr (5, [.ref x0, .int ts, .int tk, .ref tco, .ref t4, .ref t5, .ref t6, .int tv])), (x0, .inr (1, [.int gp, .int gq, .int gh])), (tco, .inl (cA 0, k0, .inl cf_)), (t4, .inl (cA 1, (t0 + 1), .inl gvn)), (t5, .inl (cA 4, (t0 + 1), .inr (.inr (.inr (.inr (fun k => some (ra + k))))))), (x5, .inl (cA 3, 5, .inr (.inr (.inr (.inr (fun k => some (la k))))))), ((la m0), .inr (3, [.ref oa1, .ref ob1])), (oa1, .inl (cA 0, 40, .inl sa)), (ob1, .inl (cA 0, 40, .inl sb)), (x2, .inr (0, [.ref ka, .ref xa, .ref ya, .ref za, .ref ca, .int n])), (ka, .inl (cA 0, 600, .inl kf)), (xa, .inl (cA 0, 600, .inl xf)), (ya, .inl (cA 0, 600, .inl yf)), (za, .inl (cA 2, 600, .inr (.inl zf))), (ca, .inl (cA 2, 600, .inr (.inl cf)))] ++ (rwT cA ra gf (t0 + 1))) [.ref h0, .int j]) (wq_x vwCl D ([(h0, .inr (6, [.ref x0, .ref x1, .ref x2, .int x3, .ref x4, .ref x5, .ref x6, .ref x7, .ref x8, .ref x9, .ref x10, .ref x11, .int x12, .int x13, .int x14, .int x15, .int x16, .int x17, .int x18, .int x19])), (x1, .inr (5, [.ref x0, .int ts, .int tk, .ref tco, .ref t4, .ref t5, .ref t6, .int (tv + 1)])), (x0, .inr (1, [.int gp, .int gq, .int gh])), (tco, .inl (cA 0, k0, .inl cf_)), (t4, .inl (cA 1, (t0 + 1), .inl (upd gvn j.toNatClampNeg (vp_nar .boolean 1)))), (t5, .inl (cA 4, (t0 + 1), .inr (.inr (.inr (.inr (fun k => some (ra + k))))))), (x5, .inl (cA 3, 5, .inr (.inr (.inr (.inr (fun k => some (la k))))))), ((la m0), .inr (3, [.ref oa1, .ref ob1])), (oa1, .inl (cA 0, 40, .inl sa)), (ob1, .inl (cA 0, 40, .inl sb)), (x2, .inr (0, [.ref ka, .ref xa, .ref ya, .ref za, .ref ca, .int (n + 1)])), (ka, .inl (cA 0, 600, .inl (upd kf n.toNatClampNeg 7))), (xa, .inl (cA 0, 600, .inl (upd xf n.toNatClampNeg j))), (ya, .inl (cA 0, 600, .inl (upd yf n.toNatClampNeg 0))), (za, .inl (cA 2, 600, .inr (.inl (vp_updL zf n.toNatClampNeg (dg1 (fun i => pw gp 32 e0 1 (sa i)) b0))))), (ca, .inl (cA 2, 600, .inr (.inl (vp_updL cf n.toNatClampNeg (dg (dg (dg (dg (cho cf n (n - 1)) ((7 : Int32).toInt64)) (j.toInt64)) ((0 : Int32).toInt64)) (dg1 (fun i => pw gp 32 e0 1 (sa i)) b0))))))] ++ (rwT cA ra (upr gf j.toNatClampNeg (scat (fun i => i) (fun i => pw gp 32 e0 1 (sa i)) (gf j.toNatClampNeg) b0)) (t0 + 1))) (some (.int (tv + 1))) (wA ([(h0, .inr (6, [.ref x0, .ref x1, .ref x2, .int x3, .ref x4, .ref x5, .ref x6, .ref x7, .ref x8, .ref x9, .ref x10, .ref x11, .int x12, .int x13, .int x14, .int x15, .int x16, .int x17, .int x18, .int x19])), (x1, .inr (5, [.ref x0, .int ts, .int tk, .ref tco, .ref t4, .ref t5, .ref t6, .int tv])), (x0, .inr (1, [.int gp, .int gq, .int gh])), (tco, .inl (cA 0, k0, .inl cf_)), (t4, .inl (cA 1, (t0 + 1), .inl gvn)), (t5, .inl (cA 4, (t0 + 1), .inr (.inr (.inr (.inr (fun k => some (ra + k))))))), (x5, .inl (cA 3, 5, .inr (.inr (.inr (.inr (fun k => some (la k))))))), ((la m0), .inr (3, [.ref oa1, .ref ob1])), (oa1, .inl (cA 0, 40, .inl sa)), (ob1, .inl (cA 0, 40, .inl sb)), (x2, .inr (0, [.ref ka, .ref xa, .ref ya, .ref za, .ref ca, .int n])), (ka, .inl (cA 0, 600, .inl kf)), (xa, .inl (cA 0, 600, .inl xf)), (ya, .inl (cA 0, 600, .inl yf)), (za, .inl (cA 2, 600, .inr (.inl zf))), (ca, .inl (cA 2, 600, .inr (.inl cf)))] ++ (rwT cA ra gf (t0 + 1))))) 0 0 (wA ([(h0, .inr (6, [.ref x0, .ref x1, .ref x2, .int x3, .ref x4, .ref x5, .ref x6, .ref x7, .ref x8, .ref x9, .ref x10, .ref x11, .int x12, .int x13, .int x14, .int x15, .int x16, .int x17, .int x18, .int x19])), (x1, .inr (5, [.ref x0, .int ts, .int tk, .ref tco, .ref t4, .ref t5, .ref t6, .int tv])), (x0, .inr (1, [.int gp, .int gq, .int gh])), (tco, .inl (cA 0, k0, .inl cf_)), (t4, .inl (cA 1, (t0 + 1), .inl gvn)), (t5, .inl (cA 4, (t0 + 1), .inr (.inr (.inr (.inr (fun k => some (ra + k))))))), (x5, .inl (cA 3, 5, .inr (.inr (.inr (.inr (fun k => some (la k))))))), ((la m0), .inr (3, [.ref oa1, .ref ob1])), (oa1, .inl (cA 0, 40, .inl sa)), (ob1, .inl (cA 0, 40, .inl sb)), (x2, .inr (0, [.ref ka, .ref xa, .ref ya, .ref za, .ref ca, .int n])), (ka, .inl (cA 0, 600, .inl kf)), (xa, .inl (cA 0, 600, .inl xf)), (ya, .inl (cA 0, 600, .inl yf)), (za, .inl (cA 2, 600, .inr (.inl zf))), (ca, .inl (cA 2, 600, .inr (.inl cf)))] ++ (rwT cA ra gf (t0 + 1)))) := by
  refine Met.ofW (cc := cX7_share) (maxL := 2) (ret := (some .int)) (by decide) rfl ?_
  intro p e s m args below meth c s₁ B hml hv
  obtain ⟨rfl, hP, hK, hD0⟩ := hv
  have hx := B.exec
  have hb := B.bytes
  have hr := B.returns
  have hts := atoms_spec (ws := wsX7_share) B.pre
  have hown : s.vm.findClass RX7 = some m.cls := findClass_of_methodNamed B.named
  have hlocks := B.notSynchronized
  have hin_X7 : ∀ w ∈ wsX70, w ∈ wsX7_share := fun w h => List.mem_cons_of_mem _ (List.mem_append_left _ (List.mem_append_left _ (List.mem_append_left _ (List.mem_append_left _ (List.mem_append_right _ h)))))
  have w_RX7_97 := hts (.fieldLink RX7 97 "MixElection" "stage" "I") (by decide +kernel)
  have w_RX7_179 := hts (.fieldLink RX7 179 "MixElection" "mixes" "I") (by decide +kernel)
  have w_RX7_196 := hts (.fieldLink RX7 196 "MixElection" "coinIsDue" "Z") (by decide +kernel)
  have w_RX7_48 := hts (.fieldLink RX7 48 "MixElection" "trustees" "LMixElection$Trustees;") (by decide +kernel)
  have w_RX7_158 := hts (.fieldLink RX7 158 "MixElection" "ballots" "I") (by decide +kernel)
  have w_RX7_55 := hts (.fieldLink RX7 55 "MixElection" "board" "LMixElection$Board;") (by decide +kernel)
  have hD : va_D (wA ([(h0, .inr (6, [.ref x0, .ref x1, .ref x2, .int x3, .ref x4, .ref x5, .ref x6, .ref x7, .ref x8, .ref x9, .ref x10, .ref x11, .int x12, .int x13, .int x14, .int x15, .int x16, .int x17, .int x18, .int x19])), (x1, .inr (5, [.ref x0, .int ts, .int tk, .ref tco, .ref t4, .ref t5, .ref t6, .int tv])), (x0, .inr (1, [.int gp, .int gq, .int gh])), (tco, .inl (cA 0, k0, .inl cf_)), (t4, .inl (cA 1, (t0 + 1), .inl gvn)), (t5, .inl (cA 4, (t0 + 1), .inr (.inr (.inr (.inr (fun k => some (ra + k))))))), (x5, .inl (cA 3, 5, .inr (.inr (.inr (.inr (fun k => some (la k))))))), ((la m0), .inr (3, [.ref oa1, .ref ob1])), (oa1, .inl (cA 0, 40, .inl sa)), (ob1, .inl (cA 0, 40, .inl sb)), (x2, .inr (0, [.ref ka, .ref xa, .ref ya, .ref za, .ref ca, .int n])), (ka, .inl (cA 0, 600, .inl kf)), (xa, .inl (cA 0, 600, .inl xf)), (ya, .inl (cA 0, 600, .inl yf)), (za, .inl (cA 2, 600, .inr (.inl zf))), (ca, .inl (cA 2, 600, .inr (.inl cf)))] ++ (rwT cA ra gf (t0 + 1)))) ([(h0, .inr (6, [.ref x0, .ref x1, .ref x2, .int x3, .ref x4, .ref x5, .ref x6, .ref x7, .ref x8, .ref x9, .ref x10, .ref x11, .int x12, .int x13, .int x14, .int x15, .int x16, .int x17, .int x18, .int x19])), (x1, .inr (5, [.ref x0, .int ts, .int tk, .ref tco, .ref t4, .ref t5, .ref t6, .int tv])), (x0, .inr (1, [.int gp, .int gq, .int gh])), (tco, .inl (cA 0, k0, .inl cf_)), (t4, .inl (cA 1, (t0 + 1), .inl gvn)), (t5, .inl (cA 4, (t0 + 1), .inr (.inr (.inr (.inr (fun k => some (ra + k))))))), (x5, .inl (cA 3, 5, .inr (.inr (.inr (.inr (fun k => some (la k))))))), ((la m0), .inr (3, [.ref oa1, .ref ob1])), (oa1, .inl (cA 0, 40, .inl sa)), (ob1, .inl (cA 0, 40, .inl sb)), (x2, .inr (0, [.ref ka, .ref xa, .ref ya, .ref za, .ref ca, .int n])), (ka, .inl (cA 0, 600, .inl kf)), (xa, .inl (cA 0, 600, .inl xf)), (ya, .inl (cA 0, 600, .inl yf)), (za, .inl (cA 2, 600, .inr (.inl zf))), (ca, .inl (cA 2, 600, .inr (.inl cf)))] ++ (rwT cA ra gf (t0 + 1))) := ⟨hD0.1, fun k q h => List.mem_map.mpr ⟨q, List.mem_of_getElem? h, rfl⟩⟩
  have hS : va_S (wA ([(h0, .inr (6, [.ref x0, .ref x1, .ref x2, .int x3, .ref x4, .ref x5, .ref x6, .ref x7, .ref x8, .ref x9, .ref x10, .ref x11, .int x12, .int x13, .int x14, .int x15, .int x16, .int x17, .int x18, .int x19])), (x1, .inr (5, [.ref x0, .int ts, .int tk, .ref tco, .ref t4, .ref t5, .ref t6, .int tv])), (x0, .inr (1, [.int gp, .int gq, .int gh])), (tco, .inl (cA 0, k0, .inl cf_)), (t4, .inl (cA 1, (t0 + 1), .inl gvn)), (t5, .inl (cA 4, (t0 + 1), .inr (.inr (.inr (.inr (fun k => some (ra + k))))))), (x5, .inl (cA 3, 5, .inr (.inr (.inr (.inr (fun k => some (la k))))))), ((la m0), .inr (3, [.ref oa1, .ref ob1])), (oa1, .inl (cA 0, 40, .inl sa)), (ob1, .inl (cA 0, 40, .inl sb)), (x2, .inr (0, [.ref ka, .ref xa, .ref ya, .ref za, .ref ca, .int n])), (ka, .inl (cA 0, 600, .inl kf)), (xa, .inl (cA 0, 600, .inl xf)), (ya, .inl (cA 0, 600, .inl yf)), (za, .inl (cA 2, 600, .inr (.inl zf))), (ca, .inl (cA 2, 600, .inr (.inl cf)))] ++ (rwT cA ra gf (t0 + 1)))) s.heap s.heap [] := va_S.rf
  generalize hAe : wA ([(h0, .inr (6, [.ref x0, .ref x1, .ref x2, .int x3, .ref x4, .ref x5, .ref x6, .ref x7, .ref x8, .ref x9, .ref x10, .ref x11, .int x12, .int x13, .int x14, .int x15, .int x16, .int x17, .int x18, .int x19])), (x1, .inr (5, [.ref x0, .int ts, .int tk, .ref tco, .ref t4, .ref t5, .ref t6, .int tv])), (x0, .inr (1, [.int gp, .int gq, .int gh])), (tco, .inl (cA 0, k0, .inl cf_)), (t4, .inl (cA 1, (t0 + 1), .inl gvn)), (t5, .inl (cA 4, (t0 + 1), .inr (.inr (.inr (.inr (fun k => some (ra + k))))))), (x5, .inl (cA 3, 5, .inr (.inr (.inr (.inr (fun k => some (la k))))))), ((la m0), .inr (3, [.ref oa1, .ref ob1])), (oa1, .inl (cA 0, 40, .inl sa)), (ob1, .inl (cA 0, 40, .inl sb)), (x2, .inr (0, [.ref ka, .ref xa, .ref ya, .ref za, .ref ca, .int n])), (ka, .inl (cA 0, 600, .inl kf)), (xa, .inl (cA 0, 600, .inl xf)), (ya, .inl (cA 0, 600, .inl yf)), (za, .inl (cA 2, 600, .inr (.inl zf))), (ca, .inl (cA 2, 600, .inr (.inl cf)))] ++ (rwT cA ra gf (t0 + 1))) = A at hD hS ⊢
  have hP : va_P D vwCl ([(h0, .inr (6, [.ref x0, .ref x1, .ref x2, .int x3, .ref x4, .ref x5, .ref x6, .ref x7, .ref x8, .ref x9, .ref x10, .ref x11, .int x12, .int x13, .int x14, .int x15, .int x16, .int x17, .int x18, .int x19])), (x1, .inr (5, [.ref x0, .int ts, .int tk, .ref tco, .ref t4, .ref t5, .ref t6, .int tv])), (x0, .inr (1, [.int gp, .int gq, .int gh])), (tco, .inl (cA 0, k0, .inl cf_)), (t4, .inl (cA 1, (t0 + 1), .inl gvn)), (t5, .inl (cA 4, (t0 + 1), .inr (.inr (.inr (.inr (fun k => some (ra + k))))))), (x5, .inl (cA 3, 5, .inr (.inr (.inr (.inr (fun k => some (la k))))))), ((la m0), .inr (3, [.ref oa1, .ref ob1])), (oa1, .inl (cA 0, 40, .inl sa)), (ob1, .inl (cA 0, 40, .inl sb)), (x2, .inr (0, [.ref ka, .ref xa, .ref ya, .ref za, .ref ca, .int n])), (ka, .inl (cA 0, 600, .inl kf)), (xa, .inl (cA 0, 600, .inl xf)), (ya, .inl (cA 0, 600, .inl yf)), (za, .inl (cA 2, 600, .inr (.inl zf))), (ca, .inl (cA 2, 600, .inr (.inl cf)))] ++ (rwT cA ra gf (t0 + 1))) s.heap := hP
  have hl := lv_entry ([.ref h0, .int j]) (n := 2) (Nat.le_of_ble_eq_true rfl)
  rw [lg_entry_eq]
  generalize (lg_sl ([.ref h0, .int j]) ++ List.replicate (2 - (lg_sl ([.ref h0, .int j])).length) Slot.unset).toArray = ls at hl ⊢
  have hl : lv_has ls 2 [(0, .ref h0), (1, .int j)] := hl
  refine lv_aload_n hx hb dX7_share_0 rfl (lv_at hl 0 rfl) ?_
  refine va_get (D := D) (ci := 6) (v := .int x12) (C := RX7) (T := TX7) (N := 20) hx hb hts hin_X7 hown hK hP 0 rfl rfl 12 (by decide) (w_RX7_97) (fun _ h9 => h9) rfl dX7_share_1 ?_
  refine lv_iconst (v := 2) hx hb dX7_share_4 (by decide) ?_
  refine lv_icmp_ne (tgt := 34) hx hb dX7_share_5 (by decide) (fun c_5 => ?_) (fun c_5 => ?_)
  · exact absurd hok.1 c_5
  · skip
    refine lv_aload_n hx hb dX7_share_8 rfl (lv_at hl 0 rfl) ?_
    refine va_get (D := D) (ci := 6) (v := .int x15) (C := RX7) (T := TX7) (N := 20) hx hb hts hin_X7 hown hK hP 0 rfl rfl 15 (by decide) (w_RX7_179) (fun _ h9 => h9) rfl dX7_share_9 ?_
    refine lv_iconst (v := 1) hx hb dX7_share_12 (by decide) ?_
    refine lv_icmp_lt (tgt := 34) hx hb dX7_share_13 (by decide) (fun c_13 => ?_) (fun c_13 => ?_)
    · exact absurd c_13 hok.2.1
    · skip
      refine lv_aload_n hx hb dX7_share_16 rfl (lv_at hl 0 rfl) ?_
      refine va_get (D := D) (ci := 6) (v := .int x19) (C := RX7) (T := TX7) (N := 20) hx hb hts hin_X7 hown hK hP 0 rfl rfl 19 (by decide) (w_RX7_196) (fun _ h9 => h9) rfl dX7_share_17 ?_
      refine lv_if_ne (tgt := 34) hx hb dX7_share_20 (by decide) (fun c_20 => ?_) (fun c_20 => ?_)
      · exact absurd hok.2.2.1 c_20
      · skip
        refine lv_aload_n hx hb dX7_share_23 rfl (lv_at hl 0 rfl) ?_
        refine va_get (D := D) (ci := 6) (v := .ref x1) (C := RX7) (T := TX7) (N := 20) hx hb hts hin_X7 hown hK hP 0 rfl rfl 1 (by decide) (w_RX7_48) (fun _ h9 => h9) rfl dX7_share_24 ?_
        refine lv_iload_n hx hb dX7_share_27 rfl (lv_at hl 1 rfl) ?_
        refine rq_call1 (v := .int (bI ((1 ≤ j ∧ j ≤ ts) ∧ gvn j.toNatClampNeg = 0))) (rn_V (As := [.int j]) (rest := []) (ci := 5) (fs := [.ref x0, .int ts, .int tk, .ref tco, .ref t4, .ref t5, .ref t6, .int tv]) ⟨hx, hb, hml, hown, hts⟩ (c_X6_mayGive l D cA x1 x0 ts tk tco t4 t5 t6 tv j gvn t0 hts0 ht5) rfl (cwV 1 hts gX7_share_X6_mayGive rfl rfl rfl (by decide +kernel) ⟨Nat.le_of_ble_eq_true rfl, Nat.le_of_ble_eq_true rfl⟩) hK hP [1, 4] rfl rfl rfl hl.1 rfl (Nat.le_of_ble_eq_true rfl) dX7_share_28 ⟨Nat.le_of_ble_eq_true rfl, Nat.le_of_ble_eq_true rfl⟩) ?_
        refine lv_if_ne (tgt := 36) hx hb dX7_share_31 (by decide) (fun c_31 => ?_) (fun c_31 => ?_)
        · skip
          refine lv_aload_n hx hb dX7_share_36 rfl (lv_at hl 0 rfl) ?_
          refine va_get (D := D) (ci := 6) (v := .ref x1) (C := RX7) (T := TX7) (N := 20) hx hb hts hin_X7 hown hK hP 0 rfl rfl 1 (by decide) (w_RX7_48) (fun _ h9 => h9) rfl dX7_share_37 ?_
          refine lv_iload_n hx hb dX7_share_40 rfl (lv_at hl 1 rfl) ?_
          refine lv_aload_n hx hb dX7_share_41 rfl (lv_at hl 0 rfl) ?_
          refine lv_aload_n hx hb dX7_share_42 rfl (lv_at hl 0 rfl) ?_
          refine va_get (D := D) (ci := 6) (v := .int x15) (C := RX7) (T := TX7) (N := 20) hx hb hts hin_X7 hown hK hP 0 rfl rfl 15 (by decide) (w_RX7_179) (fun _ h9 => h9) rfl dX7_share_43 ?_
          refine rq_call1 (v := .ref (la m0)) (rn_V (As := [.int x15]) (rest := [.int j, .ref x1]) (ci := 6) (fs := [.ref x0, .ref x1, .ref x2, .int x3, .ref x4, .ref x5, .ref x6, .ref x7, .ref x8, .ref x9, .ref x10, .ref x11, .int x12, .int x13, .int x14, .int x15, .int x16, .int x17, .int x18, .int x19]) ⟨hx, hb, hml, hown, hts⟩ (c_X7_listOf l D cA h0 x0 x1 x2 x3 x4 x5 x6 x7 x8 x9 x10 x11 x12 x13 x14 x15 x16 x17 x18 x19 la x15 m0 hm hm4) rfl (cwV 1 hts gX7_share_X7_listOf rfl rfl rfl (by decide +kernel) ⟨Nat.le_of_ble_eq_true rfl, Nat.le_of_ble_eq_true rfl⟩) hK hP [0, 6] rfl rfl rfl hl.1 rfl (Nat.le_of_ble_eq_true rfl) dX7_share_46 ⟨Nat.le_of_ble_eq_true rfl, Nat.le_of_ble_eq_true rfl⟩) ?_
          refine lv_aload_n hx hb dX7_share_49 rfl (lv_at hl 0 rfl) ?_
          refine va_get (D := D) (ci := 6) (v := .int x14) (C := RX7) (T := TX7) (N := 20) hx hb hts hin_X7 hown hK hP 0 rfl rfl 14 (by decide) (w_RX7_158) (fun _ h9 => h9) rfl dX7_share_50 ?_
          refine wu_callL0 (X := [(h0, .inr (6, [.ref x0, .ref x1, .ref x2, .int x3, .ref x4, .ref x5, .ref x6, .ref x7, .ref x8, .ref x9, .ref x10, .ref x11, .int x12, .int x13, .int x14, .int x15, .int x16, .int x17, .int x18, .int x19])), (x1, .inr (5, [.ref x0, .int ts, .int tk, .ref tco, .ref t4, .ref t5, .ref t6, .int tv])), (x0, .inr (1, [.int gp, .int gq, .int gh])), (tco, .inl (cA 0, k0, .inl cf_)), (t4, .inl (cA 1, (t0 + 1), .inl gvn)), (t5, .inl (cA 4, (t0 + 1), .inr (.inr (.inr (.inr (fun k => some (ra + k))))))), (x5, .inl (cA 3, 5, .inr (.inr (.inr (.inr (fun k => some (la k))))))), ((la m0), .inr (3, [.ref oa1, .ref ob1])), (oa1, .inl (cA 0, 40, .inl sa)), (ob1, .inl (cA 0, 40, .inl sb)), (x2, .inr (0, [.ref ka, .ref xa, .ref ya, .ref za, .ref ca, .int n])), (ka, .inl (cA 0, 600, .inl kf)), (xa, .inl (cA 0, 600, .inl xf)), (ya, .inl (cA 0, 600, .inl yf)), (za, .inl (cA 2, 600, .inr (.inl zf))), (ca, .inl (cA 2, 600, .inr (.inl cf)))]) (cx := [(x1, .inr (5, [.ref x0, .int ts, .int tk, .ref tco, .ref t4, .ref t5, .ref t6, .int tv])), (x0, .inr (1, [.int gp, .int gq, .int gh])), (tco, .inl (cA 0, k0, .inl cf_)), (t4, .inl (cA 1, (t0 + 1), .inl gvn)), (t5, .inl (cA 4, (t0 + 1), .inr (.inr (.inr (.inr (fun k => some (ra + k))))))), ((la m0), .inr (3, [.ref oa1, .ref ob1])), (oa1, .inl (cA 0, 40, .inl sa)), (ob1, .inl (cA 0, 40, .inl sb))]) (rx := [(x1, .inr (5, [.ref x0, .int ts, .int tk, .ref tco, .ref t4, .ref t5, .ref t6, .int (tv + 1)])), (x0, .inr (1, [.int gp, .int gq, .int gh])), (tco, .inl (cA 0, k0, .inl cf_)), (t4, .inl (cA 1, (t0 + 1), .inl (upd gvn j.toNatClampNeg (vp_nar .boolean 1)))), (t5, .inl (cA 4, (t0 + 1), .inr (.inr (.inr (.inr (fun k => some (ra + k))))))), ((la m0), .inr (3, [.ref oa1, .ref ob1])), (oa1, .inl (cA 0, 40, .inl sa)), (ob1, .inl (cA 0, 40, .inl sb))]) (X' := [(h0, .inr (6, [.ref x0, .ref x1, .ref x2, .int x3, .ref x4, .ref x5, .ref x6, .ref x7, .ref x8, .ref x9, .ref x10, .ref x11, .int x12, .int x13, .int x14, .int x15, .int x16, .int x17, .int x18, .int x19])), (x1, .inr (5, [.ref x0, .int ts, .int tk, .ref tco, .ref t4, .ref t5, .ref t6, .int (tv + 1)])), (x0, .inr (1, [.int gp, .int gq, .int gh])), (tco, .inl (cA 0, k0, .inl cf_)), (t4, .inl (cA 1, (t0 + 1), .inl (upd gvn j.toNatClampNeg (vp_nar .boolean 1)))), (t5, .inl (cA 4, (t0 + 1), .inr (.inr (.inr (.inr (fun k => some (ra + k))))))), (x5, .inl (cA 3, 5, .inr (.inr (.inr (.inr (fun k => some (la k))))))), ((la m0), .inr (3, [.ref oa1, .ref ob1])), (oa1, .inl (cA 0, 40, .inl sa)), (ob1, .inl (cA 0, 40, .inl sb)), (x2, .inr (0, [.ref ka, .ref xa, .ref ya, .ref za, .ref ca, .int n])), (ka, .inl (cA 0, 600, .inl kf)), (xa, .inl (cA 0, 600, .inl xf)), (ya, .inl (cA 0, 600, .inl yf)), (za, .inl (cA 2, 600, .inr (.inl zf))), (ca, .inl (cA 2, 600, .inr (.inl cf)))]) (pl := (rwT cA ra gf (t0 + 1))) (pl1 := (rwT cA ra (upr gf j.toNatClampNeg (scat (fun i => i) (fun i => pw gp 32 e0 1 (sa i)) (gf j.toNatClampNeg) b0)) (t0 + 1))) (wn_VT (As := [.int j, .ref (la m0), .int x14]) (rest := []) (ci := 5) (fs := [.ref x0, .int ts, .int tk, .ref tco, .ref t4, .ref t5, .ref t6, .int tv]) (X := [(h0, .inr (6, [.ref x0, .ref x1, .ref x2, .int x3, .ref x4, .ref x5, .ref x6, .ref x7, .ref x8, .ref x9, .ref x10, .ref x11, .int x12, .int x13, .int x14, .int x15, .int x16, .int x17, .int x18, .int x19])), (x1, .inr (5, [.ref x0, .int ts, .int tk, .ref tco, .ref t4, .ref t5, .ref t6, .int tv])), (x0, .inr (1, [.int gp, .int gq, .int gh])), (tco, .inl (cA 0, k0, .inl cf_)), (t4, .inl (cA 1, (t0 + 1), .inl gvn)), (t5, .inl (cA 4, (t0 + 1), .inr (.inr (.inr (.inr (fun k => some (ra + k))))))), (x5, .inl (cA 3, 5, .inr (.inr (.inr (.inr (fun k => some (la k))))))), ((la m0), .inr (3, [.ref oa1, .ref ob1])), (oa1, .inl (cA 0, 40, .inl sa)), (ob1, .inl (cA 0, 40, .inl sb)), (x2, .inr (0, [.ref ka, .ref xa, .ref ya, .ref za, .ref ca, .int n])), (ka, .inl (cA 0, 600, .inl kf)), (xa, .inl (cA 0, 600, .inl xf)), (ya, .inl (cA 0, 600, .inl yf)), (za, .inl (cA 2, 600, .inr (.inl zf))), (ca, .inl (cA 2, 600, .inr (.inl cf)))]) (cx := [(x1, .inr (5, [.ref x0, .int ts, .int tk, .ref tco, .ref t4, .ref t5, .ref t6, .int tv])), (x0, .inr (1, [.int gp, .int gq, .int gh])), (tco, .inl (cA 0, k0, .inl cf_)), (t4, .inl (cA 1, (t0 + 1), .inl gvn)), (t5, .inl (cA 4, (t0 + 1), .inr (.inr (.inr (.inr (fun k => some (ra + k))))))), ((la m0), .inr (3, [.ref oa1, .ref ob1])), (oa1, .inl (cA 0, 40, .inl sa)), (ob1, .inl (cA 0, 40, .inl sb))]) (pl := (rwT cA ra gf (t0 + 1))) ⟨hx, hb, hml, hown, hts⟩ (c_X6_give l D cA x1 x0 ts tk tco t4 t5 t6 tv gp gq gh (la m0) oa1 ob1 ra t0 k0 b0 e0 j x14 cf_ gvn sa sb gf hts0 ht5 htk hk5 hgq hgp hnb hb4 hok.2.2.2 he0 he9) rfl (cwV 3 hts gX7_share_X6_give rfl rfl rfl (by decide +kernel) ⟨Nat.le_of_ble_eq_true rfl, Nat.le_of_ble_eq_true rfl⟩) hK hP hD [1, 2, 3, 4, 5, 7, 8, 9] (by decide) rfl rfl rfl hl.1 rfl (Nat.le_of_ble_eq_true rfl) dX7_share_53 ⟨Nat.le_of_ble_eq_true rfl, Nat.le_of_ble_eq_true rfl⟩) hP hD hS [1, 2, 3, 4, 5, 7, 8, 9] [0, 6, 10, 11, 12, 13, 14, 15] rfl rfl (wr := [(h0, .inr (6, [.ref x0, .ref x1, .ref x2, .int x3, .ref x4, .ref x5, .ref x6, .ref x7, .ref x8, .ref x9, .ref x10, .ref x11, .int x12, .int x13, .int x14, .int x15, .int x16, .int x17, .int x18, .int x19])), (x5, .inl (cA 3, 5, .inr (.inr (.inr (.inr (fun k => some (la k))))))), (x2, .inr (0, [.ref ka, .ref xa, .ref ya, .ref za, .ref ca, .int n])), (ka, .inl (cA 0, 600, .inl kf)), (xa, .inl (cA 0, 600, .inl xf)), (ya, .inl (cA 0, 600, .inl yf)), (za, .inl (cA 2, 600, .inr (.inl zf))), (ca, .inl (cA 2, 600, .inr (.inl cf)))]) rfl rfl (ads := [h0, x1, x0, tco, t4, t5, x5, (la m0), oa1, ob1, x2, ka, xa, ya, za, ca]) rfl rfl rwT_fst rfl (fun H locs hP hD hS => ?_)
          refine lv_aload_n hx hb dX7_share_56 rfl (lv_at hl 0 rfl) ?_
          refine va_get (D := D) (ci := 6) (v := .ref x2) (C := RX7) (T := TX7) (N := 20) hx hb hts hin_X7 hown hK hP 0 rfl rfl 2 (by decide) (w_RX7_55) (fun _ h9 => h9) rfl dX7_share_57 ?_
          refine lv_bipush (v := 7) hx hb dX7_share_60 (by decide) ?_
          refine lv_iload_n hx hb dX7_share_62 rfl (lv_at hl 1 rfl) ?_
          refine lv_iconst (v := 0) hx hb dX7_share_63 (by decide) ?_
          refine lv_aload_n hx hb dX7_share_64 rfl (lv_at hl 0 rfl) ?_
          refine va_get (D := D) (ci := 6) (v := .ref x1) (C := RX7) (T := TX7) (N := 20) hx hb hts hin_X7 hown hK hP 0 rfl rfl 1 (by decide) (w_RX7_48) (fun _ h9 => h9) rfl dX7_share_65 ?_
          refine lv_iload_n hx hb dX7_share_68 rfl (lv_at hl 1 rfl) ?_
          refine lv_aload_n hx hb dX7_share_69 rfl (lv_at hl 0 rfl) ?_
          refine va_get (D := D) (ci := 6) (v := .int x14) (C := RX7) (T := TX7) (N := 20) hx hb hts hin_X7 hown hK hP 0 rfl rfl 14 (by decide) (w_RX7_158) (fun _ h9 => h9) rfl dX7_share_70 ?_
          refine rq_call1 (v := .long (dg1 ((upr gf j.toNatClampNeg (scat (fun i => i) (fun i => pw gp 32 e0 1 (sa i)) (gf j.toNatClampNeg) b0)) j.toNatClampNeg) b0)) (rn_VT (As := [.int j, .int x14]) (rest := [.int 0, .int j, .int 7, .ref x2]) (ci := 5) (fs := [.ref x0, .int ts, .int tk, .ref tco, .ref t4, .ref t5, .ref t6, .int (tv + 1)]) (X := [(h0, .inr (6, [.ref x0, .ref x1, .ref x2, .int x3, .ref x4, .ref x5, .ref x6, .ref x7, .ref x8, .ref x9, .ref x10, .ref x11, .int x12, .int x13, .int x14, .int x15, .int x16, .int x17, .int x18, .int x19])), (x1, .inr (5, [.ref x0, .int ts, .int tk, .ref tco, .ref t4, .ref t5, .ref t6, .int (tv + 1)])), (x0, .inr (1, [.int gp, .int gq, .int gh])), (tco, .inl (cA 0, k0, .inl cf_)), (t4, .inl (cA 1, (t0 + 1), .inl (upd gvn j.toNatClampNeg (vp_nar .boolean 1)))), (t5, .inl (cA 4, (t0 + 1), .inr (.inr (.inr (.inr (fun k => some (ra + k))))))), (x5, .inl (cA 3, 5, .inr (.inr (.inr (.inr (fun k => some (la k))))))), ((la m0), .inr (3, [.ref oa1, .ref ob1])), (oa1, .inl (cA 0, 40, .inl sa)), (ob1, .inl (cA 0, 40, .inl sb)), (x2, .inr (0, [.ref ka, .ref xa, .ref ya, .ref za, .ref ca, .int n])), (ka, .inl (cA 0, 600, .inl kf)), (xa, .inl (cA 0, 600, .inl xf)), (ya, .inl (cA 0, 600, .inl yf)), (za, .inl (cA 2, 600, .inr (.inl zf))), (ca, .inl (cA 2, 600, .inr (.inl cf)))]) (cx := [(x1, .inr (5, [.ref x0, .int ts, .int tk, .ref tco, .ref t4, .ref t5, .ref t6, .int (tv + 1)])), (t4, .inl (cA 1, (t0 + 1), .inl (upd gvn j.toNatClampNeg (vp_nar .boolean 1)))), (t5, .inl (cA 4, (t0 + 1), .inr (.inr (.inr (.inr (fun k => some (ra + k)))))))]) (pl := (rwT cA ra (upr gf j.toNatClampNeg (scat (fun i => i) (fun i => pw gp 32 e0 1 (sa i)) (gf j.toNatClampNeg) b0)) (t0 + 1))) ⟨hx, hb, hml, hown, hts⟩ (c_X6_digest l D cA x1 x0 ts tk tco t4 t5 t6 (tv + 1) (upd gvn j.toNatClampNeg (vp_nar .boolean 1)) (upr gf j.toNatClampNeg (scat (fun i => i) (fun i => pw gp 32 e0 1 (sa i)) (gf j.toNatClampNeg) b0)) ra t0 j x14 b0 hts0 ht5 hnb hb4 ⟨hok.2.2.2.1, by rw [pk_us]; decide⟩) rfl (cwV 2 hts gX7_share_X6_digest rfl rfl rfl (by decide +kernel) ⟨Nat.le_of_ble_eq_true rfl, Nat.le_of_ble_eq_true rfl⟩) hK hP [1, 4, 5] rfl rfl rfl hl.1 rfl (Nat.le_of_ble_eq_true rfl) dX7_share_73 ⟨Nat.le_of_ble_eq_true rfl, Nat.le_of_ble_eq_true rfl⟩) ?_
          rw [sd_eq]
          refine wt_callL1 (v := .long (dg (dg (dg (dg (cho cf n (n - 1)) ((7 : Int32).toInt64)) (j.toInt64)) ((0 : Int32).toInt64)) (dg1 (fun i => pw gp 32 e0 1 (sa i)) b0))) (X := [(h0, .inr (6, [.ref x0, .ref x1, .ref x2, .int x3, .ref x4, .ref x5, .ref x6, .ref x7, .ref x8, .ref x9, .ref x10, .ref x11, .int x12, .int x13, .int x14, .int x15, .int x16, .int x17, .int x18, .int x19])), (x1, .inr (5, [.ref x0, .int ts, .int tk, .ref tco, .ref t4, .ref t5, .ref t6, .int (tv + 1)])), (x0, .inr (1, [.int gp, .int gq, .int gh])), (tco, .inl (cA 0, k0, .inl cf_)), (t4, .inl (cA 1, (t0 + 1), .inl (upd gvn j.toNatClampNeg (vp_nar .boolean 1)))), (t5, .inl (cA 4, (t0 + 1), .inr (.inr (.inr (.inr (fun k => some (ra + k))))))), (x5, .inl (cA 3, 5, .inr (.inr (.inr (.inr (fun k => some (la k))))))), ((la m0), .inr (3, [.ref oa1, .ref ob1])), (oa1, .inl (cA 0, 40, .inl sa)), (ob1, .inl (cA 0, 40, .inl sb)), (x2, .inr (0, [.ref ka, .ref xa, .ref ya, .ref za, .ref ca, .int n])), (ka, .inl (cA 0, 600, .inl kf)), (xa, .inl (cA 0, 600, .inl xf)), (ya, .inl (cA 0, 600, .inl yf)), (za, .inl (cA 2, 600, .inr (.inl zf))), (ca, .inl (cA 2, 600, .inr (.inl cf)))]) (cx := [(x2, .inr (0, [.ref ka, .ref xa, .ref ya, .ref za, .ref ca, .int n])), (ka, .inl (cA 0, 600, .inl kf)), (xa, .inl (cA 0, 600, .inl xf)), (ya, .inl (cA 0, 600, .inl yf)), (za, .inl (cA 2, 600, .inr (.inl zf))), (ca, .inl (cA 2, 600, .inr (.inl cf)))]) (rx := [(x2, .inr (0, [.ref ka, .ref xa, .ref ya, .ref za, .ref ca, .int (n + 1)])), (ka, .inl (cA 0, 600, .inl (upd kf n.toNatClampNeg 7))), (xa, .inl (cA 0, 600, .inl (upd xf n.toNatClampNeg j))), (ya, .inl (cA 0, 600, .inl (upd yf n.toNatClampNeg 0))), (za, .inl (cA 2, 600, .inr (.inl (vp_updL zf n.toNatClampNeg (dg1 (fun i => pw gp 32 e0 1 (sa i)) b0))))), (ca, .inl (cA 2, 600, .inr (.inl (vp_updL cf n.toNatClampNeg (dg (dg (dg (dg (cho cf n (n - 1)) ((7 : Int32).toInt64)) (j.toInt64)) ((0 : Int32).toInt64)) (dg1 (fun i => pw gp 32 e0 1 (sa i)) b0))))))]) (X' := [(h0, .inr (6, [.ref x0, .ref x1, .ref x2, .int x3, .ref x4, .ref x5, .ref x6, .ref x7, .ref x8, .ref x9, .ref x10, .ref x11, .int x12, .int x13, .int x14, .int x15, .int x16, .int x17, .int x18, .int x19])), (x1, .inr (5, [.ref x0, .int ts, .int tk, .ref tco, .ref t4, .ref t5, .ref t6, .int (tv + 1)])), (x0, .inr (1, [.int gp, .int gq, .int gh])), (tco, .inl (cA 0, k0, .inl cf_)), (t4, .inl (cA 1, (t0 + 1), .inl (upd gvn j.toNatClampNeg (vp_nar .boolean 1)))), (t5, .inl (cA 4, (t0 + 1), .inr (.inr (.inr (.inr (fun k => some (ra + k))))))), (x5, .inl (cA 3, 5, .inr (.inr (.inr (.inr (fun k => some (la k))))))), ((la m0), .inr (3, [.ref oa1, .ref ob1])), (oa1, .inl (cA 0, 40, .inl sa)), (ob1, .inl (cA 0, 40, .inl sb)), (x2, .inr (0, [.ref ka, .ref xa, .ref ya, .ref za, .ref ca, .int (n + 1)])), (ka, .inl (cA 0, 600, .inl (upd kf n.toNatClampNeg 7))), (xa, .inl (cA 0, 600, .inl (upd xf n.toNatClampNeg j))), (ya, .inl (cA 0, 600, .inl (upd yf n.toNatClampNeg 0))), (za, .inl (cA 2, 600, .inr (.inl (vp_updL zf n.toNatClampNeg (dg1 (fun i => pw gp 32 e0 1 (sa i)) b0))))), (ca, .inl (cA 2, 600, .inr (.inl (vp_updL cf n.toNatClampNeg (dg (dg (dg (dg (cho cf n (n - 1)) ((7 : Int32).toInt64)) (j.toInt64)) ((0 : Int32).toInt64)) (dg1 (fun i => pw gp 32 e0 1 (sa i)) b0))))))]) (pl := (rwT cA ra (upr gf j.toNatClampNeg (scat (fun i => i) (fun i => pw gp 32 e0 1 (sa i)) (gf j.toNatClampNeg) b0)) (t0 + 1))) (wn_V (As := [.int 7, .int j, .int 0, .long (dg1 (fun i => pw gp 32 e0 1 (sa i)) b0)]) (rest := []) (ci := 0) (fs := [.ref ka, .ref xa, .ref ya, .ref za, .ref ca, .int n]) ⟨hx, hb, hml, hown, hts⟩ (c_X0_add l D cA x2 ka xa ya za ca n kf xf yf zf cf 7 j 0 (dg1 (fun i => pw gp 32 e0 1 (sa i)) b0) n0 hbn h6) rfl (cwV 4 hts gX7_share_X0_add rfl rfl rfl (by decide +kernel) ⟨Nat.le_of_ble_eq_true rfl, Nat.le_of_ble_eq_true rfl⟩) hK hP hD [10, 11, 12, 13, 14, 15] rfl (by decide) rfl rfl rfl hl.1 rfl (Nat.le_of_ble_eq_true rfl) dX7_share_76 ⟨Nat.le_of_ble_eq_true rfl, Nat.le_of_ble_eq_true rfl⟩) hP hD hS [10, 11, 12, 13, 14, 15] [0, 1, 2, 3, 4, 5, 6, 7, 8, 9] rfl rfl (wr := [(h0, .inr (6, [.ref x0, .ref x1, .ref x2, .int x3, .ref x4, .ref x5, .ref x6, .ref x7, .ref x8, .ref x9, .ref x10, .ref x11, .int x12, .int x13, .int x14, .int x15, .int x16, .int x17, .int x18, .int x19])), (x1, .inr (5, [.ref x0, .int ts, .int tk, .ref tco, .ref t4, .ref t5, .ref t6, .int (tv + 1)])), (x0, .inr (1, [.int gp, .int gq, .int gh])), (tco, .inl (cA 0, k0, .inl cf_)), (t4, .inl (cA 1, (t0 + 1), .inl (upd gvn j.toNatClampNeg (vp_nar .boolean 1)))), (t5, .inl (cA 4, (t0 + 1), .inr (.inr (.inr (.inr (fun k => some (ra + k))))))), (x5, .inl (cA 3, 5, .inr (.inr (.inr (.inr (fun k => some (la k))))))), ((la m0), .inr (3, [.ref oa1, .ref ob1])), (oa1, .inl (cA 0, 40, .inl sa)), (ob1, .inl (cA 0, 40, .inl sb))]) rfl rfl (ads := [h0, x1, x0, tco, t4, t5, x5, (la m0), oa1, ob1, x2, ka, xa, ya, za, ca]) rfl rfl rfl (fun H locs hP hD hS => ?_)
          refine lv_pop2_2 hx hb dX7_share_79 rfl ?_
          refine lv_aload_n hx hb dX7_share_80 rfl (lv_at hl 0 rfl) ?_
          refine va_get (D := D) (ci := 6) (v := .ref x1) (C := RX7) (T := TX7) (N := 20) hx hb hts hin_X7 hown hK hP 0 rfl rfl 1 (by decide) (w_RX7_48) (fun _ h9 => h9) rfl dX7_share_81 ?_
          refine rq_call1 (v := .int (tv + 1)) (rn_V (As := []) (rest := []) (ci := 5) (fs := [.ref x0, .int ts, .int tk, .ref tco, .ref t4, .ref t5, .ref t6, .int (tv + 1)]) ⟨hx, hb, hml, hown, hts⟩ (c_X6_givers l D cA x1 x0 ts tk tco t4 t5 t6 (tv + 1)) rfl (cwV 0 hts gX7_share_X6_givers rfl rfl rfl (by decide +kernel) ⟨Nat.le_of_ble_eq_true rfl, Nat.le_of_ble_eq_true rfl⟩) hK hP [1] rfl rfl rfl hl.1 rfl (Nat.le_of_ble_eq_true rfl) dX7_share_84 ⟨Nat.le_of_ble_eq_true rfl, Nat.le_of_ble_eq_true rfl⟩) ?_
          have hP9 : va_P D vwCl ([(h0, .inr (6, [.ref x0, .ref x1, .ref x2, .int x3, .ref x4, .ref x5, .ref x6, .ref x7, .ref x8, .ref x9, .ref x10, .ref x11, .int x12, .int x13, .int x14, .int x15, .int x16, .int x17, .int x18, .int x19])), (x1, .inr (5, [.ref x0, .int ts, .int tk, .ref tco, .ref t4, .ref t5, .ref t6, .int (tv + 1)])), (x0, .inr (1, [.int gp, .int gq, .int gh])), (tco, .inl (cA 0, k0, .inl cf_)), (t4, .inl (cA 1, (t0 + 1), .inl (upd gvn j.toNatClampNeg (vp_nar .boolean 1)))), (t5, .inl (cA 4, (t0 + 1), .inr (.inr (.inr (.inr (fun k => some (ra + k))))))), (x5, .inl (cA 3, 5, .inr (.inr (.inr (.inr (fun k => some (la k))))))), ((la m0), .inr (3, [.ref oa1, .ref ob1])), (oa1, .inl (cA 0, 40, .inl sa)), (ob1, .inl (cA 0, 40, .inl sb)), (x2, .inr (0, [.ref ka, .ref xa, .ref ya, .ref za, .ref ca, .int (n + 1)])), (ka, .inl (cA 0, 600, .inl (upd kf n.toNatClampNeg 7))), (xa, .inl (cA 0, 600, .inl (upd xf n.toNatClampNeg j))), (ya, .inl (cA 0, 600, .inl (upd yf n.toNatClampNeg 0))), (za, .inl (cA 2, 600, .inr (.inl (vp_updL zf n.toNatClampNeg (dg1 (fun i => pw gp 32 e0 1 (sa i)) b0))))), (ca, .inl (cA 2, 600, .inr (.inl (vp_updL cf n.toNatClampNeg (dg (dg (dg (dg (cho cf n (n - 1)) ((7 : Int32).toInt64)) (j.toInt64)) ((0 : Int32).toInt64)) (dg1 (fun i => pw gp 32 e0 1 (sa i)) b0))))))] ++ (rwT cA ra (upr gf j.toNatClampNeg (scat (fun i => i) (fun i => pw gp 32 e0 1 (sa i)) (gf j.toNatClampNeg) b0)) (t0 + 1))) H := hP
          exact W.iret (v := (tv + 1)) hx hb hr (fun t ht hW => ⟨congrArg (fun z => Outcome.returned (some (Value.int z))) (rfl), by rw [ht]; exact hP9, hS.F ht⟩) hS.2.2 dX7_share_87
        · exact absurd hok.2.2.2 (bI_0 c_31)

set_option maxHeartbeats 4000000 in
set_option maxRecDepth 100000 in
theorem c_X7_candidateOf (l : Launch) (D : va_G) (cA : Nat → ClassId) (h0 : Nat) (x0 : Nat) (x1 : Nat) (x2 : Nat) (x3 : Int32) (x4 : Nat) (x5 : Nat) (x6 : Nat) (x7 : Nat) (x8 : Nat) (x9 : Nat) (x10 : Nat) (x11 : Nat) (x12 : Int32) (x13 : Int32) (x14 : Int32) (x15 : Int32) (x16 : Int32) (x17 : Int32) (x18 : Int32) (x19 : Int32) (gp : Int32) (gq : Int32) (gh : Int32) (v : Int32) (c0 : Nat) (hc0 : x3 = nI c0) (hc1 : c0 ≤ 10) (hgp : 0 < gp) : Met l yX7_candidateOf wsX7_candidateOf ({ frames := 4, cells := 0, slots := 0, locals := 90 }) (rPc vwCl D cA [(h0, .inr (6, [.ref x0, .ref x1, .ref x2, .int x3, .ref x4, .ref x5, .ref x6, .ref x7, .ref x8, .ref x9, .ref x10, .ref x11, .int x12, .int x13, .int x14, .int x15, .int x16, .int x17, .int x18, .int x19])), (x0, .inr (1, [.int gp, .int gq, .int gh]))] [.ref h0, .int v]) (rq_x (some (.int (nI (cfi (fun c => decide (pw gp 32 (c + 1) 1 4 = v)) c0))))) 0 0 (fun _ => False) := by
  refine Met.ofW (cc := cX7_candidateOf) (maxL := 3) (ret := (some .int)) (by decide) rfl ?_
  intro p e s m args below meth c s₁ B hml hv
  obtain ⟨rfl, hP, hK⟩ := hv
  have hx := B.exec
  have hb := B.bytes
  have hr := B.returns
  have hts := atoms_spec (ws := wsX7_candidateOf) B.pre
  have hown : s.vm.findClass RX7 = some m.cls := findClass_of_methodNamed B.named
  have hlocks := B.notSynchronized
  have hin_X7 : ∀ w ∈ wsX70, w ∈ wsX7_candidateOf := fun w h => List.mem_cons_of_mem _ (List.mem_append_left _ (List.mem_append_right _ h))
  have w_RX7_39 := hts (.fieldLink RX7 39 "MixElection" "candidates" "I") (by decide +kernel)
  have w_RX7_25 := hts (.fieldLink RX7 25 "MixElection" "group" "LMixElection$Group;") (by decide +kernel)
  have hl := lv_entry ([.ref h0, .int v]) (n := 3) (Nat.le_of_ble_eq_true rfl)
  rw [lg_entry_eq]
  generalize (lg_sl ([.ref h0, .int v]) ++ List.replicate (3 - (lg_sl ([.ref h0, .int v])).length) Slot.unset).toArray = ls at hl ⊢
  have hl : lv_has ls 3 [(0, .ref h0), (1, .int v)] := hl
  refine lv_iconst (v := 0) hx hb dX7_candidateOf_0 (by decide) ?_
  refine lv_istore_n (lv' := [(2, .int 0), (0, .ref h0), (1, .int v)]) hx hb dX7_candidateOf_1 rfl hl (by decide) rfl (fun ls hl => ?_)
  have loop2 : ∀ (f_ k : Nat) (z : Int32), z = nI k → c0 + 1 ≤ k + f_ → k ≤ c0 → (∀ j : Nat, j < k → (fun c => decide (pw gp 32 (c + 1) 1 4 = v)) j = false) → ∀ ls : Array Slot, lv_has ls 3 [(0, .ref h0), (1, .int v), (2, .int z)] → W p l e (headSpec wsX7_candidateOf ({ frames := 4, cells := 0, slots := 0, locals := 90 })).room s m [.ref h0, .int v].toArray below meth c s.heap [] 0 0 (MQ below (rq_x (some (.int (nI (cfi (fun c => decide (pw gp 32 (c + 1) 1 4 = v)) c0))))) [.ref h0, .int v].toArray s 0 0 (fun _ => False)) (F0 m 2 ls []) := by
    intro f
    induction f with
    | zero =>
      intro k z hz h1 h2
      omega
    | succ f ih =>
      intro k z hz h1 h2 h3 ls hl
      refine lv_iload_n hx hb dX7_candidateOf_2 rfl (lv_at hl 2 rfl) ?_
      refine lv_aload_n hx hb dX7_candidateOf_3 rfl (lv_at hl 0 rfl) ?_
      refine va_get (D := D) (ci := 6) (v := .int x3) (C := RX7) (T := TX7) (N := 20) hx hb hts hin_X7 hown hK hP 0 rfl rfl 3 (by decide) (w_RX7_39) (fun _ h9 => h9) rfl dX7_candidateOf_4 ?_
      refine lv_icmp_ge (tgt := 30) hx hb dX7_candidateOf_7 (by decide) (fun c_7 => ?_) (fun c_7 => ?_)
      · skip
        refine lv_aload_n hx hb dX7_candidateOf_30 rfl (lv_at hl 0 rfl) ?_
        refine va_get (D := D) (ci := 6) (v := .int x3) (C := RX7) (T := TX7) (N := 20) hx hb hts hin_X7 hown hK hP 0 rfl rfl 3 (by decide) (w_RX7_39) (fun _ h9 => h9) rfl dX7_candidateOf_31 ?_
        exact W.iret (v := x3) hx hb hr (fun t ht hW => ⟨congrArg (fun z => Outcome.returned (some (Value.int z))) ((by rw [hc0, cfi_no c0 (by rw [← lp_end hz hc0 (by omega) h2 c_7]; exact h3)])), ht⟩) (fun _ h => by cases h) dX7_candidateOf_34
      · skip
        refine lv_aload_n hx hb dX7_candidateOf_10 rfl (lv_at hl 0 rfl) ?_
        refine va_get (D := D) (ci := 6) (v := .ref x0) (C := RX7) (T := TX7) (N := 20) hx hb hts hin_X7 hown hK hP 0 rfl rfl 0 (by decide) (w_RX7_25) (fun _ h9 => h9) rfl dX7_candidateOf_11 ?_
        refine lv_iload_n hx hb dX7_candidateOf_14 rfl (lv_at hl 2 rfl) ?_
        refine rq_call1 (v := .int (pw gp 32 (k + 1) 1 4)) (rn_V (As := [.int z]) (rest := []) (ci := 1) (fs := [.int gp, .int gq, .int gh]) ⟨hx, hb, hml, hown, hts⟩ (c_X1_markOf l D cA x0 gp gq gh z k hz (by omega) hgp) rfl (cwV 1 hts gX7_candidateOf_X1_markOf rfl rfl rfl (by decide +kernel) ⟨Nat.le_of_ble_eq_true rfl, Nat.le_of_ble_eq_true rfl⟩) hK hP [1] rfl rfl rfl hl.1 rfl (Nat.le_of_ble_eq_true rfl) dX7_candidateOf_15 ⟨Nat.le_of_ble_eq_true rfl, Nat.le_of_ble_eq_true rfl⟩) ?_
        refine lv_iload_n hx hb dX7_candidateOf_18 rfl (lv_at hl 1 rfl) ?_
        refine lv_icmp_ne (tgt := 24) hx hb dX7_candidateOf_19 (by decide) (fun c_19 => ?_) (fun c_19 => ?_)
        · skip
          refine lv_iinc (v := (z + 1)) (lv' := [(2, .int (z + 1)), (0, .ref h0), (1, .int v)]) hx hb dX7_candidateOf_24 hl (k := 2) rfl rfl (by decide) rfl (fun ls hl => ?_)
          refine lv_goto (tgt := 2) hx hb dX7_candidateOf_27 (by decide) ?_
          have hk := lp_lt hz hc0 (by omega) h2 c_7
          exact ih (k + 1) (z + 1) (st_1 hz) (by omega) (by omega) (co_next h3 c_19) ls (lv_sub hl [1, 2, 0] rfl)
        · skip
          refine lv_iload_n hx hb dX7_candidateOf_22 rfl (lv_at hl 2 rfl) ?_
          exact W.iret (v := z) hx hb hr (fun t ht hW => ⟨congrArg (fun z => Outcome.returned (some (Value.int z))) ((by rw [hz, cfi_at h3 (decide_eq_true c_19) c0 (lp_lt hz hc0 (by omega) h2 c_7)])), ht⟩) (fun _ h => by cases h) dX7_candidateOf_23
  exact loop2 (c0 + 1) 0 0 rfl (by omega) (by omega) (fun j h => by omega) ls (lv_sub hl [1, 2, 0] rfl)

set_option maxHeartbeats 4000000 in
set_option maxRecDepth 100000 in
theorem c_X7_count (l : Launch) (D : va_G) (cA : Nat → ClassId) (h0 : Nat) (x0 : Nat) (x1 : Nat) (x2 : Nat) (x3 : Int32) (x4 : Nat) (x5 : Nat) (x6 : Nat) (x7 : Nat) (x8 : Nat) (x9 : Nat) (x10 : Nat) (x11 : Nat) (x12 : Int32) (x13 : Int32) (x14 : Int32) (x15 : Int32) (x16 : Int32) (x17 : Int32) (x18 : Int32) (x19 : Int32) (v : Int32) (ctf : Nat → Int32) (c0 : Nat) (hc1 : c0 ≤ 10) : Met l yX7_count wsX7_count ({ frames := 0, cells := 0, slots := 0, locals := 0 }) (rPc vwCl D cA [(h0, .inr (6, [.ref x0, .ref x1, .ref x2, .int x3, .ref x4, .ref x5, .ref x6, .ref x7, .ref x8, .ref x9, .ref x10, .ref x11, .int x12, .int x13, .int x14, .int x15, .int x16, .int x17, .int x18, .int x19])), (x11, .inl (cA 0, (c0 + 1), .inl ctf))] [.ref h0, .int v]) (rq_x (some (.int (if x12 = 3 ∧ 0 ≤ v ∧ v < nI (c0 + 1) then ctf v.toNatClampNeg else -1)))) 0 0 (fun _ => False) := by
  refine Met.ofW (cc := cX7_count) (maxL := 2) (ret := (some .int)) (by decide) rfl ?_
  intro p e s m args below meth c s₁ B hml hv
  obtain ⟨rfl, hP, hK⟩ := hv
  have hx := B.exec
  have hb := B.bytes
  have hr := B.returns
  have hts := atoms_spec (ws := wsX7_count) B.pre
  have hown : s.vm.findClass RX7 = some m.cls := findClass_of_methodNamed B.named
  have hlocks := B.notSynchronized
  have hin_X7 : ∀ w ∈ wsX70, w ∈ wsX7_count := fun w h => List.mem_cons_of_mem _ (List.mem_append_right _ h)
  have w_RX7_97 := hts (.fieldLink RX7 97 "MixElection" "stage" "I") (by decide +kernel)
  have w_RX7_93 := hts (.fieldLink RX7 93 "MixElection" "counts" "[I") (by decide +kernel)
  have hl := lv_entry ([.ref h0, .int v]) (n := 2) (Nat.le_of_ble_eq_true rfl)
  rw [lg_entry_eq]
  generalize (lg_sl ([.ref h0, .int v]) ++ List.replicate (2 - (lg_sl ([.ref h0, .int v])).length) Slot.unset).toArray = ls at hl ⊢
  have hl : lv_has ls 2 [(0, .ref h0), (1, .int v)] := hl
  refine lv_aload_n hx hb dX7_count_0 rfl (lv_at hl 0 rfl) ?_
  refine va_get (D := D) (ci := 6) (v := .int x12) (C := RX7) (T := TX7) (N := 20) hx hb hts hin_X7 hown hK hP 0 rfl rfl 12 (by decide) (w_RX7_97) (fun _ h9 => h9) rfl dX7_count_1 ?_
  refine lv_iconst (v := 3) hx hb dX7_count_4 (by decide) ?_
  refine lv_icmp_ne (tgt := 30) hx hb dX7_count_5 (by decide) (fun c_5 => ?_) (fun c_5 => ?_)
  · skip
    refine lv_iconst (v := (-1)) hx hb dX7_count_30 (by decide) ?_
    exact W.iret (v := (-1)) hx hb hr (fun t ht hW => ⟨congrArg (fun z => Outcome.returned (some (Value.int z))) ((by rw [if_neg (fun h => c_5 h.1)])), ht⟩) (fun _ h => by cases h) dX7_count_31
  · skip
    refine lv_iload_n hx hb dX7_count_8 rfl (lv_at hl 1 rfl) ?_
    refine lv_if_lt (tgt := 30) hx hb dX7_count_9 (by decide) (fun c_9 => ?_) (fun c_9 => ?_)
    · skip
      refine lv_iconst (v := (-1)) hx hb dX7_count_30 (by decide) ?_
      exact W.iret (v := (-1)) hx hb hr (fun t ht hW => ⟨congrArg (fun z => Outcome.returned (some (Value.int z))) ((by rw [if_neg (fun h => absurd c_9 (Int32.not_lt.mpr h.2.1))])), ht⟩) (fun _ h => by cases h) dX7_count_31
    · skip
      refine lv_iload_n hx hb dX7_count_12 rfl (lv_at hl 1 rfl) ?_
      refine lv_aload_n hx hb dX7_count_13 rfl (lv_at hl 0 rfl) ?_
      refine va_get (D := D) (ci := 6) (v := .ref x11) (C := RX7) (T := TX7) (N := 20) hx hb hts hin_X7 hown hK hP 0 rfl rfl 11 (by decide) (w_RX7_93) (fun _ h9 => h9) rfl dX7_count_14 ?_
      refine va_alen (v := (Int32.ofNat (c0 + 1))) hx hb hK hP 1 0 rfl rfl rfl dX7_count_17 ?_
      refine lv_icmp_ge (tgt := 30) hx hb dX7_count_18 (by decide) (fun c_18 => ?_) (fun c_18 => ?_)
      · skip
        refine lv_iconst (v := (-1)) hx hb dX7_count_30 (by decide) ?_
        exact W.iret (v := (-1)) hx hb hr (fun t ht hW => ⟨congrArg (fun z => Outcome.returned (some (Value.int z))) ((by rw [if_neg (fun h => absurd h.2.2 (Int32.not_lt.mpr c_18))])), ht⟩) (fun _ h => by cases h) dX7_count_31
      · skip
        refine lv_aload_n hx hb dX7_count_21 rfl (lv_at hl 0 rfl) ?_
        refine va_get (D := D) (ci := 6) (v := .ref x11) (C := RX7) (T := TX7) (N := 20) hx hb hts hin_X7 hown hK hP 0 rfl rfl 11 (by decide) (w_RX7_93) (fun _ h9 => h9) rfl dX7_count_22 ?_
        refine lv_iload_n hx hb dX7_count_25 rfl (lv_at hl 1 rfl) ?_
        refine va_iald hx hb hK hP 1 0 rfl rfl (ix_in ⟨Int32.not_lt.mp c_9, Int32.not_le.mp c_18⟩ (rfl : Int32.ofNat (c0 + 1) = nI (c0 + 1)) (Nat.le_refl _) (by omega)) dX7_count_26 ?_
        refine lv_goto (tgt := 31) hx hb dX7_count_27 (by decide) ?_
        exact W.iret (v := (ctf v.toNatClampNeg)) hx hb hr (fun t ht hW => ⟨congrArg (fun z => Outcome.returned (some (Value.int z))) ((by rw [if_pos ⟨c_5, Int32.not_lt.mp c_9, Int32.not_le.mp c_18⟩])), ht⟩) (fun _ h => by cases h) dX7_count_31

set_option maxHeartbeats 4000000 in
set_option maxRecDepth 100000 in
theorem c_X7_digestOfCounts (l : Launch) (D : va_G) (cA : Nat → ClassId) (h0 : Nat) (x0 : Nat) (x1 : Nat) (x2 : Nat) (x3 : Int32) (x4 : Nat) (x5 : Nat) (x6 : Nat) (x7 : Nat) (x8 : Nat) (x9 : Nat) (x10 : Nat) (x11 : Nat) (x12 : Int32) (x13 : Int32) (x14 : Int32) (x15 : Int32) (x16 : Int32) (x17 : Int32) (x18 : Int32) (x19 : Int32) (ctf : Nat → Int32) (c0 : Nat) (hst : x12 = 3) (hc0 : x3 = nI c0) (hc1 : c0 ≤ 10) : Met l yX7_digestOfCounts wsX7_digestOfCounts ({ frames := 1, cells := 0, slots := 0, locals := 23 }) (rPc vwCl D cA [(h0, .inr (6, [.ref x0, .ref x1, .ref x2, .int x3, .ref x4, .ref x5, .ref x6, .ref x7, .ref x8, .ref x9, .ref x10, .ref x11, .int x12, .int x13, .int x14, .int x15, .int x16, .int x17, .int x18, .int x19])), (x11, .inl (cA 0, (c0 + 1), .inl ctf))] [.ref h0]) (rq_x (some (.long (dg1 ctf c0)))) 0 0 (fun _ => False) := by
  refine Met.ofW (cc := cX7_digestOfCounts) (maxL := 4) (ret := (some .long)) (by decide) rfl ?_
  intro p e s m args below meth c s₁ B hml hv
  obtain ⟨rfl, hP, hK⟩ := hv
  have hx := B.exec
  have hb := B.bytes
  have hr := B.returns
  have hts := atoms_spec (ws := wsX7_digestOfCounts) B.pre
  have hown : s.vm.findClass RX7 = some m.cls := findClass_of_methodNamed B.named
  have hlocks := B.notSynchronized
  have hin_X7 : ∀ w ∈ wsX70, w ∈ wsX7_digestOfCounts := fun w h => List.mem_cons_of_mem _ (List.mem_append_right _ h)
  have w_RX7_39 := hts (.fieldLink RX7 39 "MixElection" "candidates" "I") (by decide +kernel)
  have hl := lv_entry ([.ref h0]) (n := 4) (Nat.le_of_ble_eq_true rfl)
  rw [lg_entry_eq]
  generalize (lg_sl ([.ref h0]) ++ List.replicate (4 - (lg_sl ([.ref h0])).length) Slot.unset).toArray = ls at hl ⊢
  have hl : lv_has ls 4 [(0, .ref h0)] := hl
  refine lv_lconst (v := 0) hx hb dX7_digestOfCounts_0 (by decide) ?_
  refine lv_lstore_n (lv' := [(1, .long 0), (0, .ref h0)]) hx hb dX7_digestOfCounts_1 rfl hl (by decide) rfl (fun ls hl => ?_)
  refine lv_iconst (v := 0) hx hb dX7_digestOfCounts_2 (by decide) ?_
  refine lv_istore_n (lv' := [(3, .int 0), (1, .long 0), (0, .ref h0)]) hx hb dX7_digestOfCounts_3 rfl hl (by decide) rfl (fun ls hl => ?_)
  have loop4 : ∀ (f_ k : Nat) (z : Int32) (d : Int64), z = nI k → c0 + 1 ≤ k + f_ → k ≤ c0 → d = dg1 ctf k → ∀ ls : Array Slot, lv_has ls 4 [(0, .ref h0), (1, .long d), (3, .int z)] → W p l e (headSpec wsX7_digestOfCounts ({ frames := 1, cells := 0, slots := 0, locals := 23 })).room s m [.ref h0].toArray below meth c s.heap [] 0 0 (MQ below (rq_x (some (.long (dg1 ctf c0)))) [.ref h0].toArray s 0 0 (fun _ => False)) (F0 m 4 ls []) := by
    intro f
    induction f with
    | zero =>
      intro k z d hz h1 h2
      omega
    | succ f ih =>
      intro k z d hz h1 h2 hd ls hl
      refine lv_iload_n hx hb dX7_digestOfCounts_4 rfl (lv_at hl 2 rfl) ?_
      refine lv_aload_n hx hb dX7_digestOfCounts_5 rfl (lv_at hl 0 rfl) ?_
      refine va_get (D := D) (ci := 6) (v := .int x3) (C := RX7) (T := TX7) (N := 20) hx hb hts hin_X7 hown hK hP 0 rfl rfl 3 (by decide) (w_RX7_39) (fun _ h9 => h9) rfl dX7_digestOfCounts_6 ?_
      refine lv_icmp_ge (tgt := 29) hx hb dX7_digestOfCounts_9 (by decide) (fun c_9 => ?_) (fun c_9 => ?_)
      · skip
        refine lv_lload_n hx hb dX7_digestOfCounts_29 rfl (lv_at hl 1 rfl) ?_
        exact W.lret (v := d) hx hb hr (fun t ht hW => ⟨congrArg (fun z => Outcome.returned (some (Value.long z))) ((by rw [hd, lp_end hz hc0 (by omega) h2 c_9])), ht⟩) (fun _ h => by cases h) dX7_digestOfCounts_30
      · skip
        refine lv_lload_n hx hb dX7_digestOfCounts_12 rfl (lv_at hl 1 rfl) ?_
        refine lv_aload_n hx hb dX7_digestOfCounts_13 rfl (lv_at hl 0 rfl) ?_
        refine lv_iload_n hx hb dX7_digestOfCounts_14 rfl (lv_at hl 2 rfl) ?_
        refine rq_call1 (v := .int (if x12 = 3 ∧ 0 ≤ z ∧ z < nI (c0 + 1) then ctf z.toNatClampNeg else -1)) (rn_V (As := [.int z]) (rest := [.long d]) (ci := 6) (fs := [.ref x0, .ref x1, .ref x2, .int x3, .ref x4, .ref x5, .ref x6, .ref x7, .ref x8, .ref x9, .ref x10, .ref x11, .int x12, .int x13, .int x14, .int x15, .int x16, .int x17, .int x18, .int x19]) ⟨hx, hb, hml, hown, hts⟩ (c_X7_count l D cA h0 x0 x1 x2 x3 x4 x5 x6 x7 x8 x9 x10 x11 x12 x13 x14 x15 x16 x17 x18 x19 z ctf c0 hc1) rfl (cwV 1 hts gX7_digestOfCounts_X7_count rfl rfl rfl (by decide +kernel) ⟨Nat.le_of_ble_eq_true rfl, Nat.le_of_ble_eq_true rfl⟩) hK hP [0, 1] rfl rfl rfl hl.1 rfl (Nat.le_of_ble_eq_true rfl) dX7_digestOfCounts_15 ⟨Nat.le_of_ble_eq_true rfl, Nat.le_of_ble_eq_true rfl⟩) ?_
        rw [ct_n hst hz (lp_lt hz hc0 (by omega) h2 c_9) hc1]
        refine lv_i2l hx hb dX7_digestOfCounts_18 rfl ?_
        refine rq_call1 (v := .long (dg d ((ctf k).toInt64))) (rn_S (As := [.long d, .long (ctf k).toInt64]) (rest := []) ⟨hx, hb, hml, hown, hts⟩ (c_X3_digested l D cA d ((ctf k).toInt64)) (va_cwS 2 hts gX7_digestOfCounts_X3_digested rfl rfl rfl (by decide +kernel) ⟨Nat.le_of_ble_eq_true rfl, Nat.le_of_ble_eq_true rfl⟩) hK hP [] rfl rfl hl.1 rfl (Nat.le_of_ble_eq_true rfl) dX7_digestOfCounts_19 ⟨Nat.le_of_ble_eq_true rfl, Nat.le_of_ble_eq_true rfl⟩) ?_
        refine lv_lstore_n (lv' := [(1, .long (dg d ((ctf k).toInt64))), (0, .ref h0), (3, .int z)]) hx hb dX7_digestOfCounts_22 rfl hl (by decide) rfl (fun ls hl => ?_)
        refine lv_iinc (v := (z + 1)) (lv' := [(3, .int (z + 1)), (1, .long (dg d ((ctf k).toInt64))), (0, .ref h0)]) hx hb dX7_digestOfCounts_23 hl (k := 2) rfl rfl (by decide) rfl (fun ls hl => ?_)
        refine lv_goto (tgt := 4) hx hb dX7_digestOfCounts_26 (by decide) ?_
        have hk := lp_lt hz hc0 (by omega) h2 c_9
        exact ih (k + 1) (z + 1) _ (st_1 hz) (by omega) (by omega) (by rw [hd]; rfl) ls (lv_sub hl [2, 1, 0] rfl)
  exact loop4 (c0 + 1) 0 0 0 rfl (by omega) (by omega) rfl ls (lv_sub hl [2, 1, 0] rfl)

set_option maxHeartbeats 4000000 in
set_option maxRecDepth 100000 in
theorem c_X7_countBallots (l : Launch) (D : va_G) (cA : Nat → ClassId) (h0 : Nat) (x0 : Nat) (x1 : Nat) (x2 : Nat) (x3 : Int32) (x4 : Nat) (x5 : Nat) (x6 : Nat) (x7 : Nat) (x8 : Nat) (x9 : Nat) (x10 : Nat) (x11 : Nat) (x12 : Int32) (x13 : Int32) (x14 : Int32) (x15 : Int32) (x16 : Int32) (x17 : Int32) (x18 : Int32) (x19 : Int32) (ts : Int32) (tk : Int32) (tco : Nat) (t4 : Nat) (t5 : Nat) (t6 : Nat) (tv : Int32) (gp : Int32) (gq : Int32) (gh : Int32) (t0 : Nat) (k0 : Nat) (la0 : Nat) (q0 : Nat) (p0 : Nat) (ra : Nat) (oa1 : Nat) (ob1 : Nat) (b0 : Nat) (m0 : Nat) (c0 : Nat) (gvn : Nat → Int32) (wf : Nat → Int32) (sa : Nat → Int32) (sb : Nat → Int32) (ctf : Nat → Int32) (gf : Nat → Nat → Int32) (la : Nat → Nat) (hc0 : x3 = nI c0) (hc1 : c0 ≤ 10) (hm : x15 = nI m0) (hm4 : m0 < 5) (hts0 : ts = nI t0) (ht5 : t0 ≤ 5) (htk : tk = nI k0) (hk5 : k0 ≤ 5) (hk1 : 1 ≤ k0) (hL1 : gvc gvn la0 = k0) (hL2 : ∀ j : Nat, j < la0 → gvc gvn j < k0) (hL3 : la0 ≤ t0) (hq0 : gq = nI q0) (hq2 : 2 ≤ q0) (hq9 : q0 < 1000000) (hp0 : gp = nI p0) (hp2 : 2 ≤ p0) (hp9 : p0 < 1000000) (hnb : x14 = nI b0) (hb4 : b0 ≤ 40) (hwn : ∀ j : Nat, 1 ≤ j → j ≤ t0 → nn ((wts gq q0 gvn la0 wf t0) j)) : Met l yX7_countBallots wsX7_countBallots ({ frames := 5, cells := 0, slots := 0, locals := 116 }) (wPc vwCl D cA ([(h0, .inr (6, [.ref x0, .ref x1, .ref x2, .int x3, .ref x4, .ref x5, .ref x6, .ref x7, .ref x8, .ref x9, .ref x10, .ref x11, .int x12, .int x13, .int x14, .int x15, .int x16, .int x17, .int x18, .int x19])), (x1, .inr (5, [.ref x0, .int ts, .int tk, .ref tco, .ref t4, .ref t5, .ref t6, .int tv])), (x0, .inr (1, [.int gp, .int gq, .int gh])), (t4, .inl (cA 1, (t0 + 1), .inl gvn)), (t5, .inl (cA 4, (t0 + 1), .inr (.inr (.inr (.inr (fun k => some (ra + k))))))), (t6, .inl (cA 0, (t0 + 1), .inl wf)), (x5, .inl (cA 3, 5, .inr (.inr (.inr (.inr (fun k => some (la k))))))), ((la m0), .inr (3, [.ref oa1, .ref ob1])), (oa1, .inl (cA 0, 40, .inl sa)), (ob1, .inl (cA 0, 40, .inl sb)), (x11, .inl (cA 0, (c0 + 1), .inl ctf))] ++ (rwT cA ra gf (t0 + 1))) [.ref h0]) (wq_x vwCl D ([(h0, .inr (6, [.ref x0, .ref x1, .ref x2, .int x3, .ref x4, .ref x5, .ref x6, .ref x7, .ref x8, .ref x9, .ref x10, .ref x11, .int x12, .int x13, .int x14, .int x15, .int x16, .int x17, .int x18, .int x19])), (x1, .inr (5, [.ref x0, .int ts, .int tk, .ref tco, .ref t4, .ref t5, .ref t6, .int tv])), (x0, .inr (1, [.int gp, .int gq, .int gh])), (t4, .inl (cA 1, (t0 + 1), .inl gvn)), (t5, .inl (cA 4, (t0 + 1), .inr (.inr (.inr (.inr (fun k => some (ra + k))))))), (t6, .inl (cA 0, (t0 + 1), .inl (wts gq q0 gvn la0 wf t0))), (x5, .inl (cA 3, 5, .inr (.inr (.inr (.inr (fun k => some (la k))))))), ((la m0), .inr (3, [.ref oa1, .ref ob1])), (oa1, .inl (cA 0, 40, .inl sa)), (ob1, .inl (cA 0, 40, .inl sb)), (x11, .inl (cA 0, (c0 + 1), .inl (cts (fun i => cfi (fun c => decide (pw gp 32 (c + 1) 1 4 = (fun i => tm gp (sb i) (pw gp 32 (p0 - 2) 1 (jgf gp (wts gq q0 gvn la0 wf t0) (fun j => gft gvn gf ts (nI j) (nI i)) t0))) i)) c0) ctf b0)))] ++ (rwT cA ra gf (t0 + 1))) none (wA ([(h0, .inr (6, [.ref x0, .ref x1, .ref x2, .int x3, .ref x4, .ref x5, .ref x6, .ref x7, .ref x8, .ref x9, .ref x10, .ref x11, .int x12, .int x13, .int x14, .int x15, .int x16, .int x17, .int x18, .int x19])), (x1, .inr (5, [.ref x0, .int ts, .int tk, .ref tco, .ref t4, .ref t5, .ref t6, .int tv])), (x0, .inr (1, [.int gp, .int gq, .int gh])), (t4, .inl (cA 1, (t0 + 1), .inl gvn)), (t5, .inl (cA 4, (t0 + 1), .inr (.inr (.inr (.inr (fun k => some (ra + k))))))), (t6, .inl (cA 0, (t0 + 1), .inl wf)), (x5, .inl (cA 3, 5, .inr (.inr (.inr (.inr (fun k => some (la k))))))), ((la m0), .inr (3, [.ref oa1, .ref ob1])), (oa1, .inl (cA 0, 40, .inl sa)), (ob1, .inl (cA 0, 40, .inl sb)), (x11, .inl (cA 0, (c0 + 1), .inl ctf))] ++ (rwT cA ra gf (t0 + 1))))) 0 0 (wA ([(h0, .inr (6, [.ref x0, .ref x1, .ref x2, .int x3, .ref x4, .ref x5, .ref x6, .ref x7, .ref x8, .ref x9, .ref x10, .ref x11, .int x12, .int x13, .int x14, .int x15, .int x16, .int x17, .int x18, .int x19])), (x1, .inr (5, [.ref x0, .int ts, .int tk, .ref tco, .ref t4, .ref t5, .ref t6, .int tv])), (x0, .inr (1, [.int gp, .int gq, .int gh])), (t4, .inl (cA 1, (t0 + 1), .inl gvn)), (t5, .inl (cA 4, (t0 + 1), .inr (.inr (.inr (.inr (fun k => some (ra + k))))))), (t6, .inl (cA 0, (t0 + 1), .inl wf)), (x5, .inl (cA 3, 5, .inr (.inr (.inr (.inr (fun k => some (la k))))))), ((la m0), .inr (3, [.ref oa1, .ref ob1])), (oa1, .inl (cA 0, 40, .inl sa)), (ob1, .inl (cA 0, 40, .inl sb)), (x11, .inl (cA 0, (c0 + 1), .inl ctf))] ++ (rwT cA ra gf (t0 + 1)))) := by
  refine Met.ofW (cc := cX7_countBallots) (maxL := 3) (ret := none) (by decide) rfl ?_
  intro p e s m args below meth c s₁ B hml hv
  obtain ⟨rfl, hP, hK, hD0⟩ := hv
  have hx := B.exec
  have hb := B.bytes
  have hr := B.returns
  have hts := atoms_spec (ws := wsX7_countBallots) B.pre
  have hown : s.vm.findClass RX7 = some m.cls := findClass_of_methodNamed B.named
  have hlocks := B.notSynchronized
  have hin_X7 : ∀ w ∈ wsX70, w ∈ wsX7_countBallots := fun w h => List.mem_cons_of_mem _ (List.mem_append_left _ (List.mem_append_left _ (List.mem_append_left _ (List.mem_append_right _ h))))
  have w_RX7_48 := hts (.fieldLink RX7 48 "MixElection" "trustees" "LMixElection$Trustees;") (by decide +kernel)
  have w_RX7_158 := hts (.fieldLink RX7 158 "MixElection" "ballots" "I") (by decide +kernel)
  have w_RX7_25 := hts (.fieldLink RX7 25 "MixElection" "group" "LMixElection$Group;") (by decide +kernel)
  have w_RX7_179 := hts (.fieldLink RX7 179 "MixElection" "mixes" "I") (by decide +kernel)
  have w_RX7_93 := hts (.fieldLink RX7 93 "MixElection" "counts" "[I") (by decide +kernel)
  have hD : va_D (wA ([(h0, .inr (6, [.ref x0, .ref x1, .ref x2, .int x3, .ref x4, .ref x5, .ref x6, .ref x7, .ref x8, .ref x9, .ref x10, .ref x11, .int x12, .int x13, .int x14, .int x15, .int x16, .int x17, .int x18, .int x19])), (x1, .inr (5, [.ref x0, .int ts, .int tk, .ref tco, .ref t4, .ref t5, .ref t6, .int tv])), (x0, .inr (1, [.int gp, .int gq, .int gh])), (t4, .inl (cA 1, (t0 + 1), .inl gvn)), (t5, .inl (cA 4, (t0 + 1), .inr (.inr (.inr (.inr (fun k => some (ra + k))))))), (t6, .inl (cA 0, (t0 + 1), .inl wf)), (x5, .inl (cA 3, 5, .inr (.inr (.inr (.inr (fun k => some (la k))))))), ((la m0), .inr (3, [.ref oa1, .ref ob1])), (oa1, .inl (cA 0, 40, .inl sa)), (ob1, .inl (cA 0, 40, .inl sb)), (x11, .inl (cA 0, (c0 + 1), .inl ctf))] ++ (rwT cA ra gf (t0 + 1)))) ([(h0, .inr (6, [.ref x0, .ref x1, .ref x2, .int x3, .ref x4, .ref x5, .ref x6, .ref x7, .ref x8, .ref x9, .ref x10, .ref x11, .int x12, .int x13, .int x14, .int x15, .int x16, .int x17, .int x18, .int x19])), (x1, .inr (5, [.ref x0, .int ts, .int tk, .ref tco, .ref t4, .ref t5, .ref t6, .int tv])), (x0, .inr (1, [.int gp, .int gq, .int gh])), (t4, .inl (cA 1, (t0 + 1), .inl gvn)), (t5, .inl (cA 4, (t0 + 1), .inr (.inr (.inr (.inr (fun k => some (ra + k))))))), (t6, .inl (cA 0, (t0 + 1), .inl wf)), (x5, .inl (cA 3, 5, .inr (.inr (.inr (.inr (fun k => some (la k))))))), ((la m0), .inr (3, [.ref oa1, .ref ob1])), (oa1, .inl (cA 0, 40, .inl sa)), (ob1, .inl (cA 0, 40, .inl sb)), (x11, .inl (cA 0, (c0 + 1), .inl ctf))] ++ (rwT cA ra gf (t0 + 1))) := ⟨hD0.1, fun k q h => List.mem_map.mpr ⟨q, List.mem_of_getElem? h, rfl⟩⟩
  have hS : va_S (wA ([(h0, .inr (6, [.ref x0, .ref x1, .ref x2, .int x3, .ref x4, .ref x5, .ref x6, .ref x7, .ref x8, .ref x9, .ref x10, .ref x11, .int x12, .int x13, .int x14, .int x15, .int x16, .int x17, .int x18, .int x19])), (x1, .inr (5, [.ref x0, .int ts, .int tk, .ref tco, .ref t4, .ref t5, .ref t6, .int tv])), (x0, .inr (1, [.int gp, .int gq, .int gh])), (t4, .inl (cA 1, (t0 + 1), .inl gvn)), (t5, .inl (cA 4, (t0 + 1), .inr (.inr (.inr (.inr (fun k => some (ra + k))))))), (t6, .inl (cA 0, (t0 + 1), .inl wf)), (x5, .inl (cA 3, 5, .inr (.inr (.inr (.inr (fun k => some (la k))))))), ((la m0), .inr (3, [.ref oa1, .ref ob1])), (oa1, .inl (cA 0, 40, .inl sa)), (ob1, .inl (cA 0, 40, .inl sb)), (x11, .inl (cA 0, (c0 + 1), .inl ctf))] ++ (rwT cA ra gf (t0 + 1)))) s.heap s.heap [] := va_S.rf
  generalize hAe : wA ([(h0, .inr (6, [.ref x0, .ref x1, .ref x2, .int x3, .ref x4, .ref x5, .ref x6, .ref x7, .ref x8, .ref x9, .ref x10, .ref x11, .int x12, .int x13, .int x14, .int x15, .int x16, .int x17, .int x18, .int x19])), (x1, .inr (5, [.ref x0, .int ts, .int tk, .ref tco, .ref t4, .ref t5, .ref t6, .int tv])), (x0, .inr (1, [.int gp, .int gq, .int gh])), (t4, .inl (cA 1, (t0 + 1), .inl gvn)), (t5, .inl (cA 4, (t0 + 1), .inr (.inr (.inr (.inr (fun k => some (ra + k))))))), (t6, .inl (cA 0, (t0 + 1), .inl wf)), (x5, .inl (cA 3, 5, .inr (.inr (.inr (.inr (fun k => some (la k))))))), ((la m0), .inr (3, [.ref oa1, .ref ob1])), (oa1, .inl (cA 0, 40, .inl sa)), (ob1, .inl (cA 0, 40, .inl sb)), (x11, .inl (cA 0, (c0 + 1), .inl ctf))] ++ (rwT cA ra gf (t0 + 1))) = A at hD hS ⊢
  have hP : va_P D vwCl ([(h0, .inr (6, [.ref x0, .ref x1, .ref x2, .int x3, .ref x4, .ref x5, .ref x6, .ref x7, .ref x8, .ref x9, .ref x10, .ref x11, .int x12, .int x13, .int x14, .int x15, .int x16, .int x17, .int x18, .int x19])), (x1, .inr (5, [.ref x0, .int ts, .int tk, .ref tco, .ref t4, .ref t5, .ref t6, .int tv])), (x0, .inr (1, [.int gp, .int gq, .int gh])), (t4, .inl (cA 1, (t0 + 1), .inl gvn)), (t5, .inl (cA 4, (t0 + 1), .inr (.inr (.inr (.inr (fun k => some (ra + k))))))), (t6, .inl (cA 0, (t0 + 1), .inl wf)), (x5, .inl (cA 3, 5, .inr (.inr (.inr (.inr (fun k => some (la k))))))), ((la m0), .inr (3, [.ref oa1, .ref ob1])), (oa1, .inl (cA 0, 40, .inl sa)), (ob1, .inl (cA 0, 40, .inl sb)), (x11, .inl (cA 0, (c0 + 1), .inl ctf))] ++ (rwT cA ra gf (t0 + 1))) s.heap := hP
  have hl := lv_entry ([.ref h0]) (n := 3) (Nat.le_of_ble_eq_true rfl)
  rw [lg_entry_eq]
  generalize (lg_sl ([.ref h0]) ++ List.replicate (3 - (lg_sl ([.ref h0])).length) Slot.unset).toArray = ls at hl ⊢
  have hl : lv_has ls 3 [(0, .ref h0)] := hl
  have hgp : 0 < gp := iv_p hp0 hp2 hp9
  refine lv_aload_n hx hb dX7_countBallots_0 rfl (lv_at hl 0 rfl) ?_
  refine va_get (D := D) (ci := 6) (v := .ref x1) (C := RX7) (T := TX7) (N := 20) hx hb hts hin_X7 hown hK hP 0 rfl rfl 1 (by decide) (w_RX7_48) (fun _ h9 => h9) rfl dX7_countBallots_1 ?_
  refine wt_callL0 (X := [(h0, .inr (6, [.ref x0, .ref x1, .ref x2, .int x3, .ref x4, .ref x5, .ref x6, .ref x7, .ref x8, .ref x9, .ref x10, .ref x11, .int x12, .int x13, .int x14, .int x15, .int x16, .int x17, .int x18, .int x19])), (x1, .inr (5, [.ref x0, .int ts, .int tk, .ref tco, .ref t4, .ref t5, .ref t6, .int tv])), (x0, .inr (1, [.int gp, .int gq, .int gh])), (t4, .inl (cA 1, (t0 + 1), .inl gvn)), (t5, .inl (cA 4, (t0 + 1), .inr (.inr (.inr (.inr (fun k => some (ra + k))))))), (t6, .inl (cA 0, (t0 + 1), .inl wf)), (x5, .inl (cA 3, 5, .inr (.inr (.inr (.inr (fun k => some (la k))))))), ((la m0), .inr (3, [.ref oa1, .ref ob1])), (oa1, .inl (cA 0, 40, .inl sa)), (ob1, .inl (cA 0, 40, .inl sb)), (x11, .inl (cA 0, (c0 + 1), .inl ctf))]) (cx := [(x1, .inr (5, [.ref x0, .int ts, .int tk, .ref tco, .ref t4, .ref t5, .ref t6, .int tv])), (x0, .inr (1, [.int gp, .int gq, .int gh])), (t4, .inl (cA 1, (t0 + 1), .inl gvn)), (t6, .inl (cA 0, (t0 + 1), .inl wf))]) (rx := [(x1, .inr (5, [.ref x0, .int ts, .int tk, .ref tco, .ref t4, .ref t5, .ref t6, .int tv])), (x0, .inr (1, [.int gp, .int gq, .int gh])), (t4, .inl (cA 1, (t0 + 1), .inl gvn)), (t6, .inl (cA 0, (t0 + 1), .inl (wts gq q0 gvn la0 wf t0)))]) (X' := [(h0, .inr (6, [.ref x0, .ref x1, .ref x2, .int x3, .ref x4, .ref x5, .ref x6, .ref x7, .ref x8, .ref x9, .ref x10, .ref x11, .int x12, .int x13, .int x14, .int x15, .int x16, .int x17, .int x18, .int x19])), (x1, .inr (5, [.ref x0, .int ts, .int tk, .ref tco, .ref t4, .ref t5, .ref t6, .int tv])), (x0, .inr (1, [.int gp, .int gq, .int gh])), (t4, .inl (cA 1, (t0 + 1), .inl gvn)), (t5, .inl (cA 4, (t0 + 1), .inr (.inr (.inr (.inr (fun k => some (ra + k))))))), (t6, .inl (cA 0, (t0 + 1), .inl (wts gq q0 gvn la0 wf t0))), (x5, .inl (cA 3, 5, .inr (.inr (.inr (.inr (fun k => some (la k))))))), ((la m0), .inr (3, [.ref oa1, .ref ob1])), (oa1, .inl (cA 0, 40, .inl sa)), (ob1, .inl (cA 0, 40, .inl sb)), (x11, .inl (cA 0, (c0 + 1), .inl ctf))]) (pl := (rwT cA ra gf (t0 + 1))) (wn_V (As := []) (rest := []) (ci := 5) (fs := [.ref x0, .int ts, .int tk, .ref tco, .ref t4, .ref t5, .ref t6, .int tv]) ⟨hx, hb, hml, hown, hts⟩ (c_X6_weighFirstGivers l D cA x1 x0 ts tk tco t4 t5 t6 tv gp gq gh gvn wf t0 k0 la0 q0 hts0 ht5 htk hk5 hk1 hL1 hL2 hL3 hq0 hq2 hq9) rfl (cwV 0 hts gX7_countBallots_X6_weighFirstGivers rfl rfl rfl (by decide +kernel) ⟨Nat.le_of_ble_eq_true rfl, Nat.le_of_ble_eq_true rfl⟩) hK hP hD [1, 2, 3, 5] rfl (by decide) rfl rfl rfl hl.1 rfl (Nat.le_of_ble_eq_true rfl) dX7_countBallots_4 ⟨Nat.le_of_ble_eq_true rfl, Nat.le_of_ble_eq_true rfl⟩) hP hD hS [1, 2, 3, 5] [0, 4, 6, 7, 8, 9, 10] rfl rfl (wr := [(h0, .inr (6, [.ref x0, .ref x1, .ref x2, .int x3, .ref x4, .ref x5, .ref x6, .ref x7, .ref x8, .ref x9, .ref x10, .ref x11, .int x12, .int x13, .int x14, .int x15, .int x16, .int x17, .int x18, .int x19])), (t5, .inl (cA 4, (t0 + 1), .inr (.inr (.inr (.inr (fun k => some (ra + k))))))), (x5, .inl (cA 3, 5, .inr (.inr (.inr (.inr (fun k => some (la k))))))), ((la m0), .inr (3, [.ref oa1, .ref ob1])), (oa1, .inl (cA 0, 40, .inl sa)), (ob1, .inl (cA 0, 40, .inl sb)), (x11, .inl (cA 0, (c0 + 1), .inl ctf))]) rfl rfl (ads := [h0, x1, x0, t4, t5, t6, x5, (la m0), oa1, ob1, x11]) rfl rfl rfl (fun H locs hP hD hS => ?_)
  refine lv_iconst (v := 0) hx hb dX7_countBallots_7 (by decide) ?_
  refine lv_istore_n (lv' := [(1, .int 0), (0, .ref h0)]) hx hb dX7_countBallots_8 rfl hl (by decide) rfl (fun ls hl => ?_)
  have loop9 : ∀ (f_ k : Nat) (z : Int32), z = nI k → b0 + 1 ≤ k + f_ → k ≤ b0 → ∀ (H : Heap) (locs : List Loc), va_P D vwCl ([(h0, .inr (6, [.ref x0, .ref x1, .ref x2, .int x3, .ref x4, .ref x5, .ref x6, .ref x7, .ref x8, .ref x9, .ref x10, .ref x11, .int x12, .int x13, .int x14, .int x15, .int x16, .int x17, .int x18, .int x19])), (x1, .inr (5, [.ref x0, .int ts, .int tk, .ref tco, .ref t4, .ref t5, .ref t6, .int tv])), (x0, .inr (1, [.int gp, .int gq, .int gh])), (t4, .inl (cA 1, (t0 + 1), .inl gvn)), (t5, .inl (cA 4, (t0 + 1), .inr (.inr (.inr (.inr (fun k => some (ra + k))))))), (t6, .inl (cA 0, (t0 + 1), .inl (wts gq q0 gvn la0 wf t0))), (x5, .inl (cA 3, 5, .inr (.inr (.inr (.inr (fun k => some (la k))))))), ((la m0), .inr (3, [.ref oa1, .ref ob1])), (oa1, .inl (cA 0, 40, .inl sa)), (ob1, .inl (cA 0, 40, .inl sb)), (x11, .inl (cA 0, (c0 + 1), .inl (cts (fun i => cfi (fun c => decide (pw gp 32 (c + 1) 1 4 = (fun i => tm gp (sb i) (pw gp 32 (p0 - 2) 1 (jgf gp (wts gq q0 gvn la0 wf t0) (fun j => gft gvn gf ts (nI j) (nI i)) t0))) i)) c0) ctf k)))] ++ (rwT cA ra gf (t0 + 1))) H → va_D A ([(h0, .inr (6, [.ref x0, .ref x1, .ref x2, .int x3, .ref x4, .ref x5, .ref x6, .ref x7, .ref x8, .ref x9, .ref x10, .ref x11, .int x12, .int x13, .int x14, .int x15, .int x16, .int x17, .int x18, .int x19])), (x1, .inr (5, [.ref x0, .int ts, .int tk, .ref tco, .ref t4, .ref t5, .ref t6, .int tv])), (x0, .inr (1, [.int gp, .int gq, .int gh])), (t4, .inl (cA 1, (t0 + 1), .inl gvn)), (t5, .inl (cA 4, (t0 + 1), .inr (.inr (.inr (.inr (fun k => some (ra + k))))))), (t6, .inl (cA 0, (t0 + 1), .inl (wts gq q0 gvn la0 wf t0))), (x5, .inl (cA 3, 5, .inr (.inr (.inr (.inr (fun k => some (la k))))))), ((la m0), .inr (3, [.ref oa1, .ref ob1])), (oa1, .inl (cA 0, 40, .inl sa)), (ob1, .inl (cA 0, 40, .inl sb)), (x11, .inl (cA 0, (c0 + 1), .inl (cts (fun i => cfi (fun c => decide (pw gp 32 (c + 1) 1 4 = (fun i => tm gp (sb i) (pw gp 32 (p0 - 2) 1 (jgf gp (wts gq q0 gvn la0 wf t0) (fun j => gft gvn gf ts (nI j) (nI i)) t0))) i)) c0) ctf k)))] ++ (rwT cA ra gf (t0 + 1))) → va_S A s.heap H locs → ∀ ls : Array Slot, lv_has ls 3 [(0, .ref h0), (1, .int z)] → W p l e (headSpec wsX7_countBallots ({ frames := 5, cells := 0, slots := 0, locals := 116 })).room s m [.ref h0].toArray below meth c H locs 0 0 (MQ below (wq_x vwCl D ([(h0, .inr (6, [.ref x0, .ref x1, .ref x2, .int x3, .ref x4, .ref x5, .ref x6, .ref x7, .ref x8, .ref x9, .ref x10, .ref x11, .int x12, .int x13, .int x14, .int x15, .int x16, .int x17, .int x18, .int x19])), (x1, .inr (5, [.ref x0, .int ts, .int tk, .ref tco, .ref t4, .ref t5, .ref t6, .int tv])), (x0, .inr (1, [.int gp, .int gq, .int gh])), (t4, .inl (cA 1, (t0 + 1), .inl gvn)), (t5, .inl (cA 4, (t0 + 1), .inr (.inr (.inr (.inr (fun k => some (ra + k))))))), (t6, .inl (cA 0, (t0 + 1), .inl (wts gq q0 gvn la0 wf t0))), (x5, .inl (cA 3, 5, .inr (.inr (.inr (.inr (fun k => some (la k))))))), ((la m0), .inr (3, [.ref oa1, .ref ob1])), (oa1, .inl (cA 0, 40, .inl sa)), (ob1, .inl (cA 0, 40, .inl sb)), (x11, .inl (cA 0, (c0 + 1), .inl (cts (fun i => cfi (fun c => decide (pw gp 32 (c + 1) 1 4 = (fun i => tm gp (sb i) (pw gp 32 (p0 - 2) 1 (jgf gp (wts gq q0 gvn la0 wf t0) (fun j => gft gvn gf ts (nI j) (nI i)) t0))) i)) c0) ctf b0)))] ++ (rwT cA ra gf (t0 + 1))) none A) [.ref h0].toArray s 0 0 A) (F0 m 9 ls []) := by
    intro f
    induction f with
    | zero =>
      intro k z hz h1 h2
      omega
    | succ f ih =>
      intro k z hz h1 h2 H locs hP hD hS ls hl
      refine lv_iload_n hx hb dX7_countBallots_9 rfl (lv_at hl 1 rfl) ?_
      refine lv_aload_n hx hb dX7_countBallots_10 rfl (lv_at hl 0 rfl) ?_
      refine va_get (D := D) (ci := 6) (v := .int x14) (C := RX7) (T := TX7) (N := 20) hx hb hts hin_X7 hown hK hP 0 rfl rfl 14 (by decide) (w_RX7_158) (fun _ h9 => h9) rfl dX7_countBallots_11 ?_
      refine lv_icmp_ge (tgt := 78) hx hb dX7_countBallots_14 (by decide) (fun c_14 => ?_) (fun c_14 => ?_)
      · skip
        have hP9 : va_P D vwCl ([(h0, .inr (6, [.ref x0, .ref x1, .ref x2, .int x3, .ref x4, .ref x5, .ref x6, .ref x7, .ref x8, .ref x9, .ref x10, .ref x11, .int x12, .int x13, .int x14, .int x15, .int x16, .int x17, .int x18, .int x19])), (x1, .inr (5, [.ref x0, .int ts, .int tk, .ref tco, .ref t4, .ref t5, .ref t6, .int tv])), (x0, .inr (1, [.int gp, .int gq, .int gh])), (t4, .inl (cA 1, (t0 + 1), .inl gvn)), (t5, .inl (cA 4, (t0 + 1), .inr (.inr (.inr (.inr (fun k => some (ra + k))))))), (t6, .inl (cA 0, (t0 + 1), .inl (wts gq q0 gvn la0 wf t0))), (x5, .inl (cA 3, 5, .inr (.inr (.inr (.inr (fun k => some (la k))))))), ((la m0), .inr (3, [.ref oa1, .ref ob1])), (oa1, .inl (cA 0, 40, .inl sa)), (ob1, .inl (cA 0, 40, .inl sb)), (x11, .inl (cA 0, (c0 + 1), .inl (cts (fun i => cfi (fun c => decide (pw gp 32 (c + 1) 1 4 = (fun i => tm gp (sb i) (pw gp 32 (p0 - 2) 1 (jgf gp (wts gq q0 gvn la0 wf t0) (fun j => gft gvn gf ts (nI j) (nI i)) t0))) i)) c0) ctf b0)))] ++ (rwT cA ra gf (t0 + 1))) H := (by rw [← lp_end hz hnb (by omega) h2 c_14]; exact hP)
        exact W.vret hx hb hr (fun t ht hW => ⟨rfl, by rw [ht]; exact hP9, hS.F ht⟩) hS.2.2 dX7_countBallots_78
      · skip
        refine lv_aload_n hx hb dX7_countBallots_17 rfl (lv_at hl 0 rfl) ?_
        refine lv_aload_n hx hb dX7_countBallots_18 rfl (lv_at hl 0 rfl) ?_
        refine va_get (D := D) (ci := 6) (v := .ref x0) (C := RX7) (T := TX7) (N := 20) hx hb hts hin_X7 hown hK hP 0 rfl rfl 0 (by decide) (w_RX7_25) (fun _ h9 => h9) rfl dX7_countBallots_19 ?_
        refine lv_aload_n hx hb dX7_countBallots_22 rfl (lv_at hl 0 rfl) ?_
        refine lv_aload_n hx hb dX7_countBallots_23 rfl (lv_at hl 0 rfl) ?_
        refine va_get (D := D) (ci := 6) (v := .int x15) (C := RX7) (T := TX7) (N := 20) hx hb hts hin_X7 hown hK hP 0 rfl rfl 15 (by decide) (w_RX7_179) (fun _ h9 => h9) rfl dX7_countBallots_24 ?_
        refine rq_call1 (v := .ref (la m0)) (rn_V (As := [.int x15]) (rest := [.ref x0, .ref h0]) (ci := 6) (fs := [.ref x0, .ref x1, .ref x2, .int x3, .ref x4, .ref x5, .ref x6, .ref x7, .ref x8, .ref x9, .ref x10, .ref x11, .int x12, .int x13, .int x14, .int x15, .int x16, .int x17, .int x18, .int x19]) ⟨hx, hb, hml, hown, hts⟩ (c_X7_listOf l D cA h0 x0 x1 x2 x3 x4 x5 x6 x7 x8 x9 x10 x11 x12 x13 x14 x15 x16 x17 x18 x19 la x15 m0 hm hm4) rfl (cwV 1 hts gX7_countBallots_X7_listOf rfl rfl rfl (by decide +kernel) ⟨Nat.le_of_ble_eq_true rfl, Nat.le_of_ble_eq_true rfl⟩) hK hP [0, 6] rfl rfl rfl hl.1 rfl (Nat.le_of_ble_eq_true rfl) dX7_countBallots_27 ⟨Nat.le_of_ble_eq_true rfl, Nat.le_of_ble_eq_true rfl⟩) ?_
        refine lv_iload_n hx hb dX7_countBallots_30 rfl (lv_at hl 1 rfl) ?_
        refine rq_call1 (v := .int (g40 sb z)) (rn_V (As := [.int z]) (rest := [.ref x0, .ref h0]) (ci := 3) (fs := [.ref oa1, .ref ob1]) ⟨hx, hb, hml, hown, hts⟩ (c_X4_second l D cA (la m0) oa1 ob1 sa sb z) rfl (cwV 1 hts gX7_countBallots_X4_second rfl rfl rfl (by decide +kernel) ⟨Nat.le_of_ble_eq_true rfl, Nat.le_of_ble_eq_true rfl⟩) hK hP [7, 8, 9] rfl rfl rfl hl.1 rfl (Nat.le_of_ble_eq_true rfl) dX7_countBallots_31 ⟨Nat.le_of_ble_eq_true rfl, Nat.le_of_ble_eq_true rfl⟩) ?_
        rw [g40_n hz (show k < 40 from Nat.lt_of_lt_of_le (lp_lt hz hnb (by omega) h2 c_14) hb4)]
        refine lv_aload_n hx hb dX7_countBallots_34 rfl (lv_at hl 0 rfl) ?_
        refine va_get (D := D) (ci := 6) (v := .ref x1) (C := RX7) (T := TX7) (N := 20) hx hb hts hin_X7 hown hK hP 0 rfl rfl 1 (by decide) (w_RX7_48) (fun _ h9 => h9) rfl dX7_countBallots_35 ?_
        refine lv_iload_n hx hb dX7_countBallots_38 rfl (lv_at hl 1 rfl) ?_
        refine rq_call1 (v := .int (jgf gp (wts gq q0 gvn la0 wf t0) (fun j => gft gvn gf ts (nI j) z) t0)) (rn_VT (As := [.int z]) (rest := [.int (sb k), .ref x0, .ref h0]) (ci := 5) (fs := [.ref x0, .int ts, .int tk, .ref tco, .ref t4, .ref t5, .ref t6, .int tv]) (X := [(h0, .inr (6, [.ref x0, .ref x1, .ref x2, .int x3, .ref x4, .ref x5, .ref x6, .ref x7, .ref x8, .ref x9, .ref x10, .ref x11, .int x12, .int x13, .int x14, .int x15, .int x16, .int x17, .int x18, .int x19])), (x1, .inr (5, [.ref x0, .int ts, .int tk, .ref tco, .ref t4, .ref t5, .ref t6, .int tv])), (x0, .inr (1, [.int gp, .int gq, .int gh])), (t4, .inl (cA 1, (t0 + 1), .inl gvn)), (t5, .inl (cA 4, (t0 + 1), .inr (.inr (.inr (.inr (fun k => some (ra + k))))))), (t6, .inl (cA 0, (t0 + 1), .inl (wts gq q0 gvn la0 wf t0))), (x5, .inl (cA 3, 5, .inr (.inr (.inr (.inr (fun k => some (la k))))))), ((la m0), .inr (3, [.ref oa1, .ref ob1])), (oa1, .inl (cA 0, 40, .inl sa)), (ob1, .inl (cA 0, 40, .inl sb)), (x11, .inl (cA 0, (c0 + 1), .inl (cts (fun i => cfi (fun c => decide (pw gp 32 (c + 1) 1 4 = (fun i => tm gp (sb i) (pw gp 32 (p0 - 2) 1 (jgf gp (wts gq q0 gvn la0 wf t0) (fun j => gft gvn gf ts (nI j) (nI i)) t0))) i)) c0) ctf k)))]) (cx := [(x1, .inr (5, [.ref x0, .int ts, .int tk, .ref tco, .ref t4, .ref t5, .ref t6, .int tv])), (x0, .inr (1, [.int gp, .int gq, .int gh])), (t4, .inl (cA 1, (t0 + 1), .inl gvn)), (t5, .inl (cA 4, (t0 + 1), .inr (.inr (.inr (.inr (fun k => some (ra + k))))))), (t6, .inl (cA 0, (t0 + 1), .inl (wts gq q0 gvn la0 wf t0)))]) (pl := (rwT cA ra gf (t0 + 1))) ⟨hx, hb, hml, hown, hts⟩ (c_X6_joinedGift l D cA x1 x0 ts tk tco t4 t5 t6 tv gp gq gh gvn (wts gq q0 gvn la0 wf t0) gf ra t0 z hts0 ht5 hgp hwn) rfl (cwV 1 hts gX7_countBallots_X6_joinedGift rfl rfl rfl (by decide +kernel) ⟨Nat.le_of_ble_eq_true rfl, Nat.le_of_ble_eq_true rfl⟩) hK hP [1, 2, 3, 4, 5] rfl rfl rfl hl.1 rfl (Nat.le_of_ble_eq_true rfl) dX7_countBallots_39 ⟨Nat.le_of_ble_eq_true rfl, Nat.le_of_ble_eq_true rfl⟩) ?_
        rw [show jgf gp (wts gq q0 gvn la0 wf t0) (fun j => gft gvn gf ts (nI j) z) t0 = jgf gp (wts gq q0 gvn la0 wf t0) (fun j => gft gvn gf ts (nI j) (nI k)) t0 from by rw [hz]]
        refine rq_call1 (v := .int (tm gp (sb k) (pw gp 32 (p0 - 2) 1 (jgf gp (wts gq q0 gvn la0 wf t0) (fun j => gft gvn gf ts (nI j) (nI k)) t0)))) (rn_V (As := [.int (sb k), .int (jgf gp (wts gq q0 gvn la0 wf t0) (fun j => gft gvn gf ts (nI j) (nI k)) t0)]) (rest := [.ref h0]) (ci := 1) (fs := [.int gp, .int gq, .int gh]) ⟨hx, hb, hml, hown, hts⟩ (c_X1_divided l D cA x0 gp gq gh (sb k) (jgf gp (wts gq q0 gvn la0 wf t0) (fun j => gft gvn gf ts (nI j) (nI k)) t0) p0 hp0 hp2 hp9) rfl (cwV 2 hts gX7_countBallots_X1_divided rfl rfl rfl (by decide +kernel) ⟨Nat.le_of_ble_eq_true rfl, Nat.le_of_ble_eq_true rfl⟩) hK hP [2] rfl rfl rfl hl.1 rfl (Nat.le_of_ble_eq_true rfl) dX7_countBallots_42 ⟨Nat.le_of_ble_eq_true rfl, Nat.le_of_ble_eq_true rfl⟩) ?_
        refine rq_call1 (v := .int (nI (cfi (fun c => decide (pw gp 32 (c + 1) 1 4 = (tm gp (sb k) (pw gp 32 (p0 - 2) 1 (jgf gp (wts gq q0 gvn la0 wf t0) (fun j => gft gvn gf ts (nI j) (nI k)) t0))))) c0))) (rn_V (As := [.int (tm gp (sb k) (pw gp 32 (p0 - 2) 1 (jgf gp (wts gq q0 gvn la0 wf t0) (fun j => gft gvn gf ts (nI j) (nI k)) t0)))]) (rest := []) (ci := 6) (fs := [.ref x0, .ref x1, .ref x2, .int x3, .ref x4, .ref x5, .ref x6, .ref x7, .ref x8, .ref x9, .ref x10, .ref x11, .int x12, .int x13, .int x14, .int x15, .int x16, .int x17, .int x18, .int x19]) ⟨hx, hb, hml, hown, hts⟩ (c_X7_candidateOf l D cA h0 x0 x1 x2 x3 x4 x5 x6 x7 x8 x9 x10 x11 x12 x13 x14 x15 x16 x17 x18 x19 gp gq gh (tm gp (sb k) (pw gp 32 (p0 - 2) 1 (jgf gp (wts gq q0 gvn la0 wf t0) (fun j => gft gvn gf ts (nI j) (nI k)) t0))) c0 hc0 hc1 hgp) rfl (cwV 1 hts gX7_countBallots_X7_candidateOf rfl rfl rfl (by decide +kernel) ⟨Nat.le_of_ble_eq_true rfl, Nat.le_of_ble_eq_true rfl⟩) hK hP [0, 2] rfl rfl rfl hl.1 rfl (Nat.le_of_ble_eq_true rfl) dX7_countBallots_45 ⟨Nat.le_of_ble_eq_true rfl, Nat.le_of_ble_eq_true rfl⟩) ?_
        refine lv_istore_n (lv' := [(2, .int (nI (cfi (fun c => decide (pw gp 32 (c + 1) 1 4 = (tm gp (sb k) (pw gp 32 (p0 - 2) 1 (jgf gp (wts gq q0 gvn la0 wf t0) (fun j => gft gvn gf ts (nI j) (nI k)) t0))))) c0))), (0, .ref h0), (1, .int z)]) hx hb dX7_countBallots_48 rfl hl (by decide) rfl (fun ls hl => ?_)
        refine lv_iload_n hx hb dX7_countBallots_49 rfl (lv_at hl 0 rfl) ?_
        refine lv_if_lt (tgt := 72) hx hb dX7_countBallots_50 (by decide) (fun c_50 => ?_) (fun c_50 => ?_)
        · exact absurd c_50 (nI_pos (by have := cfi_le (fun c => decide (pw gp 32 (c + 1) 1 4 = (tm gp (sb k) (pw gp 32 (p0 - 2) 1 (jgf gp (wts gq q0 gvn la0 wf t0) (fun j => gft gvn gf ts (nI j) (nI k)) t0))))) c0; omega))
        · skip
          refine lv_iload_n hx hb dX7_countBallots_53 rfl (lv_at hl 0 rfl) ?_
          refine lv_aload_n hx hb dX7_countBallots_54 rfl (lv_at hl 1 rfl) ?_
          refine va_get (D := D) (ci := 6) (v := .ref x11) (C := RX7) (T := TX7) (N := 20) hx hb hts hin_X7 hown hK hP 0 rfl rfl 11 (by decide) (w_RX7_93) (fun _ h9 => h9) rfl dX7_countBallots_55 ?_
          refine va_alen (v := (Int32.ofNat (c0 + 1))) hx hb hK hP 10 0 rfl rfl rfl dX7_countBallots_58 ?_
          refine lv_icmp_ge (tgt := 72) hx hb dX7_countBallots_59 (by decide) (fun c_59 => ?_) (fun c_59 => ?_)
          · exact absurd c_59 (nI_ge (b := c0 + 1) (by have := cfi_le (fun c => decide (pw gp 32 (c + 1) 1 4 = (tm gp (sb k) (pw gp 32 (p0 - 2) 1 (jgf gp (wts gq q0 gvn la0 wf t0) (fun j => gft gvn gf ts (nI j) (nI k)) t0))))) c0; omega) (by omega))
          · skip
            refine lv_aload_n hx hb dX7_countBallots_62 rfl (lv_at hl 1 rfl) ?_
            refine va_get (D := D) (ci := 6) (v := .ref x11) (C := RX7) (T := TX7) (N := 20) hx hb hts hin_X7 hown hK hP 0 rfl rfl 11 (by decide) (w_RX7_93) (fun _ h9 => h9) rfl dX7_countBallots_63 ?_
            refine lv_iload_n hx hb dX7_countBallots_66 rfl (lv_at hl 0 rfl) ?_
            refine lv_dup2_11 hx hb dX7_countBallots_67 rfl rfl ?_
            refine va_iald hx hb hK hP 10 0 rfl rfl (vp_in_nI (by have := cfi_le (fun c => decide (pw gp 32 (c + 1) 1 4 = (tm gp (sb k) (pw gp 32 (p0 - 2) 1 (jgf gp (wts gq q0 gvn la0 wf t0) (fun j => gft gvn gf ts (nI j) (nI k)) t0))))) c0; omega) (by omega)) dX7_countBallots_68 ?_
            refine lv_iconst (v := 1) hx hb dX7_countBallots_69 (by decide) ?_
            refine lv_iadd hx hb dX7_countBallots_70 ?_
            refine va_iast hx hb hK hP hD hS 10 0 rfl rfl (vp_in_nI (by have := cfi_le (fun c => decide (pw gp 32 (c + 1) 1 4 = (tm gp (sb k) (pw gp 32 (p0 - 2) 1 (jgf gp (wts gq q0 gvn la0 wf t0) (fun j => gft gvn gf ts (nI j) (nI k)) t0))))) c0; omega) (by omega)) dX7_countBallots_71 (fun H locs hP hD hS => ?_)
            have hP : va_P D vwCl ([(h0, .inr (6, [.ref x0, .ref x1, .ref x2, .int x3, .ref x4, .ref x5, .ref x6, .ref x7, .ref x8, .ref x9, .ref x10, .ref x11, .int x12, .int x13, .int x14, .int x15, .int x16, .int x17, .int x18, .int x19])), (x1, .inr (5, [.ref x0, .int ts, .int tk, .ref tco, .ref t4, .ref t5, .ref t6, .int tv])), (x0, .inr (1, [.int gp, .int gq, .int gh])), (t4, .inl (cA 1, (t0 + 1), .inl gvn)), (t5, .inl (cA 4, (t0 + 1), .inr (.inr (.inr (.inr (fun k => some (ra + k))))))), (t6, .inl (cA 0, (t0 + 1), .inl (wts gq q0 gvn la0 wf t0))), (x5, .inl (cA 3, 5, .inr (.inr (.inr (.inr (fun k => some (la k))))))), ((la m0), .inr (3, [.ref oa1, .ref ob1])), (oa1, .inl (cA 0, 40, .inl sa)), (ob1, .inl (cA 0, 40, .inl sb)), (x11, .inl (cA 0, (c0 + 1), .inl (upd (cts (fun i => cfi (fun c => decide (pw gp 32 (c + 1) 1 4 = (fun i => tm gp (sb i) (pw gp 32 (p0 - 2) 1 (jgf gp (wts gq q0 gvn la0 wf t0) (fun j => gft gvn gf ts (nI j) (nI i)) t0))) i)) c0) ctf k) (nI (cfi (fun c => decide (pw gp 32 (c + 1) 1 4 = (tm gp (sb k) (pw gp 32 (p0 - 2) 1 (jgf gp (wts gq q0 gvn la0 wf t0) (fun j => gft gvn gf ts (nI j) (nI k)) t0))))) c0)).toNatClampNeg (((cts (fun i => cfi (fun c => decide (pw gp 32 (c + 1) 1 4 = (fun i => tm gp (sb i) (pw gp 32 (p0 - 2) 1 (jgf gp (wts gq q0 gvn la0 wf t0) (fun j => gft gvn gf ts (nI j) (nI i)) t0))) i)) c0) ctf k) (nI (cfi (fun c => decide (pw gp 32 (c + 1) 1 4 = (tm gp (sb k) (pw gp 32 (p0 - 2) 1 (jgf gp (wts gq q0 gvn la0 wf t0) (fun j => gft gvn gf ts (nI j) (nI k)) t0))))) c0)).toNatClampNeg) + 1))))] ++ (rwT cA ra gf (t0 + 1))) H := hP
            have hD : va_D A ([(h0, .inr (6, [.ref x0, .ref x1, .ref x2, .int x3, .ref x4, .ref x5, .ref x6, .ref x7, .ref x8, .ref x9, .ref x10, .ref x11, .int x12, .int x13, .int x14, .int x15, .int x16, .int x17, .int x18, .int x19])), (x1, .inr (5, [.ref x0, .int ts, .int tk, .ref tco, .ref t4, .ref t5, .ref t6, .int tv])), (x0, .inr (1, [.int gp, .int gq, .int gh])), (t4, .inl (cA 1, (t0 + 1), .inl gvn)), (t5, .inl (cA 4, (t0 + 1), .inr (.inr (.inr (.inr (fun k => some (ra + k))))))), (t6, .inl (cA 0, (t0 + 1), .inl (wts gq q0 gvn la0 wf t0))), (x5, .inl (cA 3, 5, .inr (.inr (.inr (.inr (fun k => some (la k))))))), ((la m0), .inr (3, [.ref oa1, .ref ob1])), (oa1, .inl (cA 0, 40, .inl sa)), (ob1, .inl (cA 0, 40, .inl sb)), (x11, .inl (cA 0, (c0 + 1), .inl (upd (cts (fun i => cfi (fun c => decide (pw gp 32 (c + 1) 1 4 = (fun i => tm gp (sb i) (pw gp 32 (p0 - 2) 1 (jgf gp (wts gq q0 gvn la0 wf t0) (fun j => gft gvn gf ts (nI j) (nI i)) t0))) i)) c0) ctf k) (nI (cfi (fun c => decide (pw gp 32 (c + 1) 1 4 = (tm gp (sb k) (pw gp 32 (p0 - 2) 1 (jgf gp (wts gq q0 gvn la0 wf t0) (fun j => gft gvn gf ts (nI j) (nI k)) t0))))) c0)).toNatClampNeg (((cts (fun i => cfi (fun c => decide (pw gp 32 (c + 1) 1 4 = (fun i => tm gp (sb i) (pw gp 32 (p0 - 2) 1 (jgf gp (wts gq q0 gvn la0 wf t0) (fun j => gft gvn gf ts (nI j) (nI i)) t0))) i)) c0) ctf k) (nI (cfi (fun c => decide (pw gp 32 (c + 1) 1 4 = (tm gp (sb k) (pw gp 32 (p0 - 2) 1 (jgf gp (wts gq q0 gvn la0 wf t0) (fun j => gft gvn gf ts (nI j) (nI k)) t0))))) c0)).toNatClampNeg) + 1))))] ++ (rwT cA ra gf (t0 + 1))) := hD
            refine lv_iinc (v := (z + 1)) (lv' := [(1, .int (z + 1)), (2, .int (nI (cfi (fun c => decide (pw gp 32 (c + 1) 1 4 = (tm gp (sb k) (pw gp 32 (p0 - 2) 1 (jgf gp (wts gq q0 gvn la0 wf t0) (fun j => gft gvn gf ts (nI j) (nI k)) t0))))) c0))), (0, .ref h0)]) hx hb dX7_countBallots_72 hl (k := 2) rfl rfl (by decide) rfl (fun ls hl => ?_)
            refine lv_goto (tgt := 9) hx hb dX7_countBallots_75 (by decide) ?_
            have e9 : (upd (cts (fun i => cfi (fun c => decide (pw gp 32 (c + 1) 1 4 = (fun i => tm gp (sb i) (pw gp 32 (p0 - 2) 1 (jgf gp (wts gq q0 gvn la0 wf t0) (fun j => gft gvn gf ts (nI j) (nI i)) t0))) i)) c0) ctf k) (nI (cfi (fun c => decide (pw gp 32 (c + 1) 1 4 = (tm gp (sb k) (pw gp 32 (p0 - 2) 1 (jgf gp (wts gq q0 gvn la0 wf t0) (fun j => gft gvn gf ts (nI j) (nI k)) t0))))) c0)).toNatClampNeg (((cts (fun i => cfi (fun c => decide (pw gp 32 (c + 1) 1 4 = (fun i => tm gp (sb i) (pw gp 32 (p0 - 2) 1 (jgf gp (wts gq q0 gvn la0 wf t0) (fun j => gft gvn gf ts (nI j) (nI i)) t0))) i)) c0) ctf k) (nI (cfi (fun c => decide (pw gp 32 (c + 1) 1 4 = (tm gp (sb k) (pw gp 32 (p0 - 2) 1 (jgf gp (wts gq q0 gvn la0 wf t0) (fun j => gft gvn gf ts (nI j) (nI k)) t0))))) c0)).toNatClampNeg) + 1)) = (cts (fun i => cfi (fun c => decide (pw gp 32 (c + 1) 1 4 = (fun i => tm gp (sb i) (pw gp 32 (p0 - 2) 1 (jgf gp (wts gq q0 gvn la0 wf t0) (fun j => gft gvn gf ts (nI j) (nI i)) t0))) i)) c0) ctf (k + 1)) := cb_step (cfi_le _ c0) hc1
            have hP := va_P.arr (g' := (cts (fun i => cfi (fun c => decide (pw gp 32 (c + 1) 1 4 = (fun i => tm gp (sb i) (pw gp 32 (p0 - 2) 1 (jgf gp (wts gq q0 gvn la0 wf t0) (fun j => gft gvn gf ts (nI j) (nI i)) t0))) i)) c0) ctf (k + 1))) hP 10 rfl (fun j _ => congrFun e9 j)
            have hD := va_D.arr (g' := (cts (fun i => cfi (fun c => decide (pw gp 32 (c + 1) 1 4 = (fun i => tm gp (sb i) (pw gp 32 (p0 - 2) 1 (jgf gp (wts gq q0 gvn la0 wf t0) (fun j => gft gvn gf ts (nI j) (nI i)) t0))) i)) c0) ctf (k + 1))) hD 10 rfl
            clear e9
            have hP : va_P D vwCl ([(h0, .inr (6, [.ref x0, .ref x1, .ref x2, .int x3, .ref x4, .ref x5, .ref x6, .ref x7, .ref x8, .ref x9, .ref x10, .ref x11, .int x12, .int x13, .int x14, .int x15, .int x16, .int x17, .int x18, .int x19])), (x1, .inr (5, [.ref x0, .int ts, .int tk, .ref tco, .ref t4, .ref t5, .ref t6, .int tv])), (x0, .inr (1, [.int gp, .int gq, .int gh])), (t4, .inl (cA 1, (t0 + 1), .inl gvn)), (t5, .inl (cA 4, (t0 + 1), .inr (.inr (.inr (.inr (fun k => some (ra + k))))))), (t6, .inl (cA 0, (t0 + 1), .inl (wts gq q0 gvn la0 wf t0))), (x5, .inl (cA 3, 5, .inr (.inr (.inr (.inr (fun k => some (la k))))))), ((la m0), .inr (3, [.ref oa1, .ref ob1])), (oa1, .inl (cA 0, 40, .inl sa)), (ob1, .inl (cA 0, 40, .inl sb)), (x11, .inl (cA 0, (c0 + 1), .inl (cts (fun i => cfi (fun c => decide (pw gp 32 (c + 1) 1 4 = (fun i => tm gp (sb i) (pw gp 32 (p0 - 2) 1 (jgf gp (wts gq q0 gvn la0 wf t0) (fun j => gft gvn gf ts (nI j) (nI i)) t0))) i)) c0) ctf (k + 1))))] ++ (rwT cA ra gf (t0 + 1))) H := hP
            have hD : va_D A ([(h0, .inr (6, [.ref x0, .ref x1, .ref x2, .int x3, .ref x4, .ref x5, .ref x6, .ref x7, .ref x8, .ref x9, .ref x10, .ref x11, .int x12, .int x13, .int x14, .int x15, .int x16, .int x17, .int x18, .int x19])), (x1, .inr (5, [.ref x0, .int ts, .int tk, .ref tco, .ref t4, .ref t5, .ref t6, .int tv])), (x0, .inr (1, [.int gp, .int gq, .int gh])), (t4, .inl (cA 1, (t0 + 1), .inl gvn)), (t5, .inl (cA 4, (t0 + 1), .inr (.inr (.inr (.inr (fun k => some (ra + k))))))), (t6, .inl (cA 0, (t0 + 1), .inl (wts gq q0 gvn la0 wf t0))), (x5, .inl (cA 3, 5, .inr (.inr (.inr (.inr (fun k => some (la k))))))), ((la m0), .inr (3, [.ref oa1, .ref ob1])), (oa1, .inl (cA 0, 40, .inl sa)), (ob1, .inl (cA 0, 40, .inl sb)), (x11, .inl (cA 0, (c0 + 1), .inl (cts (fun i => cfi (fun c => decide (pw gp 32 (c + 1) 1 4 = (fun i => tm gp (sb i) (pw gp 32 (p0 - 2) 1 (jgf gp (wts gq q0 gvn la0 wf t0) (fun j => gft gvn gf ts (nI j) (nI i)) t0))) i)) c0) ctf (k + 1))))] ++ (rwT cA ra gf (t0 + 1))) := hD
            have hk := lp_lt hz hnb (by omega) h2 c_14
            exact ih (k + 1) (z + 1) (st_1 hz) (by omega) (by omega) _ _ hP hD hS ls (lv_sub hl [2, 0] rfl)
  exact loop9 (b0 + 1) 0 0 rfl (by omega) (by omega) _ _ hP hD hS ls (lv_sub hl [1, 0] rfl)

set_option maxHeartbeats 4000000 in
set_option maxRecDepth 100000 in
theorem c_X7_tally_no (l : Launch) (D : va_G) (cA : Nat → ClassId) (h0 : Nat) (x0 : Nat) (x1 : Nat) (x2 : Nat) (x3 : Int32) (x4 : Nat) (x5 : Nat) (x6 : Nat) (x7 : Nat) (x8 : Nat) (x9 : Nat) (x10 : Nat) (x11 : Nat) (x12 : Int32) (x13 : Int32) (x14 : Int32) (x15 : Int32) (x16 : Int32) (x17 : Int32) (x18 : Int32) (x19 : Int32) (ts : Int32) (tk : Int32) (tco : Nat) (t4 : Nat) (t5 : Nat) (t6 : Nat) (tv : Int32) (hno : ¬ (x12 = 2 ∧ ¬ 0 < x18 ∧ ¬ x16 < x15 ∧ tk ≤ tv)) : Met l yX7_tally wsX7_tally ({ frames := 1, cells := 0, slots := 0, locals := 20 }) (rPc vwCl D cA [(h0, .inr (6, [.ref x0, .ref x1, .ref x2, .int x3, .ref x4, .ref x5, .ref x6, .ref x7, .ref x8, .ref x9, .ref x10, .ref x11, .int x12, .int x13, .int x14, .int x15, .int x16, .int x17, .int x18, .int x19])), (x1, .inr (5, [.ref x0, .int ts, .int tk, .ref tco, .ref t4, .ref t5, .ref t6, .int tv]))] [.ref h0]) (rq_x (some (.int (-1)))) 0 0 (fun _ => False) := by
  refine Met.ofW (cc := cX7_tally) (maxL := 2) (ret := (some .int)) (by decide) rfl ?_
  intro p e s m args below meth c s₁ B hml hv
  obtain ⟨rfl, hP, hK⟩ := hv
  have hx := B.exec
  have hb := B.bytes
  have hr := B.returns
  have hts := atoms_spec (ws := wsX7_tally) B.pre
  have hown : s.vm.findClass RX7 = some m.cls := findClass_of_methodNamed B.named
  have hlocks := B.notSynchronized
  have hin_X7 : ∀ w ∈ wsX70, w ∈ wsX7_tally := fun w h => List.mem_cons_of_mem _ (List.mem_append_left _ (List.mem_append_left _ (List.mem_append_left _ (List.mem_append_left _ (List.mem_append_right _ h)))))
  have w_RX7_97 := hts (.fieldLink RX7 97 "MixElection" "stage" "I") (by decide +kernel)
  have w_RX7_206 := hts (.fieldLink RX7 206 "MixElection" "rejectedRounds" "I") (by decide +kernel)
  have w_RX7_193 := hts (.fieldLink RX7 193 "MixElection" "mixesWithRounds" "I") (by decide +kernel)
  have w_RX7_179 := hts (.fieldLink RX7 179 "MixElection" "mixes" "I") (by decide +kernel)
  have w_RX7_48 := hts (.fieldLink RX7 48 "MixElection" "trustees" "LMixElection$Trustees;") (by decide +kernel)
  have hl := lv_entry ([.ref h0]) (n := 2) (Nat.le_of_ble_eq_true rfl)
  rw [lg_entry_eq]
  generalize (lg_sl ([.ref h0]) ++ List.replicate (2 - (lg_sl ([.ref h0])).length) Slot.unset).toArray = ls at hl ⊢
  have hl : lv_has ls 2 [(0, .ref h0)] := hl
  refine lv_aload_n hx hb dX7_tally_0 rfl (lv_at hl 0 rfl) ?_
  refine va_get (D := D) (ci := 6) (v := .int x12) (C := RX7) (T := TX7) (N := 20) hx hb hts hin_X7 hown hK hP 0 rfl rfl 12 (by decide) (w_RX7_97) (fun _ h9 => h9) rfl dX7_tally_1 ?_
  refine lv_iconst (v := 2) hx hb dX7_tally_4 (by decide) ?_
  refine lv_icmp_ne (tgt := 36) hx hb dX7_tally_5 (by decide) (fun c_5 => ?_) (fun c_5 => ?_)
  · skip
    refine lv_iconst (v := (-1)) hx hb dX7_tally_36 (by decide) ?_
    exact W.iret (v := (-1)) hx hb hr (fun t ht hW => ⟨congrArg (fun z => Outcome.returned (some (Value.int z))) (rfl), ht⟩) (fun _ h => by cases h) dX7_tally_37
  · skip
    refine lv_aload_n hx hb dX7_tally_8 rfl (lv_at hl 0 rfl) ?_
    refine va_get (D := D) (ci := 6) (v := .int x18) (C := RX7) (T := TX7) (N := 20) hx hb hts hin_X7 hown hK hP 0 rfl rfl 18 (by decide) (w_RX7_206) (fun _ h9 => h9) rfl dX7_tally_9 ?_
    refine lv_if_gt (tgt := 36) hx hb dX7_tally_12 (by decide) (fun c_12 => ?_) (fun c_12 => ?_)
    · skip
      refine lv_iconst (v := (-1)) hx hb dX7_tally_36 (by decide) ?_
      exact W.iret (v := (-1)) hx hb hr (fun t ht hW => ⟨congrArg (fun z => Outcome.returned (some (Value.int z))) (rfl), ht⟩) (fun _ h => by cases h) dX7_tally_37
    · skip
      refine lv_aload_n hx hb dX7_tally_15 rfl (lv_at hl 0 rfl) ?_
      refine va_get (D := D) (ci := 6) (v := .int x16) (C := RX7) (T := TX7) (N := 20) hx hb hts hin_X7 hown hK hP 0 rfl rfl 16 (by decide) (w_RX7_193) (fun _ h9 => h9) rfl dX7_tally_16 ?_
      refine lv_aload_n hx hb dX7_tally_19 rfl (lv_at hl 0 rfl) ?_
      refine va_get (D := D) (ci := 6) (v := .int x15) (C := RX7) (T := TX7) (N := 20) hx hb hts hin_X7 hown hK hP 0 rfl rfl 15 (by decide) (w_RX7_179) (fun _ h9 => h9) rfl dX7_tally_20 ?_
      refine lv_icmp_lt (tgt := 36) hx hb dX7_tally_23 (by decide) (fun c_23 => ?_) (fun c_23 => ?_)
      · skip
        refine lv_iconst (v := (-1)) hx hb dX7_tally_36 (by decide) ?_
        exact W.iret (v := (-1)) hx hb hr (fun t ht hW => ⟨congrArg (fun z => Outcome.returned (some (Value.int z))) (rfl), ht⟩) (fun _ h => by cases h) dX7_tally_37
      · skip
        refine lv_aload_n hx hb dX7_tally_26 rfl (lv_at hl 0 rfl) ?_
        refine va_get (D := D) (ci := 6) (v := .ref x1) (C := RX7) (T := TX7) (N := 20) hx hb hts hin_X7 hown hK hP 0 rfl rfl 1 (by decide) (w_RX7_48) (fun _ h9 => h9) rfl dX7_tally_27 ?_
        refine rq_call1 (v := .int (bI (tk ≤ tv))) (rn_V (As := []) (rest := []) (ci := 5) (fs := [.ref x0, .int ts, .int tk, .ref tco, .ref t4, .ref t5, .ref t6, .int tv]) ⟨hx, hb, hml, hown, hts⟩ (c_X6_areEnough l D cA x1 x0 ts tk tco t4 t5 t6 tv) rfl (cwV 0 hts gX7_tally_X6_areEnough rfl rfl rfl (by decide +kernel) ⟨Nat.le_of_ble_eq_true rfl, Nat.le_of_ble_eq_true rfl⟩) hK hP [1] rfl rfl rfl hl.1 rfl (Nat.le_of_ble_eq_true rfl) dX7_tally_30 ⟨Nat.le_of_ble_eq_true rfl, Nat.le_of_ble_eq_true rfl⟩) ?_
        refine lv_if_ne (tgt := 38) hx hb dX7_tally_33 (by decide) (fun c_33 => ?_) (fun c_33 => ?_)
        · skip
          exact absurd ⟨c_5, c_12, c_23, bI_1 c_33⟩ hno
        · skip
          refine lv_iconst (v := (-1)) hx hb dX7_tally_36 (by decide) ?_
          exact W.iret (v := (-1)) hx hb hr (fun t ht hW => ⟨congrArg (fun z => Outcome.returned (some (Value.int z))) (rfl), ht⟩) (fun _ h => by cases h) dX7_tally_37

set_option maxHeartbeats 4000000 in
set_option maxRecDepth 100000 in
theorem c_X7_tally_ok (l : Launch) (D : va_G) (cA : Nat → ClassId) (h0 : Nat) (x0 : Nat) (x1 : Nat) (x2 : Nat) (x3 : Int32) (x4 : Nat) (x5 : Nat) (x6 : Nat) (x7 : Nat) (x8 : Nat) (x9 : Nat) (x10 : Nat) (x11 : Nat) (x12 : Int32) (x13 : Int32) (x14 : Int32) (x15 : Int32) (x16 : Int32) (x17 : Int32) (x18 : Int32) (x19 : Int32) (ts : Int32) (tk : Int32) (tco : Nat) (t4 : Nat) (t5 : Nat) (t6 : Nat) (tv : Int32) (gp : Int32) (gq : Int32) (gh : Int32) (t0 : Nat) (k0 : Nat) (la0 : Nat) (q0 : Nat) (p0 : Nat) (ra : Nat) (oa1 : Nat) (ob1 : Nat) (b0 : Nat) (m0 : Nat) (c0 : Nat) (gvn : Nat → Int32) (wf : Nat → Int32) (sa : Nat → Int32) (sb : Nat → Int32) (ctf : Nat → Int32) (gf : Nat → Nat → Int32) (la : Nat → Nat) (ka : Nat) (xa : Nat) (ya : Nat) (za : Nat) (ca : Nat) (n : Int32) (kf : Nat → Int32) (xf : Nat → Int32) (yf : Nat → Int32) (zf : Nat → Int64) (cf : Nat → Int64) (n0 : Nat) (hok : x12 = 2 ∧ ¬ 0 < x18 ∧ ¬ x16 < x15 ∧ tk ≤ tv) (hc0 : x3 = nI c0) (hc1 : c0 ≤ 10) (hm : x15 = nI m0) (hm4 : m0 < 5) (hts0 : ts = nI t0) (ht5 : t0 ≤ 5) (htk : tk = nI k0) (hk5 : k0 ≤ 5) (hk1 : 1 ≤ k0) (hL1 : gvc gvn la0 = k0) (hL2 : ∀ j : Nat, j < la0 → gvc gvn j < k0) (hL3 : la0 ≤ t0) (hq0 : gq = nI q0) (hq2 : 2 ≤ q0) (hq9 : q0 < 1000000) (hp0 : gp = nI p0) (hp2 : 2 ≤ p0) (hp9 : p0 < 1000000) (hnb : x14 = nI b0) (hb4 : b0 ≤ 40) (hwn : ∀ j : Nat, 1 ≤ j → j ≤ t0 → nn ((wts gq q0 gvn la0 wf t0) j)) (hbn : n = nI n0) (h6 : n0 < 600) : Met l yX7_tally wsX7_tally ({ frames := 6, cells := 0, slots := 0, locals := 138 }) (wPc vwCl D cA ([(h0, .inr (6, [.ref x0, .ref x1, .ref x2, .int x3, .ref x4, .ref x5, .ref x6, .ref x7, .ref x8, .ref x9, .ref x10, .ref x11, .int x12, .int x13, .int x14, .int x15, .int x16, .int x17, .int x18, .int x19])), (x1, .inr (5, [.ref x0, .int ts, .int tk, .ref tco, .ref t4, .ref t5, .ref t6, .int tv])), (x0, .inr (1, [.int gp, .int gq, .int gh])), (t4, .inl (cA 1, (t0 + 1), .inl gvn)), (t5, .inl (cA 4, (t0 + 1), .inr (.inr (.inr (.inr (fun k => some (ra + k))))))), (t6, .inl (cA 0, (t0 + 1), .inl wf)), (x5, .inl (cA 3, 5, .inr (.inr (.inr (.inr (fun k => some (la k))))))), ((la m0), .inr (3, [.ref oa1, .ref ob1])), (oa1, .inl (cA 0, 40, .inl sa)), (ob1, .inl (cA 0, 40, .inl sb)), (x11, .inl (cA 0, (c0 + 1), .inl ctf)), (x2, .inr (0, [.ref ka, .ref xa, .ref ya, .ref za, .ref ca, .int n])), (ka, .inl (cA 0, 600, .inl kf)), (xa, .inl (cA 0, 600, .inl xf)), (ya, .inl (cA 0, 600, .inl yf)), (za, .inl (cA 2, 600, .inr (.inl zf))), (ca, .inl (cA 2, 600, .inr (.inl cf)))] ++ (rwT cA ra gf (t0 + 1))) [.ref h0]) (wq_x vwCl D ([(h0, .inr (6, [.ref x0, .ref x1, .ref x2, .int x3, .ref x4, .ref x5, .ref x6, .ref x7, .ref x8, .ref x9, .ref x10, .ref x11, .int 3, .int x13, .int x14, .int x15, .int x16, .int x17, .int x18, .int x19])), (x1, .inr (5, [.ref x0, .int ts, .int tk, .ref tco, .ref t4, .ref t5, .ref t6, .int tv])), (x0, .inr (1, [.int gp, .int gq, .int gh])), (t4, .inl (cA 1, (t0 + 1), .inl gvn)), (t5, .inl (cA 4, (t0 + 1), .inr (.inr (.inr (.inr (fun k => some (ra + k))))))), (t6, .inl (cA 0, (t0 + 1), .inl (wts gq q0 gvn la0 wf t0))), (x5, .inl (cA 3, 5, .inr (.inr (.inr (.inr (fun k => some (la k))))))), ((la m0), .inr (3, [.ref oa1, .ref ob1])), (oa1, .inl (cA 0, 40, .inl sa)), (ob1, .inl (cA 0, 40, .inl sb)), (x11, .inl (cA 0, (c0 + 1), .inl (cts (fun i => cfi (fun c => decide (pw gp 32 (c + 1) 1 4 = (fun i => tm gp (sb i) (pw gp 32 (p0 - 2) 1 (jgf gp (wts gq q0 gvn la0 wf t0) (fun j => gft gvn gf ts (nI j) (nI i)) t0))) i)) c0) ctf b0))), (x2, .inr (0, [.ref ka, .ref xa, .ref ya, .ref za, .ref ca, .int (n + 1)])), (ka, .inl (cA 0, 600, .inl (upd kf n.toNatClampNeg 8))), (xa, .inl (cA 0, 600, .inl (upd xf n.toNatClampNeg (x14 - ((cts (fun i => cfi (fun c => decide (pw gp 32 (c + 1) 1 4 = (fun i => tm gp (sb i) (pw gp 32 (p0 - 2) 1 (jgf gp (wts gq q0 gvn la0 wf t0) (fun j => gft gvn gf ts (nI j) (nI i)) t0))) i)) c0) ctf b0) c0))))), (ya, .inl (cA 0, 600, .inl (upd yf n.toNatClampNeg ((cts (fun i => cfi (fun c => decide (pw gp 32 (c + 1) 1 4 = (fun i => tm gp (sb i) (pw gp 32 (p0 - 2) 1 (jgf gp (wts gq q0 gvn la0 wf t0) (fun j => gft gvn gf ts (nI j) (nI i)) t0))) i)) c0) ctf b0) c0)))), (za, .inl (cA 2, 600, .inr (.inl (vp_updL zf n.toNatClampNeg (dg1 (cts (fun i => cfi (fun c => decide (pw gp 32 (c + 1) 1 4 = (fun i => tm gp (sb i) (pw gp 32 (p0 - 2) 1 (jgf gp (wts gq q0 gvn la0 wf t0) (fun j => gft gvn gf ts (nI j) (nI i)) t0))) i)) c0) ctf b0) c0))))), (ca, .inl (cA 2, 600, .inr (.inl (vp_updL cf n.toNatClampNeg (dg (dg (dg (dg (cho cf n (n - 1)) ((8 : Int32).toInt64)) ((x14 - ((cts (fun i => cfi (fun c => decide (pw gp 32 (c + 1) 1 4 = (fun i => tm gp (sb i) (pw gp 32 (p0 - 2) 1 (jgf gp (wts gq q0 gvn la0 wf t0) (fun j => gft gvn gf ts (nI j) (nI i)) t0))) i)) c0) ctf b0) c0)).toInt64)) (((cts (fun i => cfi (fun c => decide (pw gp 32 (c + 1) 1 4 = (fun i => tm gp (sb i) (pw gp 32 (p0 - 2) 1 (jgf gp (wts gq q0 gvn la0 wf t0) (fun j => gft gvn gf ts (nI j) (nI i)) t0))) i)) c0) ctf b0) c0).toInt64)) (dg1 (cts (fun i => cfi (fun c => decide (pw gp 32 (c + 1) 1 4 = (fun i => tm gp (sb i) (pw gp 32 (p0 - 2) 1 (jgf gp (wts gq q0 gvn la0 wf t0) (fun j => gft gvn gf ts (nI j) (nI i)) t0))) i)) c0) ctf b0) c0))))))] ++ (rwT cA ra gf (t0 + 1))) (some (.int (x14 - ((cts (fun i => cfi (fun c => decide (pw gp 32 (c + 1) 1 4 = (fun i => tm gp (sb i) (pw gp 32 (p0 - 2) 1 (jgf gp (wts gq q0 gvn la0 wf t0) (fun j => gft gvn gf ts (nI j) (nI i)) t0))) i)) c0) ctf b0) c0)))) (wA ([(h0, .inr (6, [.ref x0, .ref x1, .ref x2, .int x3, .ref x4, .ref x5, .ref x6, .ref x7, .ref x8, .ref x9, .ref x10, .ref x11, .int x12, .int x13, .int x14, .int x15, .int x16, .int x17, .int x18, .int x19])), (x1, .inr (5, [.ref x0, .int ts, .int tk, .ref tco, .ref t4, .ref t5, .ref t6, .int tv])), (x0, .inr (1, [.int gp, .int gq, .int gh])), (t4, .inl (cA 1, (t0 + 1), .inl gvn)), (t5, .inl (cA 4, (t0 + 1), .inr (.inr (.inr (.inr (fun k => some (ra + k))))))), (t6, .inl (cA 0, (t0 + 1), .inl wf)), (x5, .inl (cA 3, 5, .inr (.inr (.inr (.inr (fun k => some (la k))))))), ((la m0), .inr (3, [.ref oa1, .ref ob1])), (oa1, .inl (cA 0, 40, .inl sa)), (ob1, .inl (cA 0, 40, .inl sb)), (x11, .inl (cA 0, (c0 + 1), .inl ctf)), (x2, .inr (0, [.ref ka, .ref xa, .ref ya, .ref za, .ref ca, .int n])), (ka, .inl (cA 0, 600, .inl kf)), (xa, .inl (cA 0, 600, .inl xf)), (ya, .inl (cA 0, 600, .inl yf)), (za, .inl (cA 2, 600, .inr (.inl zf))), (ca, .inl (cA 2, 600, .inr (.inl cf)))] ++ (rwT cA ra gf (t0 + 1))))) 0 0 (wA ([(h0, .inr (6, [.ref x0, .ref x1, .ref x2, .int x3, .ref x4, .ref x5, .ref x6, .ref x7, .ref x8, .ref x9, .ref x10, .ref x11, .int x12, .int x13, .int x14, .int x15, .int x16, .int x17, .int x18, .int x19])), (x1, .inr (5, [.ref x0, .int ts, .int tk, .ref tco, .ref t4, .ref t5, .ref t6, .int tv])), (x0, .inr (1, [.int gp, .int gq, .int gh])), (t4, .inl (cA 1, (t0 + 1), .inl gvn)), (t5, .inl (cA 4, (t0 + 1), .inr (.inr (.inr (.inr (fun k => some (ra + k))))))), (t6, .inl (cA 0, (t0 + 1), .inl wf)), (x5, .inl (cA 3, 5, .inr (.inr (.inr (.inr (fun k => some (la k))))))), ((la m0), .inr (3, [.ref oa1, .ref ob1])), (oa1, .inl (cA 0, 40, .inl sa)), (ob1, .inl (cA 0, 40, .inl sb)), (x11, .inl (cA 0, (c0 + 1), .inl ctf)), (x2, .inr (0, [.ref ka, .ref xa, .ref ya, .ref za, .ref ca, .int n])), (ka, .inl (cA 0, 600, .inl kf)), (xa, .inl (cA 0, 600, .inl xf)), (ya, .inl (cA 0, 600, .inl yf)), (za, .inl (cA 2, 600, .inr (.inl zf))), (ca, .inl (cA 2, 600, .inr (.inl cf)))] ++ (rwT cA ra gf (t0 + 1)))) := by
  refine Met.ofW (cc := cX7_tally) (maxL := 2) (ret := (some .int)) (by decide) rfl ?_
  intro p e s m args below meth c s₁ B hml hv
  obtain ⟨rfl, hP, hK, hD0⟩ := hv
  have hx := B.exec
  have hb := B.bytes
  have hr := B.returns
  have hts := atoms_spec (ws := wsX7_tally) B.pre
  have hown : s.vm.findClass RX7 = some m.cls := findClass_of_methodNamed B.named
  have hlocks := B.notSynchronized
  have hin_X7 : ∀ w ∈ wsX70, w ∈ wsX7_tally := fun w h => List.mem_cons_of_mem _ (List.mem_append_left _ (List.mem_append_left _ (List.mem_append_left _ (List.mem_append_left _ (List.mem_append_right _ h)))))
  have w_RX7_97 := hts (.fieldLink RX7 97 "MixElection" "stage" "I") (by decide +kernel)
  have w_RX7_206 := hts (.fieldLink RX7 206 "MixElection" "rejectedRounds" "I") (by decide +kernel)
  have w_RX7_193 := hts (.fieldLink RX7 193 "MixElection" "mixesWithRounds" "I") (by decide +kernel)
  have w_RX7_179 := hts (.fieldLink RX7 179 "MixElection" "mixes" "I") (by decide +kernel)
  have w_RX7_48 := hts (.fieldLink RX7 48 "MixElection" "trustees" "LMixElection$Trustees;") (by decide +kernel)
  have w_RX7_39 := hts (.fieldLink RX7 39 "MixElection" "candidates" "I") (by decide +kernel)
  have w_RX7_55 := hts (.fieldLink RX7 55 "MixElection" "board" "LMixElection$Board;") (by decide +kernel)
  have w_RX7_158 := hts (.fieldLink RX7 158 "MixElection" "ballots" "I") (by decide +kernel)
  have hD : va_D (wA ([(h0, .inr (6, [.ref x0, .ref x1, .ref x2, .int x3, .ref x4, .ref x5, .ref x6, .ref x7, .ref x8, .ref x9, .ref x10, .ref x11, .int x12, .int x13, .int x14, .int x15, .int x16, .int x17, .int x18, .int x19])), (x1, .inr (5, [.ref x0, .int ts, .int tk, .ref tco, .ref t4, .ref t5, .ref t6, .int tv])), (x0, .inr (1, [.int gp, .int gq, .int gh])), (t4, .inl (cA 1, (t0 + 1), .inl gvn)), (t5, .inl (cA 4, (t0 + 1), .inr (.inr (.inr (.inr (fun k => some (ra + k))))))), (t6, .inl (cA 0, (t0 + 1), .inl wf)), (x5, .inl (cA 3, 5, .inr (.inr (.inr (.inr (fun k => some (la k))))))), ((la m0), .inr (3, [.ref oa1, .ref ob1])), (oa1, .inl (cA 0, 40, .inl sa)), (ob1, .inl (cA 0, 40, .inl sb)), (x11, .inl (cA 0, (c0 + 1), .inl ctf)), (x2, .inr (0, [.ref ka, .ref xa, .ref ya, .ref za, .ref ca, .int n])), (ka, .inl (cA 0, 600, .inl kf)), (xa, .inl (cA 0, 600, .inl xf)), (ya, .inl (cA 0, 600, .inl yf)), (za, .inl (cA 2, 600, .inr (.inl zf))), (ca, .inl (cA 2, 600, .inr (.inl cf)))] ++ (rwT cA ra gf (t0 + 1)))) ([(h0, .inr (6, [.ref x0, .ref x1, .ref x2, .int x3, .ref x4, .ref x5, .ref x6, .ref x7, .ref x8, .ref x9, .ref x10, .ref x11, .int x12, .int x13, .int x14, .int x15, .int x16, .int x17, .int x18, .int x19])), (x1, .inr (5, [.ref x0, .int ts, .int tk, .ref tco, .ref t4, .ref t5, .ref t6, .int tv])), (x0, .inr (1, [.int gp, .int gq, .int gh])), (t4, .inl (cA 1, (t0 + 1), .inl gvn)), (t5, .inl (cA 4, (t0 + 1), .inr (.inr (.inr (.inr (fun k => some (ra + k))))))), (t6, .inl (cA 0, (t0 + 1), .inl wf)), (x5, .inl (cA 3, 5, .inr (.inr (.inr (.inr (fun k => some (la k))))))), ((la m0), .inr (3, [.ref oa1, .ref ob1])), (oa1, .inl (cA 0, 40, .inl sa)), (ob1, .inl (cA 0, 40, .inl sb)), (x11, .inl (cA 0, (c0 + 1), .inl ctf)), (x2, .inr (0, [.ref ka, .ref xa, .ref ya, .ref za, .ref ca, .int n])), (ka, .inl (cA 0, 600, .inl kf)), (xa, .inl (cA 0, 600, .inl xf)), (ya, .inl (cA 0, 600, .inl yf)), (za, .inl (cA 2, 600, .inr (.inl zf))), (ca, .inl (cA 2, 600, .inr (.inl cf)))] ++ (rwT cA ra gf (t0 + 1))) := ⟨hD0.1, fun k q h => List.mem_map.mpr ⟨q, List.mem_of_getElem? h, rfl⟩⟩
  have hS : va_S (wA ([(h0, .inr (6, [.ref x0, .ref x1, .ref x2, .int x3, .ref x4, .ref x5, .ref x6, .ref x7, .ref x8, .ref x9, .ref x10, .ref x11, .int x12, .int x13, .int x14, .int x15, .int x16, .int x17, .int x18, .int x19])), (x1, .inr (5, [.ref x0, .int ts, .int tk, .ref tco, .ref t4, .ref t5, .ref t6, .int tv])), (x0, .inr (1, [.int gp, .int gq, .int gh])), (t4, .inl (cA 1, (t0 + 1), .inl gvn)), (t5, .inl (cA 4, (t0 + 1), .inr (.inr (.inr (.inr (fun k => some (ra + k))))))), (t6, .inl (cA 0, (t0 + 1), .inl wf)), (x5, .inl (cA 3, 5, .inr (.inr (.inr (.inr (fun k => some (la k))))))), ((la m0), .inr (3, [.ref oa1, .ref ob1])), (oa1, .inl (cA 0, 40, .inl sa)), (ob1, .inl (cA 0, 40, .inl sb)), (x11, .inl (cA 0, (c0 + 1), .inl ctf)), (x2, .inr (0, [.ref ka, .ref xa, .ref ya, .ref za, .ref ca, .int n])), (ka, .inl (cA 0, 600, .inl kf)), (xa, .inl (cA 0, 600, .inl xf)), (ya, .inl (cA 0, 600, .inl yf)), (za, .inl (cA 2, 600, .inr (.inl zf))), (ca, .inl (cA 2, 600, .inr (.inl cf)))] ++ (rwT cA ra gf (t0 + 1)))) s.heap s.heap [] := va_S.rf
  generalize hAe : wA ([(h0, .inr (6, [.ref x0, .ref x1, .ref x2, .int x3, .ref x4, .ref x5, .ref x6, .ref x7, .ref x8, .ref x9, .ref x10, .ref x11, .int x12, .int x13, .int x14, .int x15, .int x16, .int x17, .int x18, .int x19])), (x1, .inr (5, [.ref x0, .int ts, .int tk, .ref tco, .ref t4, .ref t5, .ref t6, .int tv])), (x0, .inr (1, [.int gp, .int gq, .int gh])), (t4, .inl (cA 1, (t0 + 1), .inl gvn)), (t5, .inl (cA 4, (t0 + 1), .inr (.inr (.inr (.inr (fun k => some (ra + k))))))), (t6, .inl (cA 0, (t0 + 1), .inl wf)), (x5, .inl (cA 3, 5, .inr (.inr (.inr (.inr (fun k => some (la k))))))), ((la m0), .inr (3, [.ref oa1, .ref ob1])), (oa1, .inl (cA 0, 40, .inl sa)), (ob1, .inl (cA 0, 40, .inl sb)), (x11, .inl (cA 0, (c0 + 1), .inl ctf)), (x2, .inr (0, [.ref ka, .ref xa, .ref ya, .ref za, .ref ca, .int n])), (ka, .inl (cA 0, 600, .inl kf)), (xa, .inl (cA 0, 600, .inl xf)), (ya, .inl (cA 0, 600, .inl yf)), (za, .inl (cA 2, 600, .inr (.inl zf))), (ca, .inl (cA 2, 600, .inr (.inl cf)))] ++ (rwT cA ra gf (t0 + 1))) = A at hD hS ⊢
  have hP : va_P D vwCl ([(h0, .inr (6, [.ref x0, .ref x1, .ref x2, .int x3, .ref x4, .ref x5, .ref x6, .ref x7, .ref x8, .ref x9, .ref x10, .ref x11, .int x12, .int x13, .int x14, .int x15, .int x16, .int x17, .int x18, .int x19])), (x1, .inr (5, [.ref x0, .int ts, .int tk, .ref tco, .ref t4, .ref t5, .ref t6, .int tv])), (x0, .inr (1, [.int gp, .int gq, .int gh])), (t4, .inl (cA 1, (t0 + 1), .inl gvn)), (t5, .inl (cA 4, (t0 + 1), .inr (.inr (.inr (.inr (fun k => some (ra + k))))))), (t6, .inl (cA 0, (t0 + 1), .inl wf)), (x5, .inl (cA 3, 5, .inr (.inr (.inr (.inr (fun k => some (la k))))))), ((la m0), .inr (3, [.ref oa1, .ref ob1])), (oa1, .inl (cA 0, 40, .inl sa)), (ob1, .inl (cA 0, 40, .inl sb)), (x11, .inl (cA 0, (c0 + 1), .inl ctf)), (x2, .inr (0, [.ref ka, .ref xa, .ref ya, .ref za, .ref ca, .int n])), (ka, .inl (cA 0, 600, .inl kf)), (xa, .inl (cA 0, 600, .inl xf)), (ya, .inl (cA 0, 600, .inl yf)), (za, .inl (cA 2, 600, .inr (.inl zf))), (ca, .inl (cA 2, 600, .inr (.inl cf)))] ++ (rwT cA ra gf (t0 + 1))) s.heap := hP
  have hl := lv_entry ([.ref h0]) (n := 2) (Nat.le_of_ble_eq_true rfl)
  rw [lg_entry_eq]
  generalize (lg_sl ([.ref h0]) ++ List.replicate (2 - (lg_sl ([.ref h0])).length) Slot.unset).toArray = ls at hl ⊢
  have hl : lv_has ls 2 [(0, .ref h0)] := hl
  refine lv_aload_n hx hb dX7_tally_0 rfl (lv_at hl 0 rfl) ?_
  refine va_get (D := D) (ci := 6) (v := .int x12) (C := RX7) (T := TX7) (N := 20) hx hb hts hin_X7 hown hK hP 0 rfl rfl 12 (by decide) (w_RX7_97) (fun _ h9 => h9) rfl dX7_tally_1 ?_
  refine lv_iconst (v := 2) hx hb dX7_tally_4 (by decide) ?_
  refine lv_icmp_ne (tgt := 36) hx hb dX7_tally_5 (by decide) (fun c_5 => ?_) (fun c_5 => ?_)
  · exact absurd hok.1 c_5
  · skip
    refine lv_aload_n hx hb dX7_tally_8 rfl (lv_at hl 0 rfl) ?_
    refine va_get (D := D) (ci := 6) (v := .int x18) (C := RX7) (T := TX7) (N := 20) hx hb hts hin_X7 hown hK hP 0 rfl rfl 18 (by decide) (w_RX7_206) (fun _ h9 => h9) rfl dX7_tally_9 ?_
    refine lv_if_gt (tgt := 36) hx hb dX7_tally_12 (by decide) (fun c_12 => ?_) (fun c_12 => ?_)
    · exact absurd c_12 hok.2.1
    · skip
      refine lv_aload_n hx hb dX7_tally_15 rfl (lv_at hl 0 rfl) ?_
      refine va_get (D := D) (ci := 6) (v := .int x16) (C := RX7) (T := TX7) (N := 20) hx hb hts hin_X7 hown hK hP 0 rfl rfl 16 (by decide) (w_RX7_193) (fun _ h9 => h9) rfl dX7_tally_16 ?_
      refine lv_aload_n hx hb dX7_tally_19 rfl (lv_at hl 0 rfl) ?_
      refine va_get (D := D) (ci := 6) (v := .int x15) (C := RX7) (T := TX7) (N := 20) hx hb hts hin_X7 hown hK hP 0 rfl rfl 15 (by decide) (w_RX7_179) (fun _ h9 => h9) rfl dX7_tally_20 ?_
      refine lv_icmp_lt (tgt := 36) hx hb dX7_tally_23 (by decide) (fun c_23 => ?_) (fun c_23 => ?_)
      · exact absurd c_23 hok.2.2.1
      · skip
        refine lv_aload_n hx hb dX7_tally_26 rfl (lv_at hl 0 rfl) ?_
        refine va_get (D := D) (ci := 6) (v := .ref x1) (C := RX7) (T := TX7) (N := 20) hx hb hts hin_X7 hown hK hP 0 rfl rfl 1 (by decide) (w_RX7_48) (fun _ h9 => h9) rfl dX7_tally_27 ?_
        refine rq_call1 (v := .int (bI (tk ≤ tv))) (rn_V (As := []) (rest := []) (ci := 5) (fs := [.ref x0, .int ts, .int tk, .ref tco, .ref t4, .ref t5, .ref t6, .int tv]) ⟨hx, hb, hml, hown, hts⟩ (c_X6_areEnough l D cA x1 x0 ts tk tco t4 t5 t6 tv) rfl (cwV 0 hts gX7_tally_X6_areEnough rfl rfl rfl (by decide +kernel) ⟨Nat.le_of_ble_eq_true rfl, Nat.le_of_ble_eq_true rfl⟩) hK hP [1] rfl rfl rfl hl.1 rfl (Nat.le_of_ble_eq_true rfl) dX7_tally_30 ⟨Nat.le_of_ble_eq_true rfl, Nat.le_of_ble_eq_true rfl⟩) ?_
        refine lv_if_ne (tgt := 38) hx hb dX7_tally_33 (by decide) (fun c_33 => ?_) (fun c_33 => ?_)
        · skip
          refine lv_aload_n hx hb dX7_tally_38 rfl (lv_at hl 0 rfl) ?_
          refine lv_iconst (v := 3) hx hb dX7_tally_39 (by decide) ?_
          refine va_put (D := D) (ci := 6) (v := .int 3) (ty := .int) (C := RX7) (T := TX7) (N := 20) hx hb hts hin_X7 tyX7 tyX7_ok nmX7 hown hK hP hD hS 0 rfl rfl 12 (by decide) (w_RX7_97) (fun _ h9 => h9) rfl (by decide +kernel) rfl rfl (Nat.le_of_ble_eq_true rfl) dX7_tally_40 (fun H locs hP hD hS => ?_)
          have hP : va_P D vwCl ([(h0, .inr (6, [.ref x0, .ref x1, .ref x2, .int x3, .ref x4, .ref x5, .ref x6, .ref x7, .ref x8, .ref x9, .ref x10, .ref x11, .int 3, .int x13, .int x14, .int x15, .int x16, .int x17, .int x18, .int x19])), (x1, .inr (5, [.ref x0, .int ts, .int tk, .ref tco, .ref t4, .ref t5, .ref t6, .int tv])), (x0, .inr (1, [.int gp, .int gq, .int gh])), (t4, .inl (cA 1, (t0 + 1), .inl gvn)), (t5, .inl (cA 4, (t0 + 1), .inr (.inr (.inr (.inr (fun k => some (ra + k))))))), (t6, .inl (cA 0, (t0 + 1), .inl wf)), (x5, .inl (cA 3, 5, .inr (.inr (.inr (.inr (fun k => some (la k))))))), ((la m0), .inr (3, [.ref oa1, .ref ob1])), (oa1, .inl (cA 0, 40, .inl sa)), (ob1, .inl (cA 0, 40, .inl sb)), (x11, .inl (cA 0, (c0 + 1), .inl ctf)), (x2, .inr (0, [.ref ka, .ref xa, .ref ya, .ref za, .ref ca, .int n])), (ka, .inl (cA 0, 600, .inl kf)), (xa, .inl (cA 0, 600, .inl xf)), (ya, .inl (cA 0, 600, .inl yf)), (za, .inl (cA 2, 600, .inr (.inl zf))), (ca, .inl (cA 2, 600, .inr (.inl cf)))] ++ (rwT cA ra gf (t0 + 1))) H := hP
          have hD : va_D A ([(h0, .inr (6, [.ref x0, .ref x1, .ref x2, .int x3, .ref x4, .ref x5, .ref x6, .ref x7, .ref x8, .ref x9, .ref x10, .ref x11, .int 3, .int x13, .int x14, .int x15, .int x16, .int x17, .int x18, .int x19])), (x1, .inr (5, [.ref x0, .int ts, .int tk, .ref tco, .ref t4, .ref t5, .ref t6, .int tv])), (x0, .inr (1, [.int gp, .int gq, .int gh])), (t4, .inl (cA 1, (t0 + 1), .inl gvn)), (t5, .inl (cA 4, (t0 + 1), .inr (.inr (.inr (.inr (fun k => some (ra + k))))))), (t6, .inl (cA 0, (t0 + 1), .inl wf)), (x5, .inl (cA 3, 5, .inr (.inr (.inr (.inr (fun k => some (la k))))))), ((la m0), .inr (3, [.ref oa1, .ref ob1])), (oa1, .inl (cA 0, 40, .inl sa)), (ob1, .inl (cA 0, 40, .inl sb)), (x11, .inl (cA 0, (c0 + 1), .inl ctf)), (x2, .inr (0, [.ref ka, .ref xa, .ref ya, .ref za, .ref ca, .int n])), (ka, .inl (cA 0, 600, .inl kf)), (xa, .inl (cA 0, 600, .inl xf)), (ya, .inl (cA 0, 600, .inl yf)), (za, .inl (cA 2, 600, .inr (.inl zf))), (ca, .inl (cA 2, 600, .inr (.inl cf)))] ++ (rwT cA ra gf (t0 + 1))) := hD
          refine lv_aload_n hx hb dX7_tally_43 rfl (lv_at hl 0 rfl) ?_
          refine wu_callL0 (X := [(h0, .inr (6, [.ref x0, .ref x1, .ref x2, .int x3, .ref x4, .ref x5, .ref x6, .ref x7, .ref x8, .ref x9, .ref x10, .ref x11, .int 3, .int x13, .int x14, .int x15, .int x16, .int x17, .int x18, .int x19])), (x1, .inr (5, [.ref x0, .int ts, .int tk, .ref tco, .ref t4, .ref t5, .ref t6, .int tv])), (x0, .inr (1, [.int gp, .int gq, .int gh])), (t4, .inl (cA 1, (t0 + 1), .inl gvn)), (t5, .inl (cA 4, (t0 + 1), .inr (.inr (.inr (.inr (fun k => some (ra + k))))))), (t6, .inl (cA 0, (t0 + 1), .inl wf)), (x5, .inl (cA 3, 5, .inr (.inr (.inr (.inr (fun k => some (la k))))))), ((la m0), .inr (3, [.ref oa1, .ref ob1])), (oa1, .inl (cA 0, 40, .inl sa)), (ob1, .inl (cA 0, 40, .inl sb)), (x11, .inl (cA 0, (c0 + 1), .inl ctf)), (x2, .inr (0, [.ref ka, .ref xa, .ref ya, .ref za, .ref ca, .int n])), (ka, .inl (cA 0, 600, .inl kf)), (xa, .inl (cA 0, 600, .inl xf)), (ya, .inl (cA 0, 600, .inl yf)), (za, .inl (cA 2, 600, .inr (.inl zf))), (ca, .inl (cA 2, 600, .inr (.inl cf)))]) (cx := [(h0, .inr (6, [.ref x0, .ref x1, .ref x2, .int x3, .ref x4, .ref x5, .ref x6, .ref x7, .ref x8, .ref x9, .ref x10, .ref x11, .int 3, .int x13, .int x14, .int x15, .int x16, .int x17, .int x18, .int x19])), (x1, .inr (5, [.ref x0, .int ts, .int tk, .ref tco, .ref t4, .ref t5, .ref t6, .int tv])), (x0, .inr (1, [.int gp, .int gq, .int gh])), (t4, .inl (cA 1, (t0 + 1), .inl gvn)), (t5, .inl (cA 4, (t0 + 1), .inr (.inr (.inr (.inr (fun k => some (ra + k))))))), (t6, .inl (cA 0, (t0 + 1), .inl wf)), (x5, .inl (cA 3, 5, .inr (.inr (.inr (.inr (fun k => some (la k))))))), ((la m0), .inr (3, [.ref oa1, .ref ob1])), (oa1, .inl (cA 0, 40, .inl sa)), (ob1, .inl (cA 0, 40, .inl sb)), (x11, .inl (cA 0, (c0 + 1), .inl ctf))]) (rx := [(h0, .inr (6, [.ref x0, .ref x1, .ref x2, .int x3, .ref x4, .ref x5, .ref x6, .ref x7, .ref x8, .ref x9, .ref x10, .ref x11, .int 3, .int x13, .int x14, .int x15, .int x16, .int x17, .int x18, .int x19])), (x1, .inr (5, [.ref x0, .int ts, .int tk, .ref tco, .ref t4, .ref t5, .ref t6, .int tv])), (x0, .inr (1, [.int gp, .int gq, .int gh])), (t4, .inl (cA 1, (t0 + 1), .inl gvn)), (t5, .inl (cA 4, (t0 + 1), .inr (.inr (.inr (.inr (fun k => some (ra + k))))))), (t6, .inl (cA 0, (t0 + 1), .inl (wts gq q0 gvn la0 wf t0))), (x5, .inl (cA 3, 5, .inr (.inr (.inr (.inr (fun k => some (la k))))))), ((la m0), .inr (3, [.ref oa1, .ref ob1])), (oa1, .inl (cA 0, 40, .inl sa)), (ob1, .inl (cA 0, 40, .inl sb)), (x11, .inl (cA 0, (c0 + 1), .inl (cts (fun i => cfi (fun c => decide (pw gp 32 (c + 1) 1 4 = (fun i => tm gp (sb i) (pw gp 32 (p0 - 2) 1 (jgf gp (wts gq q0 gvn la0 wf t0) (fun j => gft gvn gf ts (nI j) (nI i)) t0))) i)) c0) ctf b0)))]) (X' := [(h0, .inr (6, [.ref x0, .ref x1, .ref x2, .int x3, .ref x4, .ref x5, .ref x6, .ref x7, .ref x8, .ref x9, .ref x10, .ref x11, .int 3, .int x13, .int x14, .int x15, .int x16, .int x17, .int x18, .int x19])), (x1, .inr (5, [.ref x0, .int ts, .int tk, .ref tco, .ref t4, .ref t5, .ref t6, .int tv])), (x0, .inr (1, [.int gp, .int gq, .int gh])), (t4, .inl (cA 1, (t0 + 1), .inl gvn)), (t5, .inl (cA 4, (t0 + 1), .inr (.inr (.inr (.inr (fun k => some (ra + k))))))), (t6, .inl (cA 0, (t0 + 1), .inl (wts gq q0 gvn la0 wf t0))), (x5, .inl (cA 3, 5, .inr (.inr (.inr (.inr (fun k => some (la k))))))), ((la m0), .inr (3, [.ref oa1, .ref ob1])), (oa1, .inl (cA 0, 40, .inl sa)), (ob1, .inl (cA 0, 40, .inl sb)), (x11, .inl (cA 0, (c0 + 1), .inl (cts (fun i => cfi (fun c => decide (pw gp 32 (c + 1) 1 4 = (fun i => tm gp (sb i) (pw gp 32 (p0 - 2) 1 (jgf gp (wts gq q0 gvn la0 wf t0) (fun j => gft gvn gf ts (nI j) (nI i)) t0))) i)) c0) ctf b0))), (x2, .inr (0, [.ref ka, .ref xa, .ref ya, .ref za, .ref ca, .int n])), (ka, .inl (cA 0, 600, .inl kf)), (xa, .inl (cA 0, 600, .inl xf)), (ya, .inl (cA 0, 600, .inl yf)), (za, .inl (cA 2, 600, .inr (.inl zf))), (ca, .inl (cA 2, 600, .inr (.inl cf)))]) (pl := (rwT cA ra gf (t0 + 1))) (pl1 := (rwT cA ra gf (t0 + 1))) (wn_VT (As := []) (rest := []) (ci := 6) (fs := [.ref x0, .ref x1, .ref x2, .int x3, .ref x4, .ref x5, .ref x6, .ref x7, .ref x8, .ref x9, .ref x10, .ref x11, .int 3, .int x13, .int x14, .int x15, .int x16, .int x17, .int x18, .int x19]) (X := [(h0, .inr (6, [.ref x0, .ref x1, .ref x2, .int x3, .ref x4, .ref x5, .ref x6, .ref x7, .ref x8, .ref x9, .ref x10, .ref x11, .int 3, .int x13, .int x14, .int x15, .int x16, .int x17, .int x18, .int x19])), (x1, .inr (5, [.ref x0, .int ts, .int tk, .ref tco, .ref t4, .ref t5, .ref t6, .int tv])), (x0, .inr (1, [.int gp, .int gq, .int gh])), (t4, .inl (cA 1, (t0 + 1), .inl gvn)), (t5, .inl (cA 4, (t0 + 1), .inr (.inr (.inr (.inr (fun k => some (ra + k))))))), (t6, .inl (cA 0, (t0 + 1), .inl wf)), (x5, .inl (cA 3, 5, .inr (.inr (.inr (.inr (fun k => some (la k))))))), ((la m0), .inr (3, [.ref oa1, .ref ob1])), (oa1, .inl (cA 0, 40, .inl sa)), (ob1, .inl (cA 0, 40, .inl sb)), (x11, .inl (cA 0, (c0 + 1), .inl ctf)), (x2, .inr (0, [.ref ka, .ref xa, .ref ya, .ref za, .ref ca, .int n])), (ka, .inl (cA 0, 600, .inl kf)), (xa, .inl (cA 0, 600, .inl xf)), (ya, .inl (cA 0, 600, .inl yf)), (za, .inl (cA 2, 600, .inr (.inl zf))), (ca, .inl (cA 2, 600, .inr (.inl cf)))]) (cx := [(h0, .inr (6, [.ref x0, .ref x1, .ref x2, .int x3, .ref x4, .ref x5, .ref x6, .ref x7, .ref x8, .ref x9, .ref x10, .ref x11, .int 3, .int x13, .int x14, .int x15, .int x16, .int x17, .int x18, .int x19])), (x1, .inr (5, [.ref x0, .int ts, .int tk, .ref tco, .ref t4, .ref t5, .ref t6, .int tv])), (x0, .inr (1, [.int gp, .int gq, .int gh])), (t4, .inl (cA 1, (t0 + 1), .inl gvn)), (t5, .inl (cA 4, (t0 + 1), .inr (.inr (.inr (.inr (fun k => some (ra + k))))))), (t6, .inl (cA 0, (t0 + 1), .inl wf)), (x5, .inl (cA 3, 5, .inr (.inr (.inr (.inr (fun k => some (la k))))))), ((la m0), .inr (3, [.ref oa1, .ref ob1])), (oa1, .inl (cA 0, 40, .inl sa)), (ob1, .inl (cA 0, 40, .inl sb)), (x11, .inl (cA 0, (c0 + 1), .inl ctf))]) (pl := (rwT cA ra gf (t0 + 1))) ⟨hx, hb, hml, hown, hts⟩ (c_X7_countBallots l D cA h0 x0 x1 x2 x3 x4 x5 x6 x7 x8 x9 x10 x11 3 x13 x14 x15 x16 x17 x18 x19 ts tk tco t4 t5 t6 tv gp gq gh t0 k0 la0 q0 p0 ra oa1 ob1 b0 m0 c0 gvn wf sa sb ctf gf la hc0 hc1 hm hm4 hts0 ht5 htk hk5 hk1 hL1 hL2 hL3 hq0 hq2 hq9 hp0 hp2 hp9 hnb hb4 hwn) rfl (cwV 0 hts gX7_tally_X7_countBallots rfl rfl rfl (by decide +kernel) ⟨Nat.le_of_ble_eq_true rfl, Nat.le_of_ble_eq_true rfl⟩) hK hP hD [0, 1, 2, 3, 4, 5, 6, 7, 8, 9, 10] (by decide) rfl rfl rfl hl.1 rfl (Nat.le_of_ble_eq_true rfl) dX7_tally_44 ⟨Nat.le_of_ble_eq_true rfl, Nat.le_of_ble_eq_true rfl⟩) hP hD hS [0, 1, 2, 3, 4, 5, 6, 7, 8, 9, 10] [11, 12, 13, 14, 15, 16] rfl rfl (wr := [(x2, .inr (0, [.ref ka, .ref xa, .ref ya, .ref za, .ref ca, .int n])), (ka, .inl (cA 0, 600, .inl kf)), (xa, .inl (cA 0, 600, .inl xf)), (ya, .inl (cA 0, 600, .inl yf)), (za, .inl (cA 2, 600, .inr (.inl zf))), (ca, .inl (cA 2, 600, .inr (.inl cf)))]) rfl rfl (ads := [h0, x1, x0, t4, t5, t6, x5, (la m0), oa1, ob1, x11, x2, ka, xa, ya, za, ca]) rfl rfl rwT_fst rfl (fun H locs hP hD hS => ?_)
          refine lv_aload_n hx hb dX7_tally_47 rfl (lv_at hl 0 rfl) ?_
          refine lv_aload_n hx hb dX7_tally_48 rfl (lv_at hl 0 rfl) ?_
          refine va_get (D := D) (ci := 6) (v := .int x3) (C := RX7) (T := TX7) (N := 20) hx hb hts hin_X7 hown hK hP 0 rfl rfl 3 (by decide) (w_RX7_39) (fun _ h9 => h9) rfl dX7_tally_49 ?_
          refine rq_call1 (v := .int (if 3 = 3 ∧ 0 ≤ x3 ∧ x3 < nI (c0 + 1) then (cts (fun i => cfi (fun c => decide (pw gp 32 (c + 1) 1 4 = (fun i => tm gp (sb i) (pw gp 32 (p0 - 2) 1 (jgf gp (wts gq q0 gvn la0 wf t0) (fun j => gft gvn gf ts (nI j) (nI i)) t0))) i)) c0) ctf b0) x3.toNatClampNeg else -1)) (rn_V (As := [.int x3]) (rest := []) (ci := 6) (fs := [.ref x0, .ref x1, .ref x2, .int x3, .ref x4, .ref x5, .ref x6, .ref x7, .ref x8, .ref x9, .ref x10, .ref x11, .int 3, .int x13, .int x14, .int x15, .int x16, .int x17, .int x18, .int x19]) ⟨hx, hb, hml, hown, hts⟩ (c_X7_count l D cA h0 x0 x1 x2 x3 x4 x5 x6 x7 x8 x9 x10 x11 3 x13 x14 x15 x16 x17 x18 x19 x3 (cts (fun i => cfi (fun c => decide (pw gp 32 (c + 1) 1 4 = (fun i => tm gp (sb i) (pw gp 32 (p0 - 2) 1 (jgf gp (wts gq q0 gvn la0 wf t0) (fun j => gft gvn gf ts (nI j) (nI i)) t0))) i)) c0) ctf b0) c0 hc1) rfl (cwV 1 hts gX7_tally_X7_count rfl rfl rfl (by decide +kernel) ⟨Nat.le_of_ble_eq_true rfl, Nat.le_of_ble_eq_true rfl⟩) hK hP [0, 10] rfl rfl rfl hl.1 rfl (Nat.le_of_ble_eq_true rfl) dX7_tally_52 ⟨Nat.le_of_ble_eq_true rfl, Nat.le_of_ble_eq_true rfl⟩) ?_
          rw [ct_m hc0 hc1]
          refine lv_istore_n (lv' := [(1, .int ((cts (fun i => cfi (fun c => decide (pw gp 32 (c + 1) 1 4 = (fun i => tm gp (sb i) (pw gp 32 (p0 - 2) 1 (jgf gp (wts gq q0 gvn la0 wf t0) (fun j => gft gvn gf ts (nI j) (nI i)) t0))) i)) c0) ctf b0) c0)), (0, .ref h0)]) hx hb dX7_tally_55 rfl hl (by decide) rfl (fun ls hl => ?_)
          refine lv_aload_n hx hb dX7_tally_56 rfl (lv_at hl 1 rfl) ?_
          refine va_get (D := D) (ci := 6) (v := .ref x2) (C := RX7) (T := TX7) (N := 20) hx hb hts hin_X7 hown hK hP 0 rfl rfl 2 (by decide) (w_RX7_55) (fun _ h9 => h9) rfl dX7_tally_57 ?_
          refine lv_bipush (v := 8) hx hb dX7_tally_60 (by decide) ?_
          refine lv_aload_n hx hb dX7_tally_62 rfl (lv_at hl 1 rfl) ?_
          refine va_get (D := D) (ci := 6) (v := .int x14) (C := RX7) (T := TX7) (N := 20) hx hb hts hin_X7 hown hK hP 0 rfl rfl 14 (by decide) (w_RX7_158) (fun _ h9 => h9) rfl dX7_tally_63 ?_
          refine lv_iload_n hx hb dX7_tally_66 rfl (lv_at hl 0 rfl) ?_
          refine lv_isub hx hb dX7_tally_67 ?_
          refine lv_iload_n hx hb dX7_tally_68 rfl (lv_at hl 0 rfl) ?_
          refine lv_aload_n hx hb dX7_tally_69 rfl (lv_at hl 1 rfl) ?_
          refine rq_call1 (v := .long (dg1 (cts (fun i => cfi (fun c => decide (pw gp 32 (c + 1) 1 4 = (fun i => tm gp (sb i) (pw gp 32 (p0 - 2) 1 (jgf gp (wts gq q0 gvn la0 wf t0) (fun j => gft gvn gf ts (nI j) (nI i)) t0))) i)) c0) ctf b0) c0)) (rn_V (As := []) (rest := [.int ((cts (fun i => cfi (fun c => decide (pw gp 32 (c + 1) 1 4 = (fun i => tm gp (sb i) (pw gp 32 (p0 - 2) 1 (jgf gp (wts gq q0 gvn la0 wf t0) (fun j => gft gvn gf ts (nI j) (nI i)) t0))) i)) c0) ctf b0) c0), .int (x14 - ((cts (fun i => cfi (fun c => decide (pw gp 32 (c + 1) 1 4 = (fun i => tm gp (sb i) (pw gp 32 (p0 - 2) 1 (jgf gp (wts gq q0 gvn la0 wf t0) (fun j => gft gvn gf ts (nI j) (nI i)) t0))) i)) c0) ctf b0) c0)), .int 8, .ref x2]) (ci := 6) (fs := [.ref x0, .ref x1, .ref x2, .int x3, .ref x4, .ref x5, .ref x6, .ref x7, .ref x8, .ref x9, .ref x10, .ref x11, .int 3, .int x13, .int x14, .int x15, .int x16, .int x17, .int x18, .int x19]) ⟨hx, hb, hml, hown, hts⟩ (c_X7_digestOfCounts l D cA h0 x0 x1 x2 x3 x4 x5 x6 x7 x8 x9 x10 x11 3 x13 x14 x15 x16 x17 x18 x19 (cts (fun i => cfi (fun c => decide (pw gp 32 (c + 1) 1 4 = (fun i => tm gp (sb i) (pw gp 32 (p0 - 2) 1 (jgf gp (wts gq q0 gvn la0 wf t0) (fun j => gft gvn gf ts (nI j) (nI i)) t0))) i)) c0) ctf b0) c0 rfl hc0 hc1) rfl (cwV 0 hts gX7_tally_X7_digestOfCounts rfl rfl rfl (by decide +kernel) ⟨Nat.le_of_ble_eq_true rfl, Nat.le_of_ble_eq_true rfl⟩) hK hP [0, 10] rfl rfl rfl hl.1 rfl (Nat.le_of_ble_eq_true rfl) dX7_tally_70 ⟨Nat.le_of_ble_eq_true rfl, Nat.le_of_ble_eq_true rfl⟩) ?_
          refine wt_callL1 (v := .long (dg (dg (dg (dg (cho cf n (n - 1)) ((8 : Int32).toInt64)) ((x14 - ((cts (fun i => cfi (fun c => decide (pw gp 32 (c + 1) 1 4 = (fun i => tm gp (sb i) (pw gp 32 (p0 - 2) 1 (jgf gp (wts gq q0 gvn la0 wf t0) (fun j => gft gvn gf ts (nI j) (nI i)) t0))) i)) c0) ctf b0) c0)).toInt64)) (((cts (fun i => cfi (fun c => decide (pw gp 32 (c + 1) 1 4 = (fun i => tm gp (sb i) (pw gp 32 (p0 - 2) 1 (jgf gp (wts gq q0 gvn la0 wf t0) (fun j => gft gvn gf ts (nI j) (nI i)) t0))) i)) c0) ctf b0) c0).toInt64)) (dg1 (cts (fun i => cfi (fun c => decide (pw gp 32 (c + 1) 1 4 = (fun i => tm gp (sb i) (pw gp 32 (p0 - 2) 1 (jgf gp (wts gq q0 gvn la0 wf t0) (fun j => gft gvn gf ts (nI j) (nI i)) t0))) i)) c0) ctf b0) c0))) (X := [(h0, .inr (6, [.ref x0, .ref x1, .ref x2, .int x3, .ref x4, .ref x5, .ref x6, .ref x7, .ref x8, .ref x9, .ref x10, .ref x11, .int 3, .int x13, .int x14, .int x15, .int x16, .int x17, .int x18, .int x19])), (x1, .inr (5, [.ref x0, .int ts, .int tk, .ref tco, .ref t4, .ref t5, .ref t6, .int tv])), (x0, .inr (1, [.int gp, .int gq, .int gh])), (t4, .inl (cA 1, (t0 + 1), .inl gvn)), (t5, .inl (cA 4, (t0 + 1), .inr (.inr (.inr (.inr (fun k => some (ra + k))))))), (t6, .inl (cA 0, (t0 + 1), .inl (wts gq q0 gvn la0 wf t0))), (x5, .inl (cA 3, 5, .inr (.inr (.inr (.inr (fun k => some (la k))))))), ((la m0), .inr (3, [.ref oa1, .ref ob1])), (oa1, .inl (cA 0, 40, .inl sa)), (ob1, .inl (cA 0, 40, .inl sb)), (x11, .inl (cA 0, (c0 + 1), .inl (cts (fun i => cfi (fun c => decide (pw gp 32 (c + 1) 1 4 = (fun i => tm gp (sb i) (pw gp 32 (p0 - 2) 1 (jgf gp (wts gq q0 gvn la0 wf t0) (fun j => gft gvn gf ts (nI j) (nI i)) t0))) i)) c0) ctf b0))), (x2, .inr (0, [.ref ka, .ref xa, .ref ya, .ref za, .ref ca, .int n])), (ka, .inl (cA 0, 600, .inl kf)), (xa, .inl (cA 0, 600, .inl xf)), (ya, .inl (cA 0, 600, .inl yf)), (za, .inl (cA 2, 600, .inr (.inl zf))), (ca, .inl (cA 2, 600, .inr (.inl cf)))]) (cx := [(x2, .inr (0, [.ref ka, .ref xa, .ref ya, .ref za, .ref ca, .int n])), (ka, .inl (cA 0, 600, .inl kf)), (xa, .inl (cA 0, 600, .inl xf)), (ya, .inl (cA 0, 600, .inl yf)), (za, .inl (cA 2, 600, .inr (.inl zf))), (ca, .inl (cA 2, 600, .inr (.inl cf)))]) (rx := [(x2, .inr (0, [.ref ka, .ref xa, .ref ya, .ref za, .ref ca, .int (n + 1)])), (ka, .inl (cA 0, 600, .inl (upd kf n.toNatClampNeg 8))), (xa, .inl (cA 0, 600, .inl (upd xf n.toNatClampNeg (x14 - ((cts (fun i => cfi (fun c => decide (pw gp 32 (c + 1) 1 4 = (fun i => tm gp (sb i) (pw gp 32 (p0 - 2) 1 (jgf gp (wts gq q0 gvn la0 wf t0) (fun j => gft gvn gf ts (nI j) (nI i)) t0))) i)) c0) ctf b0) c0))))), (ya, .inl (cA 0, 600, .inl (upd yf n.toNatClampNeg ((cts (fun i => cfi (fun c => decide (pw gp 32 (c + 1) 1 4 = (fun i => tm gp (sb i) (pw gp 32 (p0 - 2) 1 (jgf gp (wts gq q0 gvn la0 wf t0) (fun j => gft gvn gf ts (nI j) (nI i)) t0))) i)) c0) ctf b0) c0)))), (za, .inl (cA 2, 600, .inr (.inl (vp_updL zf n.toNatClampNeg (dg1 (cts (fun i => cfi (fun c => decide (pw gp 32 (c + 1) 1 4 = (fun i => tm gp (sb i) (pw gp 32 (p0 - 2) 1 (jgf gp (wts gq q0 gvn la0 wf t0) (fun j => gft gvn gf ts (nI j) (nI i)) t0))) i)) c0) ctf b0) c0))))), (ca, .inl (cA 2, 600, .inr (.inl (vp_updL cf n.toNatClampNeg (dg (dg (dg (dg (cho cf n (n - 1)) ((8 : Int32).toInt64)) ((x14 - ((cts (fun i => cfi (fun c => decide (pw gp 32 (c + 1) 1 4 = (fun i => tm gp (sb i) (pw gp 32 (p0 - 2) 1 (jgf gp (wts gq q0 gvn la0 wf t0) (fun j => gft gvn gf ts (nI j) (nI i)) t0))) i)) c0) ctf b0) c0)).toInt64)) (((cts (fun i => cfi (fun c => decide (pw gp 32 (c + 1) 1 4 = (fun i => tm gp (sb i) (pw gp 32 (p0 - 2) 1 (jgf gp (wts gq q0 gvn la0 wf t0) (fun j => gft gvn gf ts (nI j) (nI i)) t0))) i)) c0) ctf b0) c0).toInt64)) (dg1 (cts (fun i => cfi (fun c => decide (pw gp 32 (c + 1) 1 4 = (fun i => tm gp (sb i) (pw gp 32 (p0 - 2) 1 (jgf gp (wts gq q0 gvn la0 wf t0) (fun j => gft gvn gf ts (nI j) (nI i)) t0))) i)) c0) ctf b0) c0))))))]) (X' := [(h0, .inr (6, [.ref x0, .ref x1, .ref x2, .int x3, .ref x4, .ref x5, .ref x6, .ref x7, .ref x8, .ref x9, .ref x10, .ref x11, .int 3, .int x13, .int x14, .int x15, .int x16, .int x17, .int x18, .int x19])), (x1, .inr (5, [.ref x0, .int ts, .int tk, .ref tco, .ref t4, .ref t5, .ref t6, .int tv])), (x0, .inr (1, [.int gp, .int gq, .int gh])), (t4, .inl (cA 1, (t0 + 1), .inl gvn)), (t5, .inl (cA 4, (t0 + 1), .inr (.inr (.inr (.inr (fun k => some (ra + k))))))), (t6, .inl (cA 0, (t0 + 1), .inl (wts gq q0 gvn la0 wf t0))), (x5, .inl (cA 3, 5, .inr (.inr (.inr (.inr (fun k => some (la k))))))), ((la m0), .inr (3, [.ref oa1, .ref ob1])), (oa1, .inl (cA 0, 40, .inl sa)), (ob1, .inl (cA 0, 40, .inl sb)), (x11, .inl (cA 0, (c0 + 1), .inl (cts (fun i => cfi (fun c => decide (pw gp 32 (c + 1) 1 4 = (fun i => tm gp (sb i) (pw gp 32 (p0 - 2) 1 (jgf gp (wts gq q0 gvn la0 wf t0) (fun j => gft gvn gf ts (nI j) (nI i)) t0))) i)) c0) ctf b0))), (x2, .inr (0, [.ref ka, .ref xa, .ref ya, .ref za, .ref ca, .int (n + 1)])), (ka, .inl (cA 0, 600, .inl (upd kf n.toNatClampNeg 8))), (xa, .inl (cA 0, 600, .inl (upd xf n.toNatClampNeg (x14 - ((cts (fun i => cfi (fun c => decide (pw gp 32 (c + 1) 1 4 = (fun i => tm gp (sb i) (pw gp 32 (p0 - 2) 1 (jgf gp (wts gq q0 gvn la0 wf t0) (fun j => gft gvn gf ts (nI j) (nI i)) t0))) i)) c0) ctf b0) c0))))), (ya, .inl (cA 0, 600, .inl (upd yf n.toNatClampNeg ((cts (fun i => cfi (fun c => decide (pw gp 32 (c + 1) 1 4 = (fun i => tm gp (sb i) (pw gp 32 (p0 - 2) 1 (jgf gp (wts gq q0 gvn la0 wf t0) (fun j => gft gvn gf ts (nI j) (nI i)) t0))) i)) c0) ctf b0) c0)))), (za, .inl (cA 2, 600, .inr (.inl (vp_updL zf n.toNatClampNeg (dg1 (cts (fun i => cfi (fun c => decide (pw gp 32 (c + 1) 1 4 = (fun i => tm gp (sb i) (pw gp 32 (p0 - 2) 1 (jgf gp (wts gq q0 gvn la0 wf t0) (fun j => gft gvn gf ts (nI j) (nI i)) t0))) i)) c0) ctf b0) c0))))), (ca, .inl (cA 2, 600, .inr (.inl (vp_updL cf n.toNatClampNeg (dg (dg (dg (dg (cho cf n (n - 1)) ((8 : Int32).toInt64)) ((x14 - ((cts (fun i => cfi (fun c => decide (pw gp 32 (c + 1) 1 4 = (fun i => tm gp (sb i) (pw gp 32 (p0 - 2) 1 (jgf gp (wts gq q0 gvn la0 wf t0) (fun j => gft gvn gf ts (nI j) (nI i)) t0))) i)) c0) ctf b0) c0)).toInt64)) (((cts (fun i => cfi (fun c => decide (pw gp 32 (c + 1) 1 4 = (fun i => tm gp (sb i) (pw gp 32 (p0 - 2) 1 (jgf gp (wts gq q0 gvn la0 wf t0) (fun j => gft gvn gf ts (nI j) (nI i)) t0))) i)) c0) ctf b0) c0).toInt64)) (dg1 (cts (fun i => cfi (fun c => decide (pw gp 32 (c + 1) 1 4 = (fun i => tm gp (sb i) (pw gp 32 (p0 - 2) 1 (jgf gp (wts gq q0 gvn la0 wf t0) (fun j => gft gvn gf ts (nI j) (nI i)) t0))) i)) c0) ctf b0) c0))))))]) (pl := (rwT cA ra gf (t0 + 1))) (wn_V (As := [.int 8, .int (x14 - ((cts (fun i => cfi (fun c => decide (pw gp 32 (c + 1) 1 4 = (fun i => tm gp (sb i) (pw gp 32 (p0 - 2) 1 (jgf gp (wts gq q0 gvn la0 wf t0) (fun j => gft gvn gf ts (nI j) (nI i)) t0))) i)) c0) ctf b0) c0)), .int ((cts (fun i => cfi (fun c => decide (pw gp 32 (c + 1) 1 4 = (fun i => tm gp (sb i) (pw gp 32 (p0 - 2) 1 (jgf gp (wts gq q0 gvn la0 wf t0) (fun j => gft gvn gf ts (nI j) (nI i)) t0))) i)) c0) ctf b0) c0), .long (dg1 (cts (fun i => cfi (fun c => decide (pw gp 32 (c + 1) 1 4 = (fun i => tm gp (sb i) (pw gp 32 (p0 - 2) 1 (jgf gp (wts gq q0 gvn la0 wf t0) (fun j => gft gvn gf ts (nI j) (nI i)) t0))) i)) c0) ctf b0) c0)]) (rest := []) (ci := 0) (fs := [.ref ka, .ref xa, .ref ya, .ref za, .ref ca, .int n]) ⟨hx, hb, hml, hown, hts⟩ (c_X0_add l D cA x2 ka xa ya za ca n kf xf yf zf cf 8 (x14 - ((cts (fun i => cfi (fun c => decide (pw gp 32 (c + 1) 1 4 = (fun i => tm gp (sb i) (pw gp 32 (p0 - 2) 1 (jgf gp (wts gq q0 gvn la0 wf t0) (fun j => gft gvn gf ts (nI j) (nI i)) t0))) i)) c0) ctf b0) c0)) ((cts (fun i => cfi (fun c => decide (pw gp 32 (c + 1) 1 4 = (fun i => tm gp (sb i) (pw gp 32 (p0 - 2) 1 (jgf gp (wts gq q0 gvn la0 wf t0) (fun j => gft gvn gf ts (nI j) (nI i)) t0))) i)) c0) ctf b0) c0) (dg1 (cts (fun i => cfi (fun c => decide (pw gp 32 (c + 1) 1 4 = (fun i => tm gp (sb i) (pw gp 32 (p0 - 2) 1 (jgf gp (wts gq q0 gvn la0 wf t0) (fun j => gft gvn gf ts (nI j) (nI i)) t0))) i)) c0) ctf b0) c0) n0 hbn h6) rfl (cwV 4 hts gX7_tally_X0_add rfl rfl rfl (by decide +kernel) ⟨Nat.le_of_ble_eq_true rfl, Nat.le_of_ble_eq_true rfl⟩) hK hP hD [11, 12, 13, 14, 15, 16] rfl (by decide) rfl rfl rfl hl.1 rfl (Nat.le_of_ble_eq_true rfl) dX7_tally_73 ⟨Nat.le_of_ble_eq_true rfl, Nat.le_of_ble_eq_true rfl⟩) hP hD hS [11, 12, 13, 14, 15, 16] [0, 1, 2, 3, 4, 5, 6, 7, 8, 9, 10] rfl rfl (wr := [(h0, .inr (6, [.ref x0, .ref x1, .ref x2, .int x3, .ref x4, .ref x5, .ref x6, .ref x7, .ref x8, .ref x9, .ref x10, .ref x11, .int 3, .int x13, .int x14, .int x15, .int x16, .int x17, .int x18, .int x19])), (x1, .inr (5, [.ref x0, .int ts, .int tk, .ref tco, .ref t4, .ref t5, .ref t6, .int tv])), (x0, .inr (1, [.int gp, .int gq, .int gh])), (t4, .inl (cA 1, (t0 + 1), .inl gvn)), (t5, .inl (cA 4, (t0 + 1), .inr (.inr (.inr (.inr (fun k => some (ra + k))))))), (t6, .inl (cA 0, (t0 + 1), .inl (wts gq q0 gvn la0 wf t0))), (x5, .inl (cA 3, 5, .inr (.inr (.inr (.inr (fun k => some (la k))))))), ((la m0), .inr (3, [.ref oa1, .ref ob1])), (oa1, .inl (cA 0, 40, .inl sa)), (ob1, .inl (cA 0, 40, .inl sb)), (x11, .inl (cA 0, (c0 + 1), .inl (cts (fun i => cfi (fun c => decide (pw gp 32 (c + 1) 1 4 = (fun i => tm gp (sb i) (pw gp 32 (p0 - 2) 1 (jgf gp (wts gq q0 gvn la0 wf t0) (fun j => gft gvn gf ts (nI j) (nI i)) t0))) i)) c0) ctf b0)))]) rfl rfl (ads := [h0, x1, x0, t4, t5, t6, x5, (la m0), oa1, ob1, x11, x2, ka, xa, ya, za, ca]) rfl rfl rfl (fun H locs hP hD hS => ?_)
          refine lv_pop2_2 hx hb dX7_tally_76 rfl ?_
          refine lv_aload_n hx hb dX7_tally_77 rfl (lv_at hl 1 rfl) ?_
          refine va_get (D := D) (ci := 6) (v := .int x14) (C := RX7) (T := TX7) (N := 20) hx hb hts hin_X7 hown hK hP 0 rfl rfl 14 (by decide) (w_RX7_158) (fun _ h9 => h9) rfl dX7_tally_78 ?_
          refine lv_iload_n hx hb dX7_tally_81 rfl (lv_at hl 0 rfl) ?_
          refine lv_isub hx hb dX7_tally_82 ?_
          have hP9 : va_P D vwCl ([(h0, .inr (6, [.ref x0, .ref x1, .ref x2, .int x3, .ref x4, .ref x5, .ref x6, .ref x7, .ref x8, .ref x9, .ref x10, .ref x11, .int 3, .int x13, .int x14, .int x15, .int x16, .int x17, .int x18, .int x19])), (x1, .inr (5, [.ref x0, .int ts, .int tk, .ref tco, .ref t4, .ref t5, .ref t6, .int tv])), (x0, .inr (1, [.int gp, .int gq, .int gh])), (t4, .inl (cA 1, (t0 + 1), .inl gvn)), (t5, .inl (cA 4, (t0 + 1), .inr (.inr (.inr (.inr (fun k => some (ra + k))))))), (t6, .inl (cA 0, (t0 + 1), .inl (wts gq q0 gvn la0 wf t0))), (x5, .inl (cA 3, 5, .inr (.inr (.inr (.inr (fun k => some (la k))))))), ((la m0), .inr (3, [.ref oa1, .ref ob1])), (oa1, .inl (cA 0, 40, .inl sa)), (ob1, .inl (cA 0, 40, .inl sb)), (x11, .inl (cA 0, (c0 + 1), .inl (cts (fun i => cfi (fun c => decide (pw gp 32 (c + 1) 1 4 = (fun i => tm gp (sb i) (pw gp 32 (p0 - 2) 1 (jgf gp (wts gq q0 gvn la0 wf t0) (fun j => gft gvn gf ts (nI j) (nI i)) t0))) i)) c0) ctf b0))), (x2, .inr (0, [.ref ka, .ref xa, .ref ya, .ref za, .ref ca, .int (n + 1)])), (ka, .inl (cA 0, 600, .inl (upd kf n.toNatClampNeg 8))), (xa, .inl (cA 0, 600, .inl (upd xf n.toNatClampNeg (x14 - ((cts (fun i => cfi (fun c => decide (pw gp 32 (c + 1) 1 4 = (fun i => tm gp (sb i) (pw gp 32 (p0 - 2) 1 (jgf gp (wts gq q0 gvn la0 wf t0) (fun j => gft gvn gf ts (nI j) (nI i)) t0))) i)) c0) ctf b0) c0))))), (ya, .inl (cA 0, 600, .inl (upd yf n.toNatClampNeg ((cts (fun i => cfi (fun c => decide (pw gp 32 (c + 1) 1 4 = (fun i => tm gp (sb i) (pw gp 32 (p0 - 2) 1 (jgf gp (wts gq q0 gvn la0 wf t0) (fun j => gft gvn gf ts (nI j) (nI i)) t0))) i)) c0) ctf b0) c0)))), (za, .inl (cA 2, 600, .inr (.inl (vp_updL zf n.toNatClampNeg (dg1 (cts (fun i => cfi (fun c => decide (pw gp 32 (c + 1) 1 4 = (fun i => tm gp (sb i) (pw gp 32 (p0 - 2) 1 (jgf gp (wts gq q0 gvn la0 wf t0) (fun j => gft gvn gf ts (nI j) (nI i)) t0))) i)) c0) ctf b0) c0))))), (ca, .inl (cA 2, 600, .inr (.inl (vp_updL cf n.toNatClampNeg (dg (dg (dg (dg (cho cf n (n - 1)) ((8 : Int32).toInt64)) ((x14 - ((cts (fun i => cfi (fun c => decide (pw gp 32 (c + 1) 1 4 = (fun i => tm gp (sb i) (pw gp 32 (p0 - 2) 1 (jgf gp (wts gq q0 gvn la0 wf t0) (fun j => gft gvn gf ts (nI j) (nI i)) t0))) i)) c0) ctf b0) c0)).toInt64)) (((cts (fun i => cfi (fun c => decide (pw gp 32 (c + 1) 1 4 = (fun i => tm gp (sb i) (pw gp 32 (p0 - 2) 1 (jgf gp (wts gq q0 gvn la0 wf t0) (fun j => gft gvn gf ts (nI j) (nI i)) t0))) i)) c0) ctf b0) c0).toInt64)) (dg1 (cts (fun i => cfi (fun c => decide (pw gp 32 (c + 1) 1 4 = (fun i => tm gp (sb i) (pw gp 32 (p0 - 2) 1 (jgf gp (wts gq q0 gvn la0 wf t0) (fun j => gft gvn gf ts (nI j) (nI i)) t0))) i)) c0) ctf b0) c0))))))] ++ (rwT cA ra gf (t0 + 1))) H := hP
          exact W.iret (v := (x14 - ((cts (fun i => cfi (fun c => decide (pw gp 32 (c + 1) 1 4 = (fun i => tm gp (sb i) (pw gp 32 (p0 - 2) 1 (jgf gp (wts gq q0 gvn la0 wf t0) (fun j => gft gvn gf ts (nI j) (nI i)) t0))) i)) c0) ctf b0) c0))) hx hb hr (fun t ht hW => ⟨congrArg (fun z => Outcome.returned (some (Value.int z))) (rfl), by rw [ht]; exact hP9, hS.F ht⟩) hS.2.2 dX7_tally_83
        · exact absurd hok.2.2.2 (bI_0 c_33)

set_option maxHeartbeats 4000000 in
set_option maxRecDepth 100000 in
theorem c_X7_list_no (l : Launch) (D : va_G) (cA : Nat → ClassId) (h0 : Nat) (x0 : Nat) (x1 : Nat) (x2 : Nat) (x3 : Int32) (x4 : Nat) (x5 : Nat) (x6 : Nat) (x7 : Nat) (x8 : Nat) (x9 : Nat) (x10 : Nat) (x11 : Nat) (x12 : Int32) (x13 : Int32) (x14 : Int32) (x15 : Int32) (x16 : Int32) (x17 : Int32) (x18 : Int32) (x19 : Int32) (v : Int32) (i : Int32) (w : Int32) (hno : ¬ ((0 ≤ v ∧ v ≤ x15) ∧ (0 ≤ i ∧ i < x14))) : Met l yX7_list wsX7_list ({ frames := 1, cells := 0, slots := 0, locals := 21 }) (rPc vwCl D cA [(h0, .inr (6, [.ref x0, .ref x1, .ref x2, .int x3, .ref x4, .ref x5, .ref x6, .ref x7, .ref x8, .ref x9, .ref x10, .ref x11, .int x12, .int x13, .int x14, .int x15, .int x16, .int x17, .int x18, .int x19]))] [.ref h0, .int v, .int i, .int w]) (rq_x (some (.int (-1)))) 0 0 (fun _ => False) := by
  refine Met.ofW (cc := cX7_list) (maxL := 4) (ret := (some .int)) (by decide) rfl ?_
  intro p e s m args below meth c s₁ B hml hv
  obtain ⟨rfl, hP, hK⟩ := hv
  have hx := B.exec
  have hb := B.bytes
  have hr := B.returns
  have hts := atoms_spec (ws := wsX7_list) B.pre
  have hown : s.vm.findClass RX7 = some m.cls := findClass_of_methodNamed B.named
  have hlocks := B.notSynchronized
  have hin_X7 : ∀ w ∈ wsX70, w ∈ wsX7_list := fun w h => List.mem_cons_of_mem _ (List.mem_append_left _ (List.mem_append_right _ h))
  have w_RX7_179 := hts (.fieldLink RX7 179 "MixElection" "mixes" "I") (by decide +kernel)
  have hl := lv_entry ([.ref h0, .int v, .int i, .int w]) (n := 4) (Nat.le_of_ble_eq_true rfl)
  rw [lg_entry_eq]
  generalize (lg_sl ([.ref h0, .int v, .int i, .int w]) ++ List.replicate (4 - (lg_sl ([.ref h0, .int v, .int i, .int w])).length) Slot.unset).toArray = ls at hl ⊢
  have hl : lv_has ls 4 [(0, .ref h0), (1, .int v), (2, .int i), (3, .int w)] := hl
  refine lv_iload_n hx hb dX7_list_0 rfl (lv_at hl 1 rfl) ?_
  refine lv_if_lt (tgt := 33) hx hb dX7_list_1 (by decide) (fun c_1 => ?_) (fun c_1 => ?_)
  · skip
    refine lv_iconst (v := (-1)) hx hb dX7_list_33 (by decide) ?_
    exact W.iret (v := (-1)) hx hb hr (fun t ht hW => ⟨congrArg (fun z => Outcome.returned (some (Value.int z))) (rfl), ht⟩) (fun _ h => by cases h) dX7_list_34
  · skip
    refine lv_iload_n hx hb dX7_list_4 rfl (lv_at hl 1 rfl) ?_
    refine lv_aload_n hx hb dX7_list_5 rfl (lv_at hl 0 rfl) ?_
    refine va_get (D := D) (ci := 6) (v := .int x15) (C := RX7) (T := TX7) (N := 20) hx hb hts hin_X7 hown hK hP 0 rfl rfl 15 (by decide) (w_RX7_179) (fun _ h9 => h9) rfl dX7_list_6 ?_
    refine lv_icmp_gt (tgt := 33) hx hb dX7_list_9 (by decide) (fun c_9 => ?_) (fun c_9 => ?_)
    · skip
      refine lv_iconst (v := (-1)) hx hb dX7_list_33 (by decide) ?_
      exact W.iret (v := (-1)) hx hb hr (fun t ht hW => ⟨congrArg (fun z => Outcome.returned (some (Value.int z))) (rfl), ht⟩) (fun _ h => by cases h) dX7_list_34
    · skip
      refine lv_aload_n hx hb dX7_list_12 rfl (lv_at hl 0 rfl) ?_
      refine lv_iload_n hx hb dX7_list_13 rfl (lv_at hl 2 rfl) ?_
      refine rq_call1 (v := .int (bI (0 ≤ i ∧ i < x14))) (rn_V (As := [.int i]) (rest := []) (ci := 6) (fs := [.ref x0, .ref x1, .ref x2, .int x3, .ref x4, .ref x5, .ref x6, .ref x7, .ref x8, .ref x9, .ref x10, .ref x11, .int x12, .int x13, .int x14, .int x15, .int x16, .int x17, .int x18, .int x19]) ⟨hx, hb, hml, hown, hts⟩ (c_X7_isBallot l D cA h0 x0 x1 x2 x3 x4 x5 x6 x7 x8 x9 x10 x11 x12 x13 x14 x15 x16 x17 x18 x19 i) rfl (cwV 1 hts gX7_list_X7_isBallot rfl rfl rfl (by decide +kernel) ⟨Nat.le_of_ble_eq_true rfl, Nat.le_of_ble_eq_true rfl⟩) hK hP [0] rfl rfl rfl hl.1 rfl (Nat.le_of_ble_eq_true rfl) dX7_list_14 ⟨Nat.le_of_ble_eq_true rfl, Nat.le_of_ble_eq_true rfl⟩) ?_
      refine lv_if_eq (tgt := 33) hx hb dX7_list_17 (by decide) (fun c_17 => ?_) (fun c_17 => ?_)
      · skip
        refine lv_iconst (v := (-1)) hx hb dX7_list_33 (by decide) ?_
        exact W.iret (v := (-1)) hx hb hr (fun t ht hW => ⟨congrArg (fun z => Outcome.returned (some (Value.int z))) (rfl), ht⟩) (fun _ h => by cases h) dX7_list_34
      · skip
        exact absurd ⟨⟨Int32.not_lt.mp c_1, Int32.not_lt.mp c_9⟩, bI_1 c_17⟩ hno

set_option maxHeartbeats 4000000 in
set_option maxRecDepth 100000 in
theorem c_X7_list_ok (l : Launch) (D : va_G) (cA : Nat → ClassId) (h0 : Nat) (x0 : Nat) (x1 : Nat) (x2 : Nat) (x3 : Int32) (x4 : Nat) (x5 : Nat) (x6 : Nat) (x7 : Nat) (x8 : Nat) (x9 : Nat) (x10 : Nat) (x11 : Nat) (x12 : Int32) (x13 : Int32) (x14 : Int32) (x15 : Int32) (x16 : Int32) (x17 : Int32) (x18 : Int32) (x19 : Int32) (v : Int32) (i : Int32) (w : Int32) (oa1 : Nat) (ob1 : Nat) (m0 : Nat) (sa : Nat → Int32) (sb : Nat → Int32) (la : Nat → Nat) (hok : (0 ≤ v ∧ v ≤ x15) ∧ (0 ≤ i ∧ i < x14)) (hm : v = nI m0) (hm4 : m0 < 5) : Met l yX7_list wsX7_list ({ frames := 2, cells := 0, slots := 0, locals := 43 }) (rPc vwCl D cA [(h0, .inr (6, [.ref x0, .ref x1, .ref x2, .int x3, .ref x4, .ref x5, .ref x6, .ref x7, .ref x8, .ref x9, .ref x10, .ref x11, .int x12, .int x13, .int x14, .int x15, .int x16, .int x17, .int x18, .int x19])), (x5, .inl (cA 3, 5, .inr (.inr (.inr (.inr (fun k => some (la k))))))), ((la m0), .inr (3, [.ref oa1, .ref ob1])), (oa1, .inl (cA 0, 40, .inl sa)), (ob1, .inl (cA 0, 40, .inl sb))] [.ref h0, .int v, .int i, .int w]) (rq_x (some (.int (prt sa sb i w)))) 0 0 (fun _ => False) := by
  refine Met.ofW (cc := cX7_list) (maxL := 4) (ret := (some .int)) (by decide) rfl ?_
  intro p e s m args below meth c s₁ B hml hv
  obtain ⟨rfl, hP, hK⟩ := hv
  have hx := B.exec
  have hb := B.bytes
  have hr := B.returns
  have hts := atoms_spec (ws := wsX7_list) B.pre
  have hown : s.vm.findClass RX7 = some m.cls := findClass_of_methodNamed B.named
  have hlocks := B.notSynchronized
  have hin_X7 : ∀ w ∈ wsX70, w ∈ wsX7_list := fun w h => List.mem_cons_of_mem _ (List.mem_append_left _ (List.mem_append_right _ h))
  have w_RX7_179 := hts (.fieldLink RX7 179 "MixElection" "mixes" "I") (by decide +kernel)
  have hl := lv_entry ([.ref h0, .int v, .int i, .int w]) (n := 4) (Nat.le_of_ble_eq_true rfl)
  rw [lg_entry_eq]
  generalize (lg_sl ([.ref h0, .int v, .int i, .int w]) ++ List.replicate (4 - (lg_sl ([.ref h0, .int v, .int i, .int w])).length) Slot.unset).toArray = ls at hl ⊢
  have hl : lv_has ls 4 [(0, .ref h0), (1, .int v), (2, .int i), (3, .int w)] := hl
  refine lv_iload_n hx hb dX7_list_0 rfl (lv_at hl 1 rfl) ?_
  refine lv_if_lt (tgt := 33) hx hb dX7_list_1 (by decide) (fun c_1 => ?_) (fun c_1 => ?_)
  · skip
    exact absurd c_1 (Int32.not_lt.mpr hok.1.1)
  · skip
    refine lv_iload_n hx hb dX7_list_4 rfl (lv_at hl 1 rfl) ?_
    refine lv_aload_n hx hb dX7_list_5 rfl (lv_at hl 0 rfl) ?_
    refine va_get (D := D) (ci := 6) (v := .int x15) (C := RX7) (T := TX7) (N := 20) hx hb hts hin_X7 hown hK hP 0 rfl rfl 15 (by decide) (w_RX7_179) (fun _ h9 => h9) rfl dX7_list_6 ?_
    refine lv_icmp_gt (tgt := 33) hx hb dX7_list_9 (by decide) (fun c_9 => ?_) (fun c_9 => ?_)
    · skip
      exact absurd c_9 (Int32.not_lt.mpr hok.1.2)
    · skip
      refine lv_aload_n hx hb dX7_list_12 rfl (lv_at hl 0 rfl) ?_
      refine lv_iload_n hx hb dX7_list_13 rfl (lv_at hl 2 rfl) ?_
      refine rq_call1 (v := .int (bI (0 ≤ i ∧ i < x14))) (rn_V (As := [.int i]) (rest := []) (ci := 6) (fs := [.ref x0, .ref x1, .ref x2, .int x3, .ref x4, .ref x5, .ref x6, .ref x7, .ref x8, .ref x9, .ref x10, .ref x11, .int x12, .int x13, .int x14, .int x15, .int x16, .int x17, .int x18, .int x19]) ⟨hx, hb, hml, hown, hts⟩ (c_X7_isBallot l D cA h0 x0 x1 x2 x3 x4 x5 x6 x7 x8 x9 x10 x11 x12 x13 x14 x15 x16 x17 x18 x19 i) rfl (cwV 1 hts gX7_list_X7_isBallot rfl rfl rfl (by decide +kernel) ⟨Nat.le_of_ble_eq_true rfl, Nat.le_of_ble_eq_true rfl⟩) hK hP [0] rfl rfl rfl hl.1 rfl (Nat.le_of_ble_eq_true rfl) dX7_list_14 ⟨Nat.le_of_ble_eq_true rfl, Nat.le_of_ble_eq_true rfl⟩) ?_
      refine lv_if_eq (tgt := 33) hx hb dX7_list_17 (by decide) (fun c_17 => ?_) (fun c_17 => ?_)
      · skip
        exact absurd hok.2 (bI_0 c_17)
      · skip
        refine lv_aload_n hx hb dX7_list_20 rfl (lv_at hl 0 rfl) ?_
        refine lv_iload_n hx hb dX7_list_21 rfl (lv_at hl 1 rfl) ?_
        refine rq_call1 (v := .ref (la m0)) (rn_V (As := [.int v]) (rest := []) (ci := 6) (fs := [.ref x0, .ref x1, .ref x2, .int x3, .ref x4, .ref x5, .ref x6, .ref x7, .ref x8, .ref x9, .ref x10, .ref x11, .int x12, .int x13, .int x14, .int x15, .int x16, .int x17, .int x18, .int x19]) ⟨hx, hb, hml, hown, hts⟩ (c_X7_listOf l D cA h0 x0 x1 x2 x3 x4 x5 x6 x7 x8 x9 x10 x11 x12 x13 x14 x15 x16 x17 x18 x19 la v m0 hm hm4) rfl (cwV 1 hts gX7_list_X7_listOf rfl rfl rfl (by decide +kernel) ⟨Nat.le_of_ble_eq_true rfl, Nat.le_of_ble_eq_true rfl⟩) hK hP [0, 1] rfl rfl rfl hl.1 rfl (Nat.le_of_ble_eq_true rfl) dX7_list_22 ⟨Nat.le_of_ble_eq_true rfl, Nat.le_of_ble_eq_true rfl⟩) ?_
        refine lv_iload_n hx hb dX7_list_25 rfl (lv_at hl 2 rfl) ?_
        refine lv_iload_n hx hb dX7_list_26 rfl (lv_at hl 3 rfl) ?_
        refine rq_call1 (v := .int (prt sa sb i w)) (rn_V (As := [.int i, .int w]) (rest := []) (ci := 3) (fs := [.ref oa1, .ref ob1]) ⟨hx, hb, hml, hown, hts⟩ (c_X4_part l D cA (la m0) oa1 ob1 sa sb i w) rfl (cwV 2 hts gX7_list_X4_part rfl rfl rfl (by decide +kernel) ⟨Nat.le_of_ble_eq_true rfl, Nat.le_of_ble_eq_true rfl⟩) hK hP [2, 3, 4] rfl rfl rfl hl.1 rfl (Nat.le_of_ble_eq_true rfl) dX7_list_27 ⟨Nat.le_of_ble_eq_true rfl, Nat.le_of_ble_eq_true rfl⟩) ?_
        refine lv_goto (tgt := 34) hx hb dX7_list_30 (by decide) ?_
        exact W.iret (v := (prt sa sb i w)) hx hb hr (fun t ht hW => ⟨congrArg (fun z => Outcome.returned (some (Value.int z))) (rfl), ht⟩) (fun _ h => by cases h) dX7_list_34

set_option maxHeartbeats 4000000 in
set_option maxRecDepth 100000 in
theorem c_X7_shadowOf (l : Launch) (D : va_G) (cA : Nat → ClassId) (h0 : Nat) (x0 : Nat) (x1 : Nat) (x2 : Nat) (x3 : Int32) (x4 : Nat) (x5 : Nat) (x6 : Nat) (x7 : Nat) (x8 : Nat) (x9 : Nat) (x10 : Nat) (x11 : Nat) (x12 : Int32) (x13 : Int32) (x14 : Int32) (x15 : Int32) (x16 : Int32) (x17 : Int32) (x18 : Int32) (x19 : Int32) (i : Int32) (w : Int32) (qya : Nat) (qyb : Nat) (sha : Nat → Int32) (shb : Nat → Int32) : Met l yX7_shadowOf wsX7_shadowOf ({ frames := 2, cells := 0, slots := 0, locals := 43 }) (rPc vwCl D cA [(h0, .inr (6, [.ref x0, .ref x1, .ref x2, .int x3, .ref x4, .ref x5, .ref x6, .ref x7, .ref x8, .ref x9, .ref x10, .ref x11, .int x12, .int x13, .int x14, .int x15, .int x16, .int x17, .int x18, .int x19])), (x6, .inr (3, [.ref qya, .ref qyb])), (qya, .inl (cA 0, 40, .inl sha)), (qyb, .inl (cA 0, 40, .inl shb))] [.ref h0, .int i, .int w]) (rq_x (some (.int (if 0 ≤ i ∧ i < x14 then prt sha shb i w else -1)))) 0 0 (fun _ => False) := by
  refine Met.ofW (cc := cX7_shadowOf) (maxL := 3) (ret := (some .int)) (by decide) rfl ?_
  intro p e s m args below meth c s₁ B hml hv
  obtain ⟨rfl, hP, hK⟩ := hv
  have hx := B.exec
  have hb := B.bytes
  have hr := B.returns
  have hts := atoms_spec (ws := wsX7_shadowOf) B.pre
  have hown : s.vm.findClass RX7 = some m.cls := findClass_of_methodNamed B.named
  have hlocks := B.notSynchronized
  have hin_X7 : ∀ w ∈ wsX70, w ∈ wsX7_shadowOf := fun w h => List.mem_cons_of_mem _ (List.mem_append_left _ (List.mem_append_right _ h))
  have w_RX7_70 := hts (.fieldLink RX7 70 "MixElection" "latestShadow" "LMixElection$Pairs;") (by decide +kernel)
  have hl := lv_entry ([.ref h0, .int i, .int w]) (n := 3) (Nat.le_of_ble_eq_true rfl)
  rw [lg_entry_eq]
  generalize (lg_sl ([.ref h0, .int i, .int w]) ++ List.replicate (3 - (lg_sl ([.ref h0, .int i, .int w])).length) Slot.unset).toArray = ls at hl ⊢
  have hl : lv_has ls 3 [(0, .ref h0), (1, .int i), (2, .int w)] := hl
  refine lv_aload_n hx hb dX7_shadowOf_0 rfl (lv_at hl 0 rfl) ?_
  refine lv_iload_n hx hb dX7_shadowOf_1 rfl (lv_at hl 1 rfl) ?_
  refine rq_call1 (v := .int (bI (0 ≤ i ∧ i < x14))) (rn_V (As := [.int i]) (rest := []) (ci := 6) (fs := [.ref x0, .ref x1, .ref x2, .int x3, .ref x4, .ref x5, .ref x6, .ref x7, .ref x8, .ref x9, .ref x10, .ref x11, .int x12, .int x13, .int x14, .int x15, .int x16, .int x17, .int x18, .int x19]) ⟨hx, hb, hml, hown, hts⟩ (c_X7_isBallot l D cA h0 x0 x1 x2 x3 x4 x5 x6 x7 x8 x9 x10 x11 x12 x13 x14 x15 x16 x17 x18 x19 i) rfl (cwV 1 hts gX7_shadowOf_X7_isBallot rfl rfl rfl (by decide +kernel) ⟨Nat.le_of_ble_eq_true rfl, Nat.le_of_ble_eq_true rfl⟩) hK hP [0] rfl rfl rfl hl.1 rfl (Nat.le_of_ble_eq_true rfl) dX7_shadowOf_2 ⟨Nat.le_of_ble_eq_true rfl, Nat.le_of_ble_eq_true rfl⟩) ?_
  refine lv_if_eq (tgt := 20) hx hb dX7_shadowOf_5 (by decide) (fun c_5 => ?_) (fun c_5 => ?_)
  · skip
    refine lv_iconst (v := (-1)) hx hb dX7_shadowOf_20 (by decide) ?_
    exact W.iret (v := (-1)) hx hb hr (fun t ht hW => ⟨congrArg (fun z => Outcome.returned (some (Value.int z))) ((by rw [if_neg (bI_0 c_5)])), ht⟩) (fun _ h => by cases h) dX7_shadowOf_21
  · skip
    refine lv_aload_n hx hb dX7_shadowOf_8 rfl (lv_at hl 0 rfl) ?_
    refine va_get (D := D) (ci := 6) (v := .ref x6) (C := RX7) (T := TX7) (N := 20) hx hb hts hin_X7 hown hK hP 0 rfl rfl 6 (by decide) (w_RX7_70) (fun _ h9 => h9) rfl dX7_shadowOf_9 ?_
    refine lv_iload_n hx hb dX7_shadowOf_12 rfl (lv_at hl 1 rfl) ?_
    refine lv_iload_n hx hb dX7_shadowOf_13 rfl (lv_at hl 2 rfl) ?_
    refine rq_call1 (v := .int (prt sha shb i w)) (rn_V (As := [.int i, .int w]) (rest := []) (ci := 3) (fs := [.ref qya, .ref qyb]) ⟨hx, hb, hml, hown, hts⟩ (c_X4_part l D cA x6 qya qyb sha shb i w) rfl (cwV 2 hts gX7_shadowOf_X4_part rfl rfl rfl (by decide +kernel) ⟨Nat.le_of_ble_eq_true rfl, Nat.le_of_ble_eq_true rfl⟩) hK hP [1, 2, 3] rfl rfl rfl hl.1 rfl (Nat.le_of_ble_eq_true rfl) dX7_shadowOf_14 ⟨Nat.le_of_ble_eq_true rfl, Nat.le_of_ble_eq_true rfl⟩) ?_
    refine lv_goto (tgt := 21) hx hb dX7_shadowOf_17 (by decide) ?_
    exact W.iret (v := (prt sha shb i w)) hx hb hr (fun t ht hW => ⟨congrArg (fun z => Outcome.returned (some (Value.int z))) ((by rw [if_pos (bI_1 c_5)])), ht⟩) (fun _ h => by cases h) dX7_shadowOf_21

set_option maxHeartbeats 4000000 in
set_option maxRecDepth 100000 in
theorem c_X7_shown (l : Launch) (D : va_G) (cA : Nat → ClassId) (h0 : Nat) (x0 : Nat) (x1 : Nat) (x2 : Nat) (x3 : Int32) (x4 : Nat) (x5 : Nat) (x6 : Nat) (x7 : Nat) (x8 : Nat) (x9 : Nat) (x10 : Nat) (x11 : Nat) (x12 : Int32) (x13 : Int32) (x14 : Int32) (x15 : Int32) (x16 : Int32) (x17 : Int32) (x18 : Int32) (x19 : Int32) (i : Int32) (w : Int32) (wa : Nat) (wb : Nat) (wt : Nat → Int32) (we : Nat → Int32) : Met l yX7_shown wsX7_shown ({ frames := 1, cells := 0, slots := 0, locals := 21 }) (rPc vwCl D cA [(h0, .inr (6, [.ref x0, .ref x1, .ref x2, .int x3, .ref x4, .ref x5, .ref x6, .ref x7, .ref x8, .ref x9, .ref x10, .ref x11, .int x12, .int x13, .int x14, .int x15, .int x16, .int x17, .int x18, .int x19])), (x10, .inr (2, [.ref wa, .ref wb])), (wa, .inl (cA 0, 40, .inl wt)), (wb, .inl (cA 0, 40, .inl we))] [.ref h0, .int i, .int w]) (rq_x (some (.int (if 0 ≤ i ∧ i < x14 then prt wt we i w else -1)))) 0 0 (fun _ => False) := by
  refine Met.ofW (cc := cX7_shown) (maxL := 3) (ret := (some .int)) (by decide) rfl ?_
  intro p e s m args below meth c s₁ B hml hv
  obtain ⟨rfl, hP, hK⟩ := hv
  have hx := B.exec
  have hb := B.bytes
  have hr := B.returns
  have hts := atoms_spec (ws := wsX7_shown) B.pre
  have hown : s.vm.findClass RX7 = some m.cls := findClass_of_methodNamed B.named
  have hlocks := B.notSynchronized
  have hin_X7 : ∀ w ∈ wsX70, w ∈ wsX7_shown := fun w h => List.mem_cons_of_mem _ (List.mem_append_left _ (List.mem_append_right _ h))
  have w_RX7_90 := hts (.fieldLink RX7 90 "MixElection" "shownMoves" "LMixElection$Moves;") (by decide +kernel)
  have hl := lv_entry ([.ref h0, .int i, .int w]) (n := 3) (Nat.le_of_ble_eq_true rfl)
  rw [lg_entry_eq]
  generalize (lg_sl ([.ref h0, .int i, .int w]) ++ List.replicate (3 - (lg_sl ([.ref h0, .int i, .int w])).length) Slot.unset).toArray = ls at hl ⊢
  have hl : lv_has ls 3 [(0, .ref h0), (1, .int i), (2, .int w)] := hl
  refine lv_aload_n hx hb dX7_shown_0 rfl (lv_at hl 0 rfl) ?_
  refine lv_iload_n hx hb dX7_shown_1 rfl (lv_at hl 1 rfl) ?_
  refine rq_call1 (v := .int (bI (0 ≤ i ∧ i < x14))) (rn_V (As := [.int i]) (rest := []) (ci := 6) (fs := [.ref x0, .ref x1, .ref x2, .int x3, .ref x4, .ref x5, .ref x6, .ref x7, .ref x8, .ref x9, .ref x10, .ref x11, .int x12, .int x13, .int x14, .int x15, .int x16, .int x17, .int x18, .int x19]) ⟨hx, hb, hml, hown, hts⟩ (c_X7_isBallot l D cA h0 x0 x1 x2 x3 x4 x5 x6 x7 x8 x9 x10 x11 x12 x13 x14 x15 x16 x17 x18 x19 i) rfl (cwV 1 hts gX7_shown_X7_isBallot rfl rfl rfl (by decide +kernel) ⟨Nat.le_of_ble_eq_true rfl, Nat.le_of_ble_eq_true rfl⟩) hK hP [0] rfl rfl rfl hl.1 rfl (Nat.le_of_ble_eq_true rfl) dX7_shown_2 ⟨Nat.le_of_ble_eq_true rfl, Nat.le_of_ble_eq_true rfl⟩) ?_
  refine lv_if_ne (tgt := 10) hx hb dX7_shown_5 (by decide) (fun c_5 => ?_) (fun c_5 => ?_)
  · skip
    refine lv_iload_n hx hb dX7_shown_10 rfl (lv_at hl 2 rfl) ?_
    by_cases hw0 : w = 0
    · refine lv_lookup (off := 25) (tgt := 36) hx hb dX7_shown_11 (by decide) (by rw [hw0]; decide) (by decide) ?_
      refine lv_aload_n hx hb dX7_shown_36 rfl (lv_at hl 0 rfl) ?_
      refine va_get (D := D) (ci := 6) (v := .ref x10) (C := RX7) (T := TX7) (N := 20) hx hb hts hin_X7 hown hK hP 0 rfl rfl 10 (by decide) (w_RX7_90) (fun _ h9 => h9) rfl dX7_shown_37 ?_
      refine lv_iload_n hx hb dX7_shown_40 rfl (lv_at hl 1 rfl) ?_
      refine rq_call1 (v := .int (g40 wt i)) (rn_V (As := [.int i]) (rest := []) (ci := 2) (fs := [.ref wa, .ref wb]) ⟨hx, hb, hml, hown, hts⟩ (c_X2_target l D cA x10 wa wb wt we i) rfl (cwV 1 hts gX7_shown_X2_target rfl rfl rfl (by decide +kernel) ⟨Nat.le_of_ble_eq_true rfl, Nat.le_of_ble_eq_true rfl⟩) hK hP [1, 2, 3] rfl rfl rfl hl.1 rfl (Nat.le_of_ble_eq_true rfl) dX7_shown_41 ⟨Nat.le_of_ble_eq_true rfl, Nat.le_of_ble_eq_true rfl⟩) ?_
      exact W.iret (v := (g40 wt i)) hx hb hr (fun t ht hW => ⟨congrArg (fun z => Outcome.returned (some (Value.int z))) ((by rw [if_pos (bI_1 c_5), prt, if_pos hw0])), ht⟩) (fun _ h => by cases h) dX7_shown_44
    by_cases hw1 : w = 1
    · refine lv_lookup (off := 34) (tgt := 45) hx hb dX7_shown_11 (by decide) (by rw [hw1]; decide) (by decide) ?_
      refine lv_aload_n hx hb dX7_shown_45 rfl (lv_at hl 0 rfl) ?_
      refine va_get (D := D) (ci := 6) (v := .ref x10) (C := RX7) (T := TX7) (N := 20) hx hb hts hin_X7 hown hK hP 0 rfl rfl 10 (by decide) (w_RX7_90) (fun _ h9 => h9) rfl dX7_shown_46 ?_
      refine lv_iload_n hx hb dX7_shown_49 rfl (lv_at hl 1 rfl) ?_
      refine rq_call1 (v := .int (g40 we i)) (rn_V (As := [.int i]) (rest := []) (ci := 2) (fs := [.ref wa, .ref wb]) ⟨hx, hb, hml, hown, hts⟩ (c_X2_exponent l D cA x10 wa wb wt we i) rfl (cwV 1 hts gX7_shown_X2_exponent rfl rfl rfl (by decide +kernel) ⟨Nat.le_of_ble_eq_true rfl, Nat.le_of_ble_eq_true rfl⟩) hK hP [1, 2, 3] rfl rfl rfl hl.1 rfl (Nat.le_of_ble_eq_true rfl) dX7_shown_50 ⟨Nat.le_of_ble_eq_true rfl, Nat.le_of_ble_eq_true rfl⟩) ?_
      exact W.iret (v := (g40 we i)) hx hb hr (fun t ht hW => ⟨congrArg (fun z => Outcome.returned (some (Value.int z))) ((by rw [if_pos (bI_1 c_5), prt, if_neg hw0, if_pos hw1])), ht⟩) (fun _ h => by cases h) dX7_shown_53
    refine lv_lookup (off := 43) (tgt := 54) hx hb dX7_shown_11 (by decide) (by show Op.lookupswitch.offset [(0, 25), (1, 34)] (43) _ = _; rw [lv_osw hw0 (by decide), lv_osw hw1 (by decide)]; rfl) (by decide) ?_
    refine lv_iconst (v := (-1)) hx hb dX7_shown_54 (by decide) ?_
    exact W.iret (v := (-1)) hx hb hr (fun t ht hW => ⟨congrArg (fun z => Outcome.returned (some (Value.int z))) ((by rw [if_pos (bI_1 c_5), prt, if_neg hw0, if_neg hw1])), ht⟩) (fun _ h => by cases h) dX7_shown_55
  · skip
    refine lv_iconst (v := (-1)) hx hb dX7_shown_8 (by decide) ?_
    exact W.iret (v := (-1)) hx hb hr (fun t ht hW => ⟨congrArg (fun z => Outcome.returned (some (Value.int z))) ((by rw [if_neg (bI_0 c_5)])), ht⟩) (fun _ h => by cases h) dX7_shown_9

set_option maxHeartbeats 4000000 in
set_option maxRecDepth 100000 in
theorem c_X7_given (l : Launch) (D : va_G) (cA : Nat → ClassId) (h0 : Nat) (x0 : Nat) (x1 : Nat) (x2 : Nat) (x3 : Int32) (x4 : Nat) (x5 : Nat) (x6 : Nat) (x7 : Nat) (x8 : Nat) (x9 : Nat) (x10 : Nat) (x11 : Nat) (x12 : Int32) (x13 : Int32) (x14 : Int32) (x15 : Int32) (x16 : Int32) (x17 : Int32) (x18 : Int32) (x19 : Int32) (ts : Int32) (tk : Int32) (tco : Nat) (t4 : Nat) (t5 : Nat) (t6 : Nat) (tv : Int32) (j : Int32) (i : Int32) (ra : Nat) (t0 : Nat) (gvn : Nat → Int32) (gf : Nat → Nat → Int32) (hts0 : ts = nI t0) (ht5 : t0 ≤ 5) : Met l yX7_given wsX7_given ({ frames := 3, cells := 0, slots := 0, locals := 64 }) (rPc vwCl D cA ([(h0, .inr (6, [.ref x0, .ref x1, .ref x2, .int x3, .ref x4, .ref x5, .ref x6, .ref x7, .ref x8, .ref x9, .ref x10, .ref x11, .int x12, .int x13, .int x14, .int x15, .int x16, .int x17, .int x18, .int x19])), (x1, .inr (5, [.ref x0, .int ts, .int tk, .ref tco, .ref t4, .ref t5, .ref t6, .int tv])), (t4, .inl (cA 1, (t0 + 1), .inl gvn)), (t5, .inl (cA 4, (t0 + 1), .inr (.inr (.inr (.inr (fun k => some (ra + k)))))))] ++ (rwT cA ra gf (t0 + 1))) [.ref h0, .int j, .int i]) (rq_x (some (.int (if 0 ≤ i ∧ i < x14 then gft gvn gf ts j i else -1)))) 0 0 (fun _ => False) := by
  refine Met.ofW (cc := cX7_given) (maxL := 3) (ret := (some .int)) (by decide) rfl ?_
  intro p e s m args below meth c s₁ B hml hv
  obtain ⟨rfl, hP, hK⟩ := hv
  have hx := B.exec
  have hb := B.bytes
  have hr := B.returns
  have hts := atoms_spec (ws := wsX7_given) B.pre
  have hown : s.vm.findClass RX7 = some m.cls := findClass_of_methodNamed B.named
  have hlocks := B.notSynchronized
  have hin_X7 : ∀ w ∈ wsX70, w ∈ wsX7_given := fun w h => List.mem_cons_of_mem _ (List.mem_append_left _ (List.mem_append_right _ h))
  have w_RX7_48 := hts (.fieldLink RX7 48 "MixElection" "trustees" "LMixElection$Trustees;") (by decide +kernel)
  have hl := lv_entry ([.ref h0, .int j, .int i]) (n := 3) (Nat.le_of_ble_eq_true rfl)
  rw [lg_entry_eq]
  generalize (lg_sl ([.ref h0, .int j, .int i]) ++ List.replicate (3 - (lg_sl ([.ref h0, .int j, .int i])).length) Slot.unset).toArray = ls at hl ⊢
  have hl : lv_has ls 3 [(0, .ref h0), (1, .int j), (2, .int i)] := hl
  refine lv_aload_n hx hb dX7_given_0 rfl (lv_at hl 0 rfl) ?_
  refine lv_iload_n hx hb dX7_given_1 rfl (lv_at hl 2 rfl) ?_
  refine rq_call1 (v := .int (bI (0 ≤ i ∧ i < x14))) (rn_V (As := [.int i]) (rest := []) (ci := 6) (fs := [.ref x0, .ref x1, .ref x2, .int x3, .ref x4, .ref x5, .ref x6, .ref x7, .ref x8, .ref x9, .ref x10, .ref x11, .int x12, .int x13, .int x14, .int x15, .int x16, .int x17, .int x18, .int x19]) ⟨hx, hb, hml, hown, hts⟩ (c_X7_isBallot l D cA h0 x0 x1 x2 x3 x4 x5 x6 x7 x8 x9 x10 x11 x12 x13 x14 x15 x16 x17 x18 x19 i) rfl (cwV 1 hts gX7_given_X7_isBallot rfl rfl rfl (by decide +kernel) ⟨Nat.le_of_ble_eq_true rfl, Nat.le_of_ble_eq_true rfl⟩) hK hP [0] rfl rfl rfl hl.1 rfl (Nat.le_of_ble_eq_true rfl) dX7_given_2 ⟨Nat.le_of_ble_eq_true rfl, Nat.le_of_ble_eq_true rfl⟩) ?_
  refine lv_if_eq (tgt := 20) hx hb dX7_given_5 (by decide) (fun c_5 => ?_) (fun c_5 => ?_)
  · skip
    refine lv_iconst (v := (-1)) hx hb dX7_given_20 (by decide) ?_
    exact W.iret (v := (-1)) hx hb hr (fun t ht hW => ⟨congrArg (fun z => Outcome.returned (some (Value.int z))) ((by rw [if_neg (bI_0 c_5)])), ht⟩) (fun _ h => by cases h) dX7_given_21
  · skip
    refine lv_aload_n hx hb dX7_given_8 rfl (lv_at hl 0 rfl) ?_
    refine va_get (D := D) (ci := 6) (v := .ref x1) (C := RX7) (T := TX7) (N := 20) hx hb hts hin_X7 hown hK hP 0 rfl rfl 1 (by decide) (w_RX7_48) (fun _ h9 => h9) rfl dX7_given_9 ?_
    refine lv_iload_n hx hb dX7_given_12 rfl (lv_at hl 1 rfl) ?_
    refine lv_iload_n hx hb dX7_given_13 rfl (lv_at hl 2 rfl) ?_
    refine rq_call1 (v := .int (gft gvn gf ts j i)) (rn_VT (As := [.int j, .int i]) (rest := []) (ci := 5) (fs := [.ref x0, .int ts, .int tk, .ref tco, .ref t4, .ref t5, .ref t6, .int tv]) (X := [(h0, .inr (6, [.ref x0, .ref x1, .ref x2, .int x3, .ref x4, .ref x5, .ref x6, .ref x7, .ref x8, .ref x9, .ref x10, .ref x11, .int x12, .int x13, .int x14, .int x15, .int x16, .int x17, .int x18, .int x19])), (x1, .inr (5, [.ref x0, .int ts, .int tk, .ref tco, .ref t4, .ref t5, .ref t6, .int tv])), (t4, .inl (cA 1, (t0 + 1), .inl gvn)), (t5, .inl (cA 4, (t0 + 1), .inr (.inr (.inr (.inr (fun k => some (ra + k)))))))]) (cx := [(x1, .inr (5, [.ref x0, .int ts, .int tk, .ref tco, .ref t4, .ref t5, .ref t6, .int tv])), (t4, .inl (cA 1, (t0 + 1), .inl gvn)), (t5, .inl (cA 4, (t0 + 1), .inr (.inr (.inr (.inr (fun k => some (ra + k)))))))]) (pl := (rwT cA ra gf (t0 + 1))) ⟨hx, hb, hml, hown, hts⟩ (c_X6_gift l D cA x1 x0 ts tk tco t4 t5 t6 tv gvn gf ra t0 j i hts0 ht5) rfl (cwV 2 hts gX7_given_X6_gift rfl rfl rfl (by decide +kernel) ⟨Nat.le_of_ble_eq_true rfl, Nat.le_of_ble_eq_true rfl⟩) hK hP [1, 2, 3] rfl rfl rfl hl.1 rfl (Nat.le_of_ble_eq_true rfl) dX7_given_14 ⟨Nat.le_of_ble_eq_true rfl, Nat.le_of_ble_eq_true rfl⟩) ?_
    refine lv_goto (tgt := 21) hx hb dX7_given_17 (by decide) ?_
    exact W.iret (v := (gft gvn gf ts j i)) hx hb hr (fun t ht hW => ⟨congrArg (fun z => Outcome.returned (some (Value.int z))) ((by rw [if_pos (bI_1 c_5)])), ht⟩) (fun _ h => by cases h) dX7_given_21

set_option maxHeartbeats 4000000 in
set_option maxRecDepth 100000 in
theorem c_X7_entry (l : Launch) (D : va_G) (cA : Nat → ClassId) (h0 : Nat) (x0 : Nat) (x1 : Nat) (x2 : Nat) (x3 : Int32) (x4 : Nat) (x5 : Nat) (x6 : Nat) (x7 : Nat) (x8 : Nat) (x9 : Nat) (x10 : Nat) (x11 : Nat) (x12 : Int32) (x13 : Int32) (x14 : Int32) (x15 : Int32) (x16 : Int32) (x17 : Int32) (x18 : Int32) (x19 : Int32) (ka : Nat) (xa : Nat) (ya : Nat) (za : Nat) (ca : Nat) (n : Int32) (i : Int32) (w : Int32) (kf : Nat → Int32) (xf : Nat → Int32) (yf : Nat → Int32) (zf : Nat → Int64) (n0 : Nat) (hn : n = nI n0) (h6 : n0 ≤ 600) : Met l yX7_entry wsX7_entry ({ frames := 2, cells := 0, slots := 0, locals := 43 }) (rPc vwCl D cA [(h0, .inr (6, [.ref x0, .ref x1, .ref x2, .int x3, .ref x4, .ref x5, .ref x6, .ref x7, .ref x8, .ref x9, .ref x10, .ref x11, .int x12, .int x13, .int x14, .int x15, .int x16, .int x17, .int x18, .int x19])), (x2, .inr (0, [.ref ka, .ref xa, .ref ya, .ref za, .ref ca, .int n])), (ka, .inl (cA 0, 600, .inl kf)), (xa, .inl (cA 0, 600, .inl xf)), (ya, .inl (cA 0, 600, .inl yf)), (za, .inl (cA 2, 600, .inr (.inl zf)))] [.ref h0, .int i, .int w]) (rq_x (some (.long (fldv kf xf yf zf n i w)))) 0 0 (fun _ => False) := by
  refine Met.ofW (cc := cX7_entry) (maxL := 3) (ret := (some .long)) (by decide) rfl ?_
  intro p e s m args below meth c s₁ B hml hv
  obtain ⟨rfl, hP, hK⟩ := hv
  have hx := B.exec
  have hb := B.bytes
  have hr := B.returns
  have hts := atoms_spec (ws := wsX7_entry) B.pre
  have hown : s.vm.findClass RX7 = some m.cls := findClass_of_methodNamed B.named
  have hlocks := B.notSynchronized
  have hin_X7 : ∀ w ∈ wsX70, w ∈ wsX7_entry := fun w h => List.mem_cons_of_mem _ (List.mem_append_left _ (List.mem_append_right _ h))
  have w_RX7_55 := hts (.fieldLink RX7 55 "MixElection" "board" "LMixElection$Board;") (by decide +kernel)
  have hl := lv_entry ([.ref h0, .int i, .int w]) (n := 3) (Nat.le_of_ble_eq_true rfl)
  rw [lg_entry_eq]
  generalize (lg_sl ([.ref h0, .int i, .int w]) ++ List.replicate (3 - (lg_sl ([.ref h0, .int i, .int w])).length) Slot.unset).toArray = ls at hl ⊢
  have hl : lv_has ls 3 [(0, .ref h0), (1, .int i), (2, .int w)] := hl
  refine lv_aload_n hx hb dX7_entry_0 rfl (lv_at hl 0 rfl) ?_
  refine va_get (D := D) (ci := 6) (v := .ref x2) (C := RX7) (T := TX7) (N := 20) hx hb hts hin_X7 hown hK hP 0 rfl rfl 2 (by decide) (w_RX7_55) (fun _ h9 => h9) rfl dX7_entry_1 ?_
  refine lv_iload_n hx hb dX7_entry_4 rfl (lv_at hl 1 rfl) ?_
  refine lv_iload_n hx hb dX7_entry_5 rfl (lv_at hl 2 rfl) ?_
  refine rq_call1 (v := .long (fldv kf xf yf zf n i w)) (rn_V (As := [.int i, .int w]) (rest := []) (ci := 0) (fs := [.ref ka, .ref xa, .ref ya, .ref za, .ref ca, .int n]) ⟨hx, hb, hml, hown, hts⟩ (c_X0_field l D cA x2 ka xa ya za ca n i w kf xf yf zf n0 hn h6) rfl (cwV 2 hts gX7_entry_X0_field rfl rfl rfl (by decide +kernel) ⟨Nat.le_of_ble_eq_true rfl, Nat.le_of_ble_eq_true rfl⟩) hK hP [1, 2, 3, 4, 5] rfl rfl rfl hl.1 rfl (Nat.le_of_ble_eq_true rfl) dX7_entry_6 ⟨Nat.le_of_ble_eq_true rfl, Nat.le_of_ble_eq_true rfl⟩) ?_
  exact W.lret (v := (fldv kf xf yf zf n i w)) hx hb hr (fun t ht hW => ⟨congrArg (fun z => Outcome.returned (some (Value.long z))) (rfl), ht⟩) (fun _ h => by cases h) dX7_entry_9

set_option maxHeartbeats 4000000 in
set_option maxRecDepth 100000 in
theorem c_X7_chain (l : Launch) (D : va_G) (cA : Nat → ClassId) (h0 : Nat) (x0 : Nat) (x1 : Nat) (x2 : Nat) (x3 : Int32) (x4 : Nat) (x5 : Nat) (x6 : Nat) (x7 : Nat) (x8 : Nat) (x9 : Nat) (x10 : Nat) (x11 : Nat) (x12 : Int32) (x13 : Int32) (x14 : Int32) (x15 : Int32) (x16 : Int32) (x17 : Int32) (x18 : Int32) (x19 : Int32) (ka : Nat) (xa : Nat) (ya : Nat) (za : Nat) (ca : Nat) (n : Int32) (i : Int32) (cf : Nat → Int64) (n0 : Nat) (hn : n = nI n0) (h6 : n0 ≤ 600) : Met l yX7_chain wsX7_chain ({ frames := 2, cells := 0, slots := 0, locals := 42 }) (rPc vwCl D cA [(h0, .inr (6, [.ref x0, .ref x1, .ref x2, .int x3, .ref x4, .ref x5, .ref x6, .ref x7, .ref x8, .ref x9, .ref x10, .ref x11, .int x12, .int x13, .int x14, .int x15, .int x16, .int x17, .int x18, .int x19])), (x2, .inr (0, [.ref ka, .ref xa, .ref ya, .ref za, .ref ca, .int n])), (ca, .inl (cA 2, 600, .inr (.inl cf)))] [.ref h0, .int i]) (rq_x (some (.long (cho cf n i)))) 0 0 (fun _ => False) := by
  refine Met.ofW (cc := cX7_chain) (maxL := 2) (ret := (some .long)) (by decide) rfl ?_
  intro p e s m args below meth c s₁ B hml hv
  obtain ⟨rfl, hP, hK⟩ := hv
  have hx := B.exec
  have hb := B.bytes
  have hr := B.returns
  have hts := atoms_spec (ws := wsX7_chain) B.pre
  have hown : s.vm.findClass RX7 = some m.cls := findClass_of_methodNamed B.named
  have hlocks := B.notSynchronized
  have hin_X7 : ∀ w ∈ wsX70, w ∈ wsX7_chain := fun w h => List.mem_cons_of_mem _ (List.mem_append_left _ (List.mem_append_right _ h))
  have w_RX7_55 := hts (.fieldLink RX7 55 "MixElection" "board" "LMixElection$Board;") (by decide +kernel)
  have hl := lv_entry ([.ref h0, .int i]) (n := 2) (Nat.le_of_ble_eq_true rfl)
  rw [lg_entry_eq]
  generalize (lg_sl ([.ref h0, .int i]) ++ List.replicate (2 - (lg_sl ([.ref h0, .int i])).length) Slot.unset).toArray = ls at hl ⊢
  have hl : lv_has ls 2 [(0, .ref h0), (1, .int i)] := hl
  refine lv_aload_n hx hb dX7_chain_0 rfl (lv_at hl 0 rfl) ?_
  refine va_get (D := D) (ci := 6) (v := .ref x2) (C := RX7) (T := TX7) (N := 20) hx hb hts hin_X7 hown hK hP 0 rfl rfl 2 (by decide) (w_RX7_55) (fun _ h9 => h9) rfl dX7_chain_1 ?_
  refine lv_iload_n hx hb dX7_chain_4 rfl (lv_at hl 1 rfl) ?_
  refine rq_call1 (v := .long (cho cf n i)) (rn_V (As := [.int i]) (rest := []) (ci := 0) (fs := [.ref ka, .ref xa, .ref ya, .ref za, .ref ca, .int n]) ⟨hx, hb, hml, hown, hts⟩ (c_X0_chainOf l D cA x2 ka xa ya za ca n i cf n0 hn h6) rfl (cwV 1 hts gX7_chain_X0_chainOf rfl rfl rfl (by decide +kernel) ⟨Nat.le_of_ble_eq_true rfl, Nat.le_of_ble_eq_true rfl⟩) hK hP [1, 2] rfl rfl rfl hl.1 rfl (Nat.le_of_ble_eq_true rfl) dX7_chain_5 ⟨Nat.le_of_ble_eq_true rfl, Nat.le_of_ble_eq_true rfl⟩) ?_
  exact W.lret (v := (cho cf n i)) hx hb hr (fun t ht hW => ⟨congrArg (fun z => Outcome.returned (some (Value.long z))) (rfl), ht⟩) (fun _ h => by cases h) dX7_chain_8

set_option maxHeartbeats 4000000 in
set_option maxRecDepth 100000 in
theorem c_X7_aboutStaging (l : Launch) (D : va_G) (cA : Nat → ClassId) (h0 : Nat) (x0 : Nat) (x1 : Nat) (x2 : Nat) (x3 : Int32) (x4 : Nat) (x5 : Nat) (x6 : Nat) (x7 : Nat) (x8 : Nat) (x9 : Nat) (x10 : Nat) (x11 : Nat) (x12 : Int32) (x13 : Int32) (x14 : Int32) (x15 : Int32) (x16 : Int32) (x17 : Int32) (x18 : Int32) (x19 : Int32) (mo : Nat) (ma : Nat) (mb : Nat) (fo : Nat) (b0 : Nat) (mt : Nat → Int32) (me : Nat → Int32) (hnb : x14 = nI b0) (hb4 : b0 ≤ 40) (hrg : ∀ i : Nat, i < b0 → mt i = -1 ∨ (nn (mt i) ∧ nt mt i < 40)) : Met l yX7_aboutStaging wsX7_aboutStaging ({ frames := 3, cells := 0, slots := 0, locals := 68 }) (rPc vwCl D cA [(h0, .inr (6, [.ref x0, .ref x1, .ref x2, .int x3, .ref x4, .ref x5, .ref x6, .ref x7, .ref x8, .ref x9, .ref x10, .ref x11, .int x12, .int x13, .int x14, .int x15, .int x16, .int x17, .int x18, .int x19])), (x7, .inr (4, [.ref mo, .ref fo])), (mo, .inr (2, [.ref ma, .ref mb])), (ma, .inl (cA 0, 40, .inl mt)), (mb, .inl (cA 0, 40, .inl me))] [.ref h0]) (rq_x (some (.int (if x12 = 2 then bI (whl mt b0) else -1)))) 0 0 (fun _ => False) := by
  refine Met.ofW (cc := cX7_aboutStaging) (maxL := 1) (ret := (some .int)) (by decide) rfl ?_
  intro p e s m args below meth c s₁ B hml hv
  obtain ⟨rfl, hP, hK⟩ := hv
  have hx := B.exec
  have hb := B.bytes
  have hr := B.returns
  have hts := atoms_spec (ws := wsX7_aboutStaging) B.pre
  have hown : s.vm.findClass RX7 = some m.cls := findClass_of_methodNamed B.named
  have hlocks := B.notSynchronized
  have hin_X7 : ∀ w ∈ wsX70, w ∈ wsX7_aboutStaging := fun w h => List.mem_cons_of_mem _ (List.mem_append_left _ (List.mem_append_left _ (List.mem_append_right _ h)))
  have w_RX7_97 := hts (.fieldLink RX7 97 "MixElection" "stage" "I") (by decide +kernel)
  have w_RX7_76 := hts (.fieldLink RX7 76 "MixElection" "staging" "LMixElection$Staging;") (by decide +kernel)
  have w_RX7_158 := hts (.fieldLink RX7 158 "MixElection" "ballots" "I") (by decide +kernel)
  have hl := lv_entry ([.ref h0]) (n := 1) (Nat.le_of_ble_eq_true rfl)
  rw [lg_entry_eq]
  generalize (lg_sl ([.ref h0]) ++ List.replicate (1 - (lg_sl ([.ref h0])).length) Slot.unset).toArray = ls at hl ⊢
  have hl : lv_has ls 1 [(0, .ref h0)] := hl
  refine lv_aload_n hx hb dX7_aboutStaging_0 rfl (lv_at hl 0 rfl) ?_
  refine va_get (D := D) (ci := 6) (v := .int x12) (C := RX7) (T := TX7) (N := 20) hx hb hts hin_X7 hown hK hP 0 rfl rfl 12 (by decide) (w_RX7_97) (fun _ h9 => h9) rfl dX7_aboutStaging_1 ?_
  refine lv_iconst (v := 2) hx hb dX7_aboutStaging_4 (by decide) ?_
  refine lv_icmp_eq (tgt := 10) hx hb dX7_aboutStaging_5 (by decide) (fun c_5 => ?_) (fun c_5 => ?_)
  · skip
    refine lv_aload_n hx hb dX7_aboutStaging_10 rfl (lv_at hl 0 rfl) ?_
    refine va_get (D := D) (ci := 6) (v := .ref x7) (C := RX7) (T := TX7) (N := 20) hx hb hts hin_X7 hown hK hP 0 rfl rfl 7 (by decide) (w_RX7_76) (fun _ h9 => h9) rfl dX7_aboutStaging_11 ?_
    refine lv_aload_n hx hb dX7_aboutStaging_14 rfl (lv_at hl 0 rfl) ?_
    refine va_get (D := D) (ci := 6) (v := .int x14) (C := RX7) (T := TX7) (N := 20) hx hb hts hin_X7 hown hK hP 0 rfl rfl 14 (by decide) (w_RX7_158) (fun _ h9 => h9) rfl dX7_aboutStaging_15 ?_
    refine rq_call1 (v := .int (bI (whl mt b0))) (rn_V (As := [.int x14]) (rest := []) (ci := 4) (fs := [.ref mo, .ref fo]) ⟨hx, hb, hml, hown, hts⟩ (c_X5_isWhole l D cA x7 mo ma mb fo mt me x14 b0 hnb hb4 hrg) rfl (cwV 1 hts gX7_aboutStaging_X5_isWhole rfl rfl rfl (by decide +kernel) ⟨Nat.le_of_ble_eq_true rfl, Nat.le_of_ble_eq_true rfl⟩) hK hP [1, 2, 3, 4] rfl rfl rfl hl.1 rfl (Nat.le_of_ble_eq_true rfl) dX7_aboutStaging_18 ⟨Nat.le_of_ble_eq_true rfl, Nat.le_of_ble_eq_true rfl⟩) ?_
    refine lv_if_eq (tgt := 28) hx hb dX7_aboutStaging_21 (by decide) (fun c_21 => ?_) (fun c_21 => ?_)
    · skip
      refine lv_iconst (v := 0) hx hb dX7_aboutStaging_28 (by decide) ?_
      exact W.iret (v := 0) hx hb hr (fun t ht hW => ⟨congrArg (fun z => Outcome.returned (some (Value.int z))) ((by rw [if_pos c_5]; exact c_21.symm)), ht⟩) (fun _ h => by cases h) dX7_aboutStaging_29
    · skip
      refine lv_iconst (v := 1) hx hb dX7_aboutStaging_24 (by decide) ?_
      refine lv_goto (tgt := 29) hx hb dX7_aboutStaging_25 (by decide) ?_
      exact W.iret (v := 1) hx hb hr (fun t ht hW => ⟨congrArg (fun z => Outcome.returned (some (Value.int z))) ((by rw [if_pos c_5]; exact (bI_is1 c_21).symm)), ht⟩) (fun _ h => by cases h) dX7_aboutStaging_29
  · skip
    refine lv_iconst (v := (-1)) hx hb dX7_aboutStaging_8 (by decide) ?_
    exact W.iret (v := (-1)) hx hb hr (fun t ht hW => ⟨congrArg (fun z => Outcome.returned (some (Value.int z))) ((by rw [if_neg c_5])), ht⟩) (fun _ h => by cases h) dX7_aboutStaging_9

set_option maxHeartbeats 4000000 in
set_option maxRecDepth 100000 in
theorem c_X7_about (l : Launch) (D : va_G) (cA : Nat → ClassId) (h0 : Nat) (x0 : Nat) (x1 : Nat) (x2 : Nat) (x3 : Int32) (x4 : Nat) (x5 : Nat) (x6 : Nat) (x7 : Nat) (x8 : Nat) (x9 : Nat) (x10 : Nat) (x11 : Nat) (x12 : Int32) (x13 : Int32) (x14 : Int32) (x15 : Int32) (x16 : Int32) (x17 : Int32) (x18 : Int32) (x19 : Int32) (ts : Int32) (tk : Int32) (tco : Nat) (t4 : Nat) (t5 : Nat) (t6 : Nat) (tv : Int32) (gp : Int32) (gq : Int32) (gh : Int32) (ka : Nat) (xa : Nat) (ya : Nat) (za : Nat) (ca : Nat) (n : Int32) (wh : Int32) (mo : Nat) (ma : Nat) (mb : Nat) (fo : Nat) (b0 : Nat) (mt : Nat → Int32) (me : Nat → Int32) (hnb : x14 = nI b0) (hb4 : b0 ≤ 40) (hrg : ∀ i : Nat, i < b0 → mt i = -1 ∨ (nn (mt i) ∧ nt mt i < 40)) : Met l yX7_about wsX7_about ({ frames := 4, cells := 0, slots := 0, locals := 88 }) (rPc vwCl D cA [(h0, .inr (6, [.ref x0, .ref x1, .ref x2, .int x3, .ref x4, .ref x5, .ref x6, .ref x7, .ref x8, .ref x9, .ref x10, .ref x11, .int x12, .int x13, .int x14, .int x15, .int x16, .int x17, .int x18, .int x19])), (x1, .inr (5, [.ref x0, .int ts, .int tk, .ref tco, .ref t4, .ref t5, .ref t6, .int tv])), (x0, .inr (1, [.int gp, .int gq, .int gh])), (x2, .inr (0, [.ref ka, .ref xa, .ref ya, .ref za, .ref ca, .int n])), (x7, .inr (4, [.ref mo, .ref fo])), (mo, .inr (2, [.ref ma, .ref mb])), (ma, .inl (cA 0, 40, .inl mt)), (mb, .inl (cA 0, 40, .inl me))] [.ref h0, .int wh]) (rq_x (some (.int (abv wh [gp, gq, gh, x3, ts, tk, x13, x12, n, (if x12 < 2 then -1 else x14), x15, x17, x18, tv, (if x19 = 0 then 0 else 1), (if x12 = 2 then bI (whl mt b0) else -1)])))) 0 0 (fun _ => False) := by
  refine Met.ofW (cc := cX7_about) (maxL := 2) (ret := (some .int)) (by decide) rfl ?_
  intro p e s m args below meth c s₁ B hml hv
  obtain ⟨rfl, hP, hK⟩ := hv
  have hx := B.exec
  have hb := B.bytes
  have hr := B.returns
  have hts := atoms_spec (ws := wsX7_about) B.pre
  have hown : s.vm.findClass RX7 = some m.cls := findClass_of_methodNamed B.named
  have hlocks := B.notSynchronized
  have hin_X7 : ∀ w ∈ wsX70, w ∈ wsX7_about := fun w h => List.mem_cons_of_mem _ (List.mem_append_left _ (List.mem_append_left _ (List.mem_append_left _ (List.mem_append_left _ (List.mem_append_left _ (List.mem_append_right _ h))))))
  have w_RX7_25 := hts (.fieldLink RX7 25 "MixElection" "group" "LMixElection$Group;") (by decide +kernel)
  have w_RX7_39 := hts (.fieldLink RX7 39 "MixElection" "candidates" "I") (by decide +kernel)
  have w_RX7_48 := hts (.fieldLink RX7 48 "MixElection" "trustees" "LMixElection$Trustees;") (by decide +kernel)
  have w_RX7_123 := hts (.fieldLink RX7 123 "MixElection" "voters" "I") (by decide +kernel)
  have w_RX7_97 := hts (.fieldLink RX7 97 "MixElection" "stage" "I") (by decide +kernel)
  have w_RX7_55 := hts (.fieldLink RX7 55 "MixElection" "board" "LMixElection$Board;") (by decide +kernel)
  have w_RX7_158 := hts (.fieldLink RX7 158 "MixElection" "ballots" "I") (by decide +kernel)
  have w_RX7_179 := hts (.fieldLink RX7 179 "MixElection" "mixes" "I") (by decide +kernel)
  have w_RX7_190 := hts (.fieldLink RX7 190 "MixElection" "rounds" "I") (by decide +kernel)
  have w_RX7_206 := hts (.fieldLink RX7 206 "MixElection" "rejectedRounds" "I") (by decide +kernel)
  have w_RX7_196 := hts (.fieldLink RX7 196 "MixElection" "coinIsDue" "Z") (by decide +kernel)
  have hl := lv_entry ([.ref h0, .int wh]) (n := 2) (Nat.le_of_ble_eq_true rfl)
  rw [lg_entry_eq]
  generalize (lg_sl ([.ref h0, .int wh]) ++ List.replicate (2 - (lg_sl ([.ref h0, .int wh])).length) Slot.unset).toArray = ls at hl ⊢
  have hl : lv_has ls 2 [(0, .ref h0), (1, .int wh)] := hl
  refine lv_iload_n hx hb dX7_about_0 rfl (lv_at hl 1 rfl) ?_
  rcases sw_16 wh with rfl | rfl | rfl | rfl | rfl | rfl | rfl | rfl | rfl | rfl | rfl | rfl | rfl | rfl | rfl | rfl | hsw
  · refine lv_tableIn (off := 79) (tgt := 80) hx hb dX7_about_1 (by decide) (by decide) (by decide) (by decide) ?_
    refine lv_aload_n hx hb dX7_about_80 rfl (lv_at hl 0 rfl) ?_
    refine va_get (D := D) (ci := 6) (v := .ref x0) (C := RX7) (T := TX7) (N := 20) hx hb hts hin_X7 hown hK hP 0 rfl rfl 0 (by decide) (w_RX7_25) (fun _ h9 => h9) rfl dX7_about_81 ?_
    refine rq_call1 (v := .int gp) (rn_V (As := []) (rest := []) (ci := 1) (fs := [.int gp, .int gq, .int gh]) ⟨hx, hb, hml, hown, hts⟩ (c_X1_modulus l D cA x0 gp gq gh) rfl (cwV 0 hts gX7_about_X1_modulus rfl rfl rfl (by decide +kernel) ⟨Nat.le_of_ble_eq_true rfl, Nat.le_of_ble_eq_true rfl⟩) hK hP [2] rfl rfl rfl hl.1 rfl (Nat.le_of_ble_eq_true rfl) dX7_about_84 ⟨Nat.le_of_ble_eq_true rfl, Nat.le_of_ble_eq_true rfl⟩) ?_
    exact W.iret (v := gp) hx hb hr (fun t ht hW => ⟨congrArg (fun z => Outcome.returned (some (Value.int z))) (rfl), ht⟩) (fun _ h => by cases h) dX7_about_87
  · refine lv_tableIn (off := 87) (tgt := 88) hx hb dX7_about_1 (by decide) (by decide) (by decide) (by decide) ?_
    refine lv_aload_n hx hb dX7_about_88 rfl (lv_at hl 0 rfl) ?_
    refine va_get (D := D) (ci := 6) (v := .ref x0) (C := RX7) (T := TX7) (N := 20) hx hb hts hin_X7 hown hK hP 0 rfl rfl 0 (by decide) (w_RX7_25) (fun _ h9 => h9) rfl dX7_about_89 ?_
    refine rq_call1 (v := .int gq) (rn_V (As := []) (rest := []) (ci := 1) (fs := [.int gp, .int gq, .int gh]) ⟨hx, hb, hml, hown, hts⟩ (c_X1_order l D cA x0 gp gq gh) rfl (cwV 0 hts gX7_about_X1_order rfl rfl rfl (by decide +kernel) ⟨Nat.le_of_ble_eq_true rfl, Nat.le_of_ble_eq_true rfl⟩) hK hP [2] rfl rfl rfl hl.1 rfl (Nat.le_of_ble_eq_true rfl) dX7_about_92 ⟨Nat.le_of_ble_eq_true rfl, Nat.le_of_ble_eq_true rfl⟩) ?_
    exact W.iret (v := gq) hx hb hr (fun t ht hW => ⟨congrArg (fun z => Outcome.returned (some (Value.int z))) (rfl), ht⟩) (fun _ h => by cases h) dX7_about_95
  · refine lv_tableIn (off := 95) (tgt := 96) hx hb dX7_about_1 (by decide) (by decide) (by decide) (by decide) ?_
    refine lv_aload_n hx hb dX7_about_96 rfl (lv_at hl 0 rfl) ?_
    refine va_get (D := D) (ci := 6) (v := .ref x0) (C := RX7) (T := TX7) (N := 20) hx hb hts hin_X7 hown hK hP 0 rfl rfl 0 (by decide) (w_RX7_25) (fun _ h9 => h9) rfl dX7_about_97 ?_
    refine rq_call1 (v := .int gh) (rn_V (As := []) (rest := []) (ci := 1) (fs := [.int gp, .int gq, .int gh]) ⟨hx, hb, hml, hown, hts⟩ (c_X1_publicKey l D cA x0 gp gq gh) rfl (cwV 0 hts gX7_about_X1_publicKey rfl rfl rfl (by decide +kernel) ⟨Nat.le_of_ble_eq_true rfl, Nat.le_of_ble_eq_true rfl⟩) hK hP [2] rfl rfl rfl hl.1 rfl (Nat.le_of_ble_eq_true rfl) dX7_about_100 ⟨Nat.le_of_ble_eq_true rfl, Nat.le_of_ble_eq_true rfl⟩) ?_
    exact W.iret (v := gh) hx hb hr (fun t ht hW => ⟨congrArg (fun z => Outcome.returned (some (Value.int z))) (rfl), ht⟩) (fun _ h => by cases h) dX7_about_103
  · refine lv_tableIn (off := 103) (tgt := 104) hx hb dX7_about_1 (by decide) (by decide) (by decide) (by decide) ?_
    refine lv_aload_n hx hb dX7_about_104 rfl (lv_at hl 0 rfl) ?_
    refine va_get (D := D) (ci := 6) (v := .int x3) (C := RX7) (T := TX7) (N := 20) hx hb hts hin_X7 hown hK hP 0 rfl rfl 3 (by decide) (w_RX7_39) (fun _ h9 => h9) rfl dX7_about_105 ?_
    exact W.iret (v := x3) hx hb hr (fun t ht hW => ⟨congrArg (fun z => Outcome.returned (some (Value.int z))) (rfl), ht⟩) (fun _ h => by cases h) dX7_about_108
  · refine lv_tableIn (off := 108) (tgt := 109) hx hb dX7_about_1 (by decide) (by decide) (by decide) (by decide) ?_
    refine lv_aload_n hx hb dX7_about_109 rfl (lv_at hl 0 rfl) ?_
    refine va_get (D := D) (ci := 6) (v := .ref x1) (C := RX7) (T := TX7) (N := 20) hx hb hts hin_X7 hown hK hP 0 rfl rfl 1 (by decide) (w_RX7_48) (fun _ h9 => h9) rfl dX7_about_110 ?_
    refine rq_call1 (v := .int ts) (rn_V (As := []) (rest := []) (ci := 5) (fs := [.ref x0, .int ts, .int tk, .ref tco, .ref t4, .ref t5, .ref t6, .int tv]) ⟨hx, hb, hml, hown, hts⟩ (c_X6_size l D cA x1 x0 ts tk tco t4 t5 t6 tv) rfl (cwV 0 hts gX7_about_X6_size rfl rfl rfl (by decide +kernel) ⟨Nat.le_of_ble_eq_true rfl, Nat.le_of_ble_eq_true rfl⟩) hK hP [1] rfl rfl rfl hl.1 rfl (Nat.le_of_ble_eq_true rfl) dX7_about_113 ⟨Nat.le_of_ble_eq_true rfl, Nat.le_of_ble_eq_true rfl⟩) ?_
    exact W.iret (v := ts) hx hb hr (fun t ht hW => ⟨congrArg (fun z => Outcome.returned (some (Value.int z))) (rfl), ht⟩) (fun _ h => by cases h) dX7_about_116
  · refine lv_tableIn (off := 116) (tgt := 117) hx hb dX7_about_1 (by decide) (by decide) (by decide) (by decide) ?_
    refine lv_aload_n hx hb dX7_about_117 rfl (lv_at hl 0 rfl) ?_
    refine va_get (D := D) (ci := 6) (v := .ref x1) (C := RX7) (T := TX7) (N := 20) hx hb hts hin_X7 hown hK hP 0 rfl rfl 1 (by decide) (w_RX7_48) (fun _ h9 => h9) rfl dX7_about_118 ?_
    refine rq_call1 (v := .int tk) (rn_V (As := []) (rest := []) (ci := 5) (fs := [.ref x0, .int ts, .int tk, .ref tco, .ref t4, .ref t5, .ref t6, .int tv]) ⟨hx, hb, hml, hown, hts⟩ (c_X6_needed l D cA x1 x0 ts tk tco t4 t5 t6 tv) rfl (cwV 0 hts gX7_about_X6_needed rfl rfl rfl (by decide +kernel) ⟨Nat.le_of_ble_eq_true rfl, Nat.le_of_ble_eq_true rfl⟩) hK hP [1] rfl rfl rfl hl.1 rfl (Nat.le_of_ble_eq_true rfl) dX7_about_121 ⟨Nat.le_of_ble_eq_true rfl, Nat.le_of_ble_eq_true rfl⟩) ?_
    exact W.iret (v := tk) hx hb hr (fun t ht hW => ⟨congrArg (fun z => Outcome.returned (some (Value.int z))) (rfl), ht⟩) (fun _ h => by cases h) dX7_about_124
  · refine lv_tableIn (off := 124) (tgt := 125) hx hb dX7_about_1 (by decide) (by decide) (by decide) (by decide) ?_
    refine lv_aload_n hx hb dX7_about_125 rfl (lv_at hl 0 rfl) ?_
    refine va_get (D := D) (ci := 6) (v := .int x13) (C := RX7) (T := TX7) (N := 20) hx hb hts hin_X7 hown hK hP 0 rfl rfl 13 (by decide) (w_RX7_123) (fun _ h9 => h9) rfl dX7_about_126 ?_
    exact W.iret (v := x13) hx hb hr (fun t ht hW => ⟨congrArg (fun z => Outcome.returned (some (Value.int z))) (rfl), ht⟩) (fun _ h => by cases h) dX7_about_129
  · refine lv_tableIn (off := 129) (tgt := 130) hx hb dX7_about_1 (by decide) (by decide) (by decide) (by decide) ?_
    refine lv_aload_n hx hb dX7_about_130 rfl (lv_at hl 0 rfl) ?_
    refine va_get (D := D) (ci := 6) (v := .int x12) (C := RX7) (T := TX7) (N := 20) hx hb hts hin_X7 hown hK hP 0 rfl rfl 12 (by decide) (w_RX7_97) (fun _ h9 => h9) rfl dX7_about_131 ?_
    exact W.iret (v := x12) hx hb hr (fun t ht hW => ⟨congrArg (fun z => Outcome.returned (some (Value.int z))) (rfl), ht⟩) (fun _ h => by cases h) dX7_about_134
  · refine lv_tableIn (off := 134) (tgt := 135) hx hb dX7_about_1 (by decide) (by decide) (by decide) (by decide) ?_
    refine lv_aload_n hx hb dX7_about_135 rfl (lv_at hl 0 rfl) ?_
    refine va_get (D := D) (ci := 6) (v := .ref x2) (C := RX7) (T := TX7) (N := 20) hx hb hts hin_X7 hown hK hP 0 rfl rfl 2 (by decide) (w_RX7_55) (fun _ h9 => h9) rfl dX7_about_136 ?_
    refine rq_call1 (v := .int n) (rn_V (As := []) (rest := []) (ci := 0) (fs := [.ref ka, .ref xa, .ref ya, .ref za, .ref ca, .int n]) ⟨hx, hb, hml, hown, hts⟩ (c_X0_size l D cA x2 ka xa ya za ca n) rfl (cwV 0 hts gX7_about_X0_size rfl rfl rfl (by decide +kernel) ⟨Nat.le_of_ble_eq_true rfl, Nat.le_of_ble_eq_true rfl⟩) hK hP [3] rfl rfl rfl hl.1 rfl (Nat.le_of_ble_eq_true rfl) dX7_about_139 ⟨Nat.le_of_ble_eq_true rfl, Nat.le_of_ble_eq_true rfl⟩) ?_
    exact W.iret (v := n) hx hb hr (fun t ht hW => ⟨congrArg (fun z => Outcome.returned (some (Value.int z))) (rfl), ht⟩) (fun _ h => by cases h) dX7_about_142
  · refine lv_tableIn (off := 142) (tgt := 143) hx hb dX7_about_1 (by decide) (by decide) (by decide) (by decide) ?_
    refine lv_aload_n hx hb dX7_about_143 rfl (lv_at hl 0 rfl) ?_
    refine va_get (D := D) (ci := 6) (v := .int x12) (C := RX7) (T := TX7) (N := 20) hx hb hts hin_X7 hown hK hP 0 rfl rfl 12 (by decide) (w_RX7_97) (fun _ h9 => h9) rfl dX7_about_144 ?_
    refine lv_iconst (v := 2) hx hb dX7_about_147 (by decide) ?_
    refine lv_icmp_ge (tgt := 155) hx hb dX7_about_148 (by decide) (fun c_148 => ?_) (fun c_148 => ?_)
    · skip
      refine lv_aload_n hx hb dX7_about_155 rfl (lv_at hl 0 rfl) ?_
      refine va_get (D := D) (ci := 6) (v := .int x14) (C := RX7) (T := TX7) (N := 20) hx hb hts hin_X7 hown hK hP 0 rfl rfl 14 (by decide) (w_RX7_158) (fun _ h9 => h9) rfl dX7_about_156 ?_
      exact W.iret (v := x14) hx hb hr (fun t ht hW => ⟨congrArg (fun z => Outcome.returned (some (Value.int z))) (ab_9 ((if_neg (Int32.not_lt.mpr c_148)).symm)), ht⟩) (fun _ h => by cases h) dX7_about_159
    · skip
      refine lv_iconst (v := (-1)) hx hb dX7_about_151 (by decide) ?_
      refine lv_goto (tgt := 159) hx hb dX7_about_152 (by decide) ?_
      exact W.iret (v := (-1)) hx hb hr (fun t ht hW => ⟨congrArg (fun z => Outcome.returned (some (Value.int z))) (ab_9 ((if_pos (Int32.not_le.mp c_148)).symm)), ht⟩) (fun _ h => by cases h) dX7_about_159
  · refine lv_tableIn (off := 159) (tgt := 160) hx hb dX7_about_1 (by decide) (by decide) (by decide) (by decide) ?_
    refine lv_aload_n hx hb dX7_about_160 rfl (lv_at hl 0 rfl) ?_
    refine va_get (D := D) (ci := 6) (v := .int x15) (C := RX7) (T := TX7) (N := 20) hx hb hts hin_X7 hown hK hP 0 rfl rfl 15 (by decide) (w_RX7_179) (fun _ h9 => h9) rfl dX7_about_161 ?_
    exact W.iret (v := x15) hx hb hr (fun t ht hW => ⟨congrArg (fun z => Outcome.returned (some (Value.int z))) (rfl), ht⟩) (fun _ h => by cases h) dX7_about_164
  · refine lv_tableIn (off := 164) (tgt := 165) hx hb dX7_about_1 (by decide) (by decide) (by decide) (by decide) ?_
    refine lv_aload_n hx hb dX7_about_165 rfl (lv_at hl 0 rfl) ?_
    refine va_get (D := D) (ci := 6) (v := .int x17) (C := RX7) (T := TX7) (N := 20) hx hb hts hin_X7 hown hK hP 0 rfl rfl 17 (by decide) (w_RX7_190) (fun _ h9 => h9) rfl dX7_about_166 ?_
    exact W.iret (v := x17) hx hb hr (fun t ht hW => ⟨congrArg (fun z => Outcome.returned (some (Value.int z))) (rfl), ht⟩) (fun _ h => by cases h) dX7_about_169
  · refine lv_tableIn (off := 169) (tgt := 170) hx hb dX7_about_1 (by decide) (by decide) (by decide) (by decide) ?_
    refine lv_aload_n hx hb dX7_about_170 rfl (lv_at hl 0 rfl) ?_
    refine va_get (D := D) (ci := 6) (v := .int x18) (C := RX7) (T := TX7) (N := 20) hx hb hts hin_X7 hown hK hP 0 rfl rfl 18 (by decide) (w_RX7_206) (fun _ h9 => h9) rfl dX7_about_171 ?_
    exact W.iret (v := x18) hx hb hr (fun t ht hW => ⟨congrArg (fun z => Outcome.returned (some (Value.int z))) (rfl), ht⟩) (fun _ h => by cases h) dX7_about_174
  · refine lv_tableIn (off := 174) (tgt := 175) hx hb dX7_about_1 (by decide) (by decide) (by decide) (by decide) ?_
    refine lv_aload_n hx hb dX7_about_175 rfl (lv_at hl 0 rfl) ?_
    refine va_get (D := D) (ci := 6) (v := .ref x1) (C := RX7) (T := TX7) (N := 20) hx hb hts hin_X7 hown hK hP 0 rfl rfl 1 (by decide) (w_RX7_48) (fun _ h9 => h9) rfl dX7_about_176 ?_
    refine rq_call1 (v := .int tv) (rn_V (As := []) (rest := []) (ci := 5) (fs := [.ref x0, .int ts, .int tk, .ref tco, .ref t4, .ref t5, .ref t6, .int tv]) ⟨hx, hb, hml, hown, hts⟩ (c_X6_givers l D cA x1 x0 ts tk tco t4 t5 t6 tv) rfl (cwV 0 hts gX7_about_X6_givers rfl rfl rfl (by decide +kernel) ⟨Nat.le_of_ble_eq_true rfl, Nat.le_of_ble_eq_true rfl⟩) hK hP [1] rfl rfl rfl hl.1 rfl (Nat.le_of_ble_eq_true rfl) dX7_about_179 ⟨Nat.le_of_ble_eq_true rfl, Nat.le_of_ble_eq_true rfl⟩) ?_
    exact W.iret (v := tv) hx hb hr (fun t ht hW => ⟨congrArg (fun z => Outcome.returned (some (Value.int z))) (rfl), ht⟩) (fun _ h => by cases h) dX7_about_182
  · refine lv_tableIn (off := 182) (tgt := 183) hx hb dX7_about_1 (by decide) (by decide) (by decide) (by decide) ?_
    refine lv_aload_n hx hb dX7_about_183 rfl (lv_at hl 0 rfl) ?_
    refine va_get (D := D) (ci := 6) (v := .int x19) (C := RX7) (T := TX7) (N := 20) hx hb hts hin_X7 hown hK hP 0 rfl rfl 19 (by decide) (w_RX7_196) (fun _ h9 => h9) rfl dX7_about_184 ?_
    refine lv_if_eq (tgt := 194) hx hb dX7_about_187 (by decide) (fun c_187 => ?_) (fun c_187 => ?_)
    · skip
      refine lv_iconst (v := 0) hx hb dX7_about_194 (by decide) ?_
      exact W.iret (v := 0) hx hb hr (fun t ht hW => ⟨congrArg (fun z => Outcome.returned (some (Value.int z))) (ab_14 ((if_pos c_187).symm)), ht⟩) (fun _ h => by cases h) dX7_about_195
    · skip
      refine lv_iconst (v := 1) hx hb dX7_about_190 (by decide) ?_
      refine lv_goto (tgt := 195) hx hb dX7_about_191 (by decide) ?_
      exact W.iret (v := 1) hx hb hr (fun t ht hW => ⟨congrArg (fun z => Outcome.returned (some (Value.int z))) (ab_14 ((if_neg c_187).symm)), ht⟩) (fun _ h => by cases h) dX7_about_195
  · refine lv_tableIn (off := 195) (tgt := 196) hx hb dX7_about_1 (by decide) (by decide) (by decide) (by decide) ?_
    refine lv_aload_n hx hb dX7_about_196 rfl (lv_at hl 0 rfl) ?_
    refine rq_call1 (v := .int (if x12 = 2 then bI (whl mt b0) else -1)) (rn_V (As := []) (rest := []) (ci := 6) (fs := [.ref x0, .ref x1, .ref x2, .int x3, .ref x4, .ref x5, .ref x6, .ref x7, .ref x8, .ref x9, .ref x10, .ref x11, .int x12, .int x13, .int x14, .int x15, .int x16, .int x17, .int x18, .int x19]) ⟨hx, hb, hml, hown, hts⟩ (c_X7_aboutStaging l D cA h0 x0 x1 x2 x3 x4 x5 x6 x7 x8 x9 x10 x11 x12 x13 x14 x15 x16 x17 x18 x19 mo ma mb fo b0 mt me hnb hb4 hrg) rfl (cwV 0 hts gX7_about_X7_aboutStaging rfl rfl rfl (by decide +kernel) ⟨Nat.le_of_ble_eq_true rfl, Nat.le_of_ble_eq_true rfl⟩) hK hP [0, 4, 5, 6, 7] rfl rfl rfl hl.1 rfl (Nat.le_of_ble_eq_true rfl) dX7_about_197 ⟨Nat.le_of_ble_eq_true rfl, Nat.le_of_ble_eq_true rfl⟩) ?_
    exact W.iret (v := (if x12 = 2 then bI (whl mt b0) else -1)) hx hb hr (fun t ht hW => ⟨congrArg (fun z => Outcome.returned (some (Value.int z))) (rfl), ht⟩) (fun _ h => by cases h) dX7_about_200
  · refine lv_tableOut (tgt := 201) hx hb dX7_about_1 hsw (by decide) ?_
    refine lv_iconst (v := (-1)) hx hb dX7_about_201 (by decide) ?_
    exact W.iret (v := (-1)) hx hb hr (fun t ht hW => ⟨congrArg (fun z => Outcome.returned (some (Value.int z))) (abv_out hsw rfl), ht⟩) (fun _ h => by cases h) dX7_about_202
