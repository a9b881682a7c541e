set_option maxRecDepth 20000 in
theorem ggX7_secret_X6_setCoefficient : GoodIn wsX7_secret wsX6_setCoefficient := goodIn_r _ [7, 8, 9, 10, 11, 12, 13, 14, 15, 16, 37, 38, 39, 40, 41, 42, 43, 44, 45, 46, 47] (by decide +kernel) (by decide +kernel)
set_option maxRecDepth 20000 in
theorem gX7_secret_X6_setCoefficient : GoodIn wsX7_secret (wsV RX7 100 RX6 yX6_setCoefficient wsX6_setCoefficient) := goodIn_app (goodIn_of _ (by decide +kernel)) ggX7_secret_X6_setCoefficient
theorem dX7_secret_0 : decode cX7_secret 0 = .ok (.aload_n 0, 1) := by decide +kernel
theorem dX7_secret_1 : decode cX7_secret 1 = .ok (.getfield 97, 3) := by decide +kernel
theorem dX7_secret_4 : decode cX7_secret 4 = .ok (.ifCond .ne 19, 3) := by decide +kernel
theorem dX7_secret_7 : decode cX7_secret 7 = .ok (.aload_n 0, 1) := by decide +kernel
theorem dX7_secret_8 : decode cX7_secret 8 = .ok (.getfield 48, 3) := by decide +kernel
theorem dX7_secret_11 : decode cX7_secret 11 = .ok (.iload_n 1, 1) := by decide +kernel
theorem dX7_secret_12 : decode cX7_secret 12 = .ok (.iload_n 2, 1) := by decide +kernel
theorem dX7_secret_13 : decode cX7_secret 13 = .ok (.invokevirtual 100, 3) := by decide +kernel
theorem dX7_secret_16 : decode cX7_secret 16 = .ok (.ifCond .eq 7, 3) := by decide +kernel
theorem dX7_secret_19 : decode cX7_secret 19 = .ok (.iconst 1, 1) := by decide +kernel
theorem dX7_secret_20 : decode cX7_secret 20 = .ok (.goto 4, 3) := by decide +kernel
theorem dX7_secret_23 : decode cX7_secret 23 = .ok (.iconst 0, 1) := by decide +kernel
theorem dX7_secret_24 : decode cX7_secret 24 = .ok (.ireturn, 1) := by decide +kernel
set_option maxRecDepth 20000 in
theorem ggX7_key_X6_secretKey : GoodIn wsX7_key wsX6_secretKey := goodIn_r _ [9, 10, 87, 88, 89, 90, 91, 92, 93, 94] (by decide +kernel) (by decide +kernel)
set_option maxRecDepth 20000 in
theorem gX7_key_X6_secretKey : GoodIn wsX7_key (wsV RX7 104 RX6 yX6_secretKey wsX6_secretKey) := goodIn_app (goodIn_of _ (by decide +kernel)) ggX7_key_X6_secretKey
set_option maxRecDepth 20000 in
theorem ggX7_key_X1_tellKey : GoodIn wsX7_key wsX1_tellKey := goodIn_r _ [15, 16, 17, 18, 19, 14, 20, 21, 22, 23, 24, 25, 26, 27, 28, 95, 96, 97] (by decide +kernel) (by decide +kernel)
set_option maxRecDepth 20000 in
theorem gX7_key_X1_tellKey : GoodIn wsX7_key (wsV RX7 107 RX1 yX1_tellKey wsX1_tellKey) := goodIn_app (goodIn_of _ (by decide +kernel)) ggX7_key_X1_tellKey
set_option maxRecDepth 20000 in
theorem ggX7_key_X1_publicKey : GoodIn wsX7_key wsX1_publicKey := goodIn_r _ [32, 16, 95, 96, 97] (by decide +kernel) (by decide +kernel)
set_option maxRecDepth 20000 in
theorem gX7_key_X1_publicKey : GoodIn wsX7_key (wsV RX7 110 RX1 yX1_publicKey wsX1_publicKey) := goodIn_app (goodIn_of _ (by decide +kernel)) ggX7_key_X1_publicKey
set_option maxRecDepth 20000 in
theorem ggX7_key_X6_size : GoodIn wsX7_key wsX6_size := goodIn_r _ [36, 37, 87, 88, 89, 90, 91, 92, 93, 94] (by decide +kernel) (by decide +kernel)
set_option maxRecDepth 20000 in
theorem gX7_key_X6_size : GoodIn wsX7_key (wsV RX7 113 RX6 yX6_size wsX6_size) := goodIn_app (goodIn_of _ (by decide +kernel)) ggX7_key_X6_size
set_option maxRecDepth 20000 in
theorem ggX7_key_X6_needed : GoodIn wsX7_key wsX6_needed := goodIn_r _ [41, 42, 87, 88, 89, 90, 91, 92, 93, 94] (by decide +kernel) (by decide +kernel)
set_option maxRecDepth 20000 in
theorem gX7_key_X6_needed : GoodIn wsX7_key (wsV RX7 116 RX6 yX6_needed wsX6_needed) := goodIn_app (goodIn_of _ (by decide +kernel)) ggX7_key_X6_needed
set_option maxRecDepth 20000 in
theorem ggX7_key_X0_add : GoodIn wsX7_key wsX0_add := goodIn_r _ [47, 48, 49, 50, 51, 52, 53, 54, 55, 56, 46, 57, 58, 59, 60, 61, 62, 63, 64, 24, 65, 66, 98, 99, 100, 101, 102, 103] (by decide +kernel) (by decide +kernel)
set_option maxRecDepth 20000 in
theorem gX7_key_X0_add : GoodIn wsX7_key (wsV RX7 119 RX0 yX0_add wsX0_add) := goodIn_app (goodIn_of _ (by decide +kernel)) ggX7_key_X0_add
theorem dX7_key_0 : decode cX7_key 0 = .ok (.aload_n 0, 1) := by decide +kernel
theorem dX7_key_1 : decode cX7_key 1 = .ok (.getfield 97, 3) := by decide +kernel
theorem dX7_key_4 : decode cX7_key 4 = .ok (.ifCond .eq 5, 3) := by decide +kernel
theorem dX7_key_9 : decode cX7_key 9 = .ok (.aload_n 0, 1) := by decide +kernel
theorem dX7_key_10 : decode cX7_key 10 = .ok (.iconst 1, 1) := by decide +kernel
theorem dX7_key_11 : decode cX7_key 11 = .ok (.putfield 97, 3) := by decide +kernel
theorem dX7_key_14 : decode cX7_key 14 = .ok (.aload_n 0, 1) := by decide +kernel
theorem dX7_key_15 : decode cX7_key 15 = .ok (.getfield 25, 3) := by decide +kernel
theorem dX7_key_18 : decode cX7_key 18 = .ok (.aload_n 0, 1) := by decide +kernel
theorem dX7_key_19 : decode cX7_key 19 = .ok (.getfield 48, 3) := by decide +kernel
theorem dX7_key_22 : decode cX7_key 22 = .ok (.invokevirtual 104, 3) := by decide +kernel
theorem dX7_key_25 : decode cX7_key 25 = .ok (.invokevirtual 107, 3) := by decide +kernel
theorem dX7_key_28 : decode cX7_key 28 = .ok (.aload_n 0, 1) := by decide +kernel
theorem dX7_key_29 : decode cX7_key 29 = .ok (.getfield 55, 3) := by decide +kernel
theorem dX7_key_32 : decode cX7_key 32 = .ok (.iconst 1, 1) := by decide +kernel
theorem dX7_key_33 : decode cX7_key 33 = .ok (.aload_n 0, 1) := by decide +kernel
theorem dX7_key_34 : decode cX7_key 34 = .ok (.getfield 25, 3) := by decide +kernel
theorem dX7_key_37 : decode cX7_key 37 = .ok (.invokevirtual 110, 3) := by decide +kernel
theorem dX7_key_40 : decode cX7_key 40 = .ok (.aload_n 0, 1) := by decide +kernel
theorem dX7_key_41 : decode cX7_key 41 = .ok (.getfield 48, 3) := by decide +kernel
theorem dX7_key_44 : decode cX7_key 44 = .ok (.invokevirtual 113, 3) := by decide +kernel
theorem dX7_key_47 : decode cX7_key 47 = .ok (.aload_n 0, 1) := by decide +kernel
theorem dX7_key_48 : decode cX7_key 48 = .ok (.getfield 48, 3) := by decide +kernel
theorem dX7_key_51 : decode cX7_key 51 = .ok (.invokevirtual 116, 3) := by decide +kernel
theorem dX7_key_54 : decode cX7_key 54 = .ok (.i2l, 1) := by decide +kernel
theorem dX7_key_55 : decode cX7_key 55 = .ok (.invokevirtual 119, 3) := by decide +kernel
theorem dX7_key_58 : decode cX7_key 58 = .ok (.pop2, 1) := by decide +kernel
theorem dX7_key_59 : decode cX7_key 59 = .ok (.aload_n 0, 1) := by decide +kernel
theorem dX7_key_60 : decode cX7_key 60 = .ok (.getfield 25, 3) := by decide +kernel
theorem dX7_key_63 : decode cX7_key 63 = .ok (.invokevirtual 110, 3) := by decide +kernel
theorem dX7_key_66 : decode cX7_key 66 = .ok (.ireturn, 1) := by decide +kernel
theorem dX7_voter_0 : decode cX7_voter 0 = .ok (.aload_n 0, 1) := by decide +kernel
theorem dX7_voter_1 : decode cX7_voter 1 = .ok (.getfield 97, 3) := by decide +kernel
theorem dX7_voter_4 : decode cX7_voter 4 = .ok (.iconst 1, 1) := by decide +kernel
theorem dX7_voter_5 : decode cX7_voter 5 = .ok (.if_icmp .gt 12, 3) := by decide +kernel
theorem dX7_voter_8 : decode cX7_voter 8 = .ok (.aload_n 0, 1) := by decide +kernel
theorem dX7_voter_9 : decode cX7_voter 9 = .ok (.getfield 123, 3) := by decide +kernel
theorem dX7_voter_12 : decode cX7_voter 12 = .ok (.bipush 40, 2) := by decide +kernel
theorem dX7_voter_14 : decode cX7_voter 14 = .ok (.if_icmp .lt 5, 3) := by decide +kernel
theorem dX7_voter_19 : decode cX7_voter 19 = .ok (.aload_n 0, 1) := by decide +kernel
theorem dX7_voter_20 : decode cX7_voter 20 = .ok (.dup, 1) := by decide +kernel
theorem dX7_voter_21 : decode cX7_voter 21 = .ok (.getfield 123, 3) := by decide +kernel
theorem dX7_voter_24 : decode cX7_voter 24 = .ok (.iconst 1, 1) := by decide +kernel
theorem dX7_voter_25 : decode cX7_voter 25 = .ok (.iadd, 1) := by decide +kernel
theorem dX7_voter_26 : decode cX7_voter 26 = .ok (.putfield 123, 3) := by decide +kernel
theorem dX7_voter_29 : decode cX7_voter 29 = .ok (.aload_n 0, 1) := by decide +kernel
theorem dX7_voter_30 : decode cX7_voter 30 = .ok (.getfield 123, 3) := by decide +kernel
theorem dX7_voter_33 : decode cX7_voter 33 = .ok (.iconst 1, 1) := by decide +kernel
theorem dX7_voter_34 : decode cX7_voter 34 = .ok (.isub, 1) := by decide +kernel
theorem dX7_voter_35 : decode cX7_voter 35 = .ok (.ireturn, 1) := by decide +kernel
set_option maxRecDepth 20000 in
theorem ggX7_cast_X7_mayCast : GoodIn wsX7_cast wsX7_mayCast := goodIn_r _ [6, 7, 8, 9, 10, 11, 12, 13, 14, 15, 91, 92, 93, 94, 95, 96, 97, 98, 99, 100, 101, 102, 103, 104, 105, 106, 107, 108, 109, 110, 111, 112, 113, 114, 115, 116] (by decide +kernel) (by decide +kernel)
set_option maxRecDepth 20000 in
theorem gX7_cast_X7_mayCast : GoodIn wsX7_cast (wsV RX7 126 RX7 yX7_mayCast wsX7_mayCast) := goodIn_app (goodIn_of _ (by decide +kernel)) ggX7_cast_X7_mayCast
theorem dX7_cast_0 : decode cX7_cast 0 = .ok (.aload_n 0, 1) := by decide +kernel
theorem dX7_cast_1 : decode cX7_cast 1 = .ok (.iload_n 1, 1) := by decide +kernel
theorem dX7_cast_2 : decode cX7_cast 2 = .ok (.invokevirtual 126, 3) := by decide +kernel
theorem dX7_cast_5 : decode cX7_cast 5 = .ok (.ifCond .eq 22, 3) := by decide +kernel
theorem dX7_cast_27 : decode cX7_cast 27 = .ok (.lconst 0, 1) := by decide +kernel
theorem dX7_cast_28 : decode cX7_cast 28 = .ok (.lreturn, 1) := by decide +kernel
set_option maxRecDepth 20000 in
theorem ggX7_castPair_X7_mayCast : GoodIn wsX7_castPair wsX7_mayCast := goodIn_r _ [6, 7, 8, 9, 10, 11, 12, 13, 14, 15, 72, 73, 74, 75, 76, 77, 78, 79, 80, 81, 82, 83, 84, 85, 86, 87, 88, 89, 90, 91, 92, 93, 94, 95, 96, 97] (by decide +kernel) (by decide +kernel)
set_option maxRecDepth 20000 in
theorem gX7_castPair_X7_mayCast : GoodIn wsX7_castPair (wsV RX7 126 RX7 yX7_mayCast wsX7_mayCast) := goodIn_app (goodIn_of _ (by decide +kernel)) ggX7_castPair_X7_mayCast
theorem dX7_castPair_0 : decode cX7_castPair 0 = .ok (.aload_n 0, 1) := by decide +kernel
theorem dX7_castPair_1 : decode cX7_castPair 1 = .ok (.iload_n 1, 1) := by decide +kernel
theorem dX7_castPair_2 : decode cX7_castPair 2 = .ok (.invokevirtual 126, 3) := by decide +kernel
theorem dX7_castPair_5 : decode cX7_castPair 5 = .ok (.ifCond .eq 15, 3) := by decide +kernel
theorem dX7_castPair_20 : decode cX7_castPair 20 = .ok (.lconst 0, 1) := by decide +kernel
theorem dX7_castPair_21 : decode cX7_castPair 21 = .ok (.lreturn, 1) := by decide +kernel
theorem dX7_close_0 : decode cX7_close 0 = .ok (.aload_n 0, 1) := by decide +kernel
theorem dX7_close_1 : decode cX7_close 1 = .ok (.getfield 97, 3) := by decide +kernel
theorem dX7_close_4 : decode cX7_close 4 = .ok (.iconst 1, 1) := by decide +kernel
theorem dX7_close_5 : decode cX7_close 5 = .ok (.if_icmp .eq 5, 3) := by decide +kernel
theorem dX7_close_8 : decode cX7_close 8 = .ok (.iconst (-1), 1) := by decide +kernel
theorem dX7_close_9 : decode cX7_close 9 = .ok (.ireturn, 1) := by decide +kernel
theorem dX7_place_0 : decode cX7_place 0 = .ok (.aload_n 0, 1) := by decide +kernel
theorem dX7_place_1 : decode cX7_place 1 = .ok (.getfield 97, 3) := by decide +kernel
theorem dX7_place_4 : decode cX7_place 4 = .ok (.iconst 2, 1) := by decide +kernel
theorem dX7_place_5 : decode cX7_place 5 = .ok (.if_icmp .ne 30, 3) := by decide +kernel
theorem dX7_place_35 : decode cX7_place 35 = .ok (.iconst 0, 1) := by decide +kernel
theorem dX7_place_36 : decode cX7_place 36 = .ok (.ireturn, 1) := by decide +kernel
theorem dX7_forge_0 : decode cX7_forge 0 = .ok (.aload_n 0, 1) := by decide +kernel
theorem dX7_forge_1 : decode cX7_forge 1 = .ok (.getfield 97, 3) := by decide +kernel
theorem dX7_forge_4 : decode cX7_forge 4 = .ok (.iconst 2, 1) := by decide +kernel
theorem dX7_forge_5 : decode cX7_forge 5 = .ok (.if_icmp .ne 23, 3) := by decide +kernel
theorem dX7_forge_28 : decode cX7_forge 28 = .ok (.iconst 0, 1) := by decide +kernel
theorem dX7_forge_29 : decode cX7_forge 29 = .ok (.ireturn, 1) := by decide +kernel
set_option maxRecDepth 20000 in
theorem ggX7_mix_X7_mayShuffle : GoodIn wsX7_mix wsX7_mayShuffle := goodIn_r _ [10, 11, 12, 13, 14, 5, 15, 16, 17, 18, 19, 20, 21, 22, 23, 24, 25, 26, 27, 28, 29, 30, 31, 32, 33, 34, 35, 36, 163, 164, 165, 166, 167, 168, 169, 170, 171, 172, 173, 174, 175, 176, 177, 178, 179, 180, 181, 182, 183, 184, 185, 186, 187, 188, 189, 190, 191, 192, 193, 194] (by decide +kernel) (by decide +kernel)
set_option maxRecDepth 20000 in
theorem gX7_mix_X7_mayShuffle : GoodIn wsX7_mix (wsV RX7 175 RX7 yX7_mayShuffle wsX7_mayShuffle) := goodIn_app (goodIn_of _ (by decide +kernel)) ggX7_mix_X7_mayShuffle
theorem dX7_mix_0 : decode cX7_mix 0 = .ok (.aload_n 0, 1) := by decide +kernel
theorem dX7_mix_1 : decode cX7_mix 1 = .ok (.invokevirtual 175, 3) := by decide +kernel
theorem dX7_mix_4 : decode cX7_mix 4 = .ok (.ifCond .eq 11, 3) := by decide +kernel
theorem dX7_mix_15 : decode cX7_mix 15 = .ok (.iconst (-1), 1) := by decide +kernel
theorem dX7_mix_16 : decode cX7_mix 16 = .ok (.ireturn, 1) := by decide +kernel
set_option maxRecDepth 20000 in
theorem ggX7_shadow_X7_mayShuffle : GoodIn wsX7_shadow wsX7_mayShuffle := goodIn_r _ [13, 14, 6, 15, 16, 8, 17, 18, 19, 20, 21, 22, 23, 24, 25, 26, 27, 28, 29, 30, 31, 32, 33, 34, 35, 36, 37, 38, 165, 166, 167, 168, 169, 170, 171, 172, 173, 174, 175, 176, 177, 178, 179, 180, 181, 182, 183, 184, 185, 186, 187, 188, 189, 190, 191, 192, 193, 194, 195, 196] (by decide +kernel) (by decide +kernel)
set_option maxRecDepth 20000 in
theorem gX7_shadow_X7_mayShuffle : GoodIn wsX7_shadow (wsV RX7 175 RX7 yX7_mayShuffle wsX7_mayShuffle) := goodIn_app (goodIn_of _ (by decide +kernel)) ggX7_shadow_X7_mayShuffle
theorem dX7_shadow_0 : decode cX7_shadow 0 = .ok (.aload_n 0, 1) := by decide +kernel
theorem dX7_shadow_1 : decode cX7_shadow 1 = .ok (.invokevirtual 175, 3) := by decide +kernel
theorem dX7_shadow_4 : decode cX7_shadow 4 = .ok (.ifCond .eq 20, 3) := by decide +kernel
theorem dX7_shadow_24 : decode cX7_shadow 24 = .ok (.iconst (-1), 1) := by decide +kernel
theorem dX7_shadow_25 : decode cX7_shadow 25 = .ok (.ireturn, 1) := by decide +kernel
theorem dX7_coin_0 : decode cX7_coin 0 = .ok (.aload_n 0, 1) := by decide +kernel
theorem dX7_coin_1 : decode cX7_coin 1 = .ok (.getfield 196, 3) := by decide +kernel
theorem dX7_coin_4 : decode cX7_coin 4 = .ok (.ifCond .eq 12, 3) := by decide +kernel
theorem dX7_coin_16 : decode cX7_coin 16 = .ok (.iconst (-1), 1) := by decide +kernel
theorem dX7_coin_17 : decode cX7_coin 17 = .ok (.ireturn, 1) := by decide +kernel
theorem dX7_share_0 : decode cX7_share 0 = .ok (.aload_n 0, 1) := by decide +kernel
theorem dX7_share_1 : decode cX7_share 1 = .ok (.getfield 97, 3) := by decide +kernel
theorem dX7_share_4 : decode cX7_share 4 = .ok (.iconst 2, 1) := by decide +kernel
theorem dX7_share_5 : decode cX7_share 5 = .ok (.if_icmp .ne 29, 3) := by decide +kernel
theorem dX7_share_34 : decode cX7_share 34 = .ok (.iconst (-1), 1) := by decide +kernel
theorem dX7_share_35 : decode cX7_share 35 = .ok (.ireturn, 1) := by decide +kernel
theorem dX7_tally_0 : decode cX7_tally 0 = .ok (.aload_n 0, 1) := by decide +kernel
theorem dX7_tally_1 : decode cX7_tally 1 = .ok (.getfield 97, 3) := by decide +kernel
theorem dX7_tally_4 : decode cX7_tally 4 = .ok (.iconst 2, 1) := by decide +kernel
theorem dX7_tally_5 : decode cX7_tally 5 = .ok (.if_icmp .ne 31, 3) := by decide +kernel
theorem dX7_tally_36 : decode cX7_tally 36 = .ok (.iconst (-1), 1) := by decide +kernel
theorem dX7_tally_37 : decode cX7_tally 37 = .ok (.ireturn, 1) := by decide +kernel
theorem dX7_count_0 : decode cX7_count 0 = .ok (.aload_n 0, 1) := by decide +kernel
theorem dX7_count_1 : decode cX7_count 1 = .ok (.getfield 97, 3) := by decide +kernel
theorem dX7_count_4 : decode cX7_count 4 = .ok (.iconst 3, 1) := by decide +kernel
theorem dX7_count_5 : decode cX7_count 5 = .ok (.if_icmp .ne 25, 3) := by decide +kernel
theorem dX7_count_30 : decode cX7_count 30 = .ok (.iconst (-1), 1) := by decide +kernel
theorem dX7_count_31 : decode cX7_count 31 = .ok (.ireturn, 1) := by decide +kernel
set_option maxRecDepth 20000 in
theorem ggX7_about_X1_modulus : GoodIn wsX7_about wsX1_modulus := goodIn_r _ [16, 17, 92, 93, 94] (by decide +kernel) (by decide +kernel)
set_option maxRecDepth 20000 in
theorem gX7_about_X1_modulus : GoodIn wsX7_about (wsV RX7 235 RX1 yX1_modulus wsX1_modulus) := goodIn_app (goodIn_of _ (by decide +kernel)) ggX7_about_X1_modulus
set_option maxRecDepth 20000 in
theorem ggX7_about_X1_order : GoodIn wsX7_about wsX1_order := goodIn_r _ [21, 22, 92, 93, 94] (by decide +kernel) (by decide +kernel)
set_option maxRecDepth 20000 in
theorem gX7_about_X1_order : GoodIn wsX7_about (wsV RX7 29 RX1 yX1_order wsX1_order) := goodIn_app (goodIn_of _ (by decide +kernel)) ggX7_about_X1_order
set_option maxRecDepth 20000 in
theorem ggX7_about_X1_publicKey : GoodIn wsX7_about wsX1_publicKey := goodIn_r _ [26, 27, 92, 93, 94] (by decide +kernel) (by decide +kernel)
set_option maxRecDepth 20000 in
theorem gX7_about_X1_publicKey : GoodIn wsX7_about (wsV RX7 110 RX1 yX1_publicKey wsX1_publicKey) := goodIn_app (goodIn_of _ (by decide +kernel)) ggX7_about_X1_publicKey
set_option maxRecDepth 20000 in
theorem ggX7_about_X6_size : GoodIn wsX7_about wsX6_size := goodIn_r _ [32, 33, 95, 96, 97, 98, 99, 100, 101, 102] (by decide +kernel) (by decide +kernel)
set_option maxRecDepth 20000 in
theorem gX7_about_X6_size : GoodIn wsX7_about (wsV RX7 113 RX6 yX6_size wsX6_size) := goodIn_app (goodIn_of _ (by decide +kernel)) ggX7_about_X6_size
set_option maxRecDepth 20000 in
theorem ggX7_about_X6_needed : GoodIn wsX7_about wsX6_needed := goodIn_r _ [37, 38, 95, 96, 97, 98, 99, 100, 101, 102] (by decide +kernel) (by decide +kernel)
set_option maxRecDepth 20000 in
theorem gX7_about_X6_needed : GoodIn wsX7_about (wsV RX7 116 RX6 yX6_needed wsX6_needed) := goodIn_app (goodIn_of _ (by decide +kernel)) ggX7_about_X6_needed
set_option maxRecDepth 20000 in
theorem ggX7_about_X0_size : GoodIn wsX7_about wsX0_size := goodIn_r _ [43, 44, 103, 104, 105, 106, 107, 108] (by decide +kernel) (by decide +kernel)
set_option maxRecDepth 20000 in
theorem gX7_about_X0_size : GoodIn wsX7_about (wsV RX7 238 RX0 yX0_size wsX0_size) := goodIn_app (goodIn_of _ (by decide +kernel)) ggX7_about_X0_size
set_option maxRecDepth 20000 in
theorem ggX7_about_X6_givers : GoodIn wsX7_about wsX6_givers := goodIn_r _ [48, 49, 95, 96, 97, 98, 99, 100, 101, 102] (by decide +kernel) (by decide +kernel)
set_option maxRecDepth 20000 in
theorem gX7_about_X6_givers : GoodIn wsX7_about (wsV RX7 219 RX6 yX6_givers wsX6_givers) := goodIn_app (goodIn_of _ (by decide +kernel)) ggX7_about_X6_givers
set_option maxRecDepth 20000 in
theorem ggX7_about_X7_aboutStaging : GoodIn wsX7_about wsX7_aboutStaging := goodIn_r _ [54, 5, 55, 7, 56, 57, 58, 59, 60, 61, 62, 63, 64, 65, 66, 67, 68, 69, 70, 71, 72, 73, 74, 75, 76, 77, 78, 79, 80, 81, 82, 83, 84, 85, 86, 87, 88, 89, 90, 91, 109, 110, 111, 112] (by decide +kernel) (by decide +kernel)
set_option maxRecDepth 20000 in
theorem gX7_about_X7_aboutStaging : GoodIn wsX7_about (wsV RX7 239 RX7 yX7_aboutStaging wsX7_aboutStaging) := goodIn_app (goodIn_of _ (by decide +kernel)) ggX7_about_X7_aboutStaging
theorem dX7_about_0 : decode cX7_about 0 = .ok (.iload_n 1, 1) := by decide +kernel
theorem dX7_about_1 : decode cX7_about 1 = .ok (.tableswitch 200 0 15 #[79, 87, 95, 103, 108, 116, 124, 129, 134, 142, 159, 164, 169, 174, 182, 195], 79) := by decide +kernel
theorem dX7_about_80 : decode cX7_about 80 = .ok (.aload_n 0, 1) := by decide +kernel
theorem dX7_about_81 : decode cX7_about 81 = .ok (.getfield 25, 3) := by decide +kernel
theorem dX7_about_84 : decode cX7_about 84 = .ok (.invokevirtual 235, 3) := by decide +kernel
theorem dX7_about_87 : decode cX7_about 87 = .ok (.ireturn, 1) := by decide +kernel
theorem dX7_about_88 : decode cX7_about 88 = .ok (.aload_n 0, 1) := by decide +kernel
theorem dX7_about_89 : decode cX7_about 89 = .ok (.getfield 25, 3) := by decide +kernel
theorem dX7_about_92 : decode cX7_about 92 = .ok (.invokevirtual 29, 3) := by decide +kernel
theorem dX7_about_95 : decode cX7_about 95 = .ok (.ireturn, 1) := by decide +kernel
theorem dX7_about_96 : decode cX7_about 96 = .ok (.aload_n 0, 1) := by decide +kernel
theorem dX7_about_97 : decode cX7_about 97 = .ok (.getfield 25, 3) := by decide +kernel
theorem dX7_about_100 : decode cX7_about 100 = .ok (.invokevirtual 110, 3) := by decide +kernel
theorem dX7_about_103 : decode cX7_about 103 = .ok (.ireturn, 1) := by decide +kernel
theorem dX7_about_104 : decode cX7_about 104 = .ok (.aload_n 0, 1) := by decide +kernel
theorem dX7_about_105 : decode cX7_about 105 = .ok (.getfield 39, 3) := by decide +kernel
theorem dX7_about_108 : decode cX7_about 108 = .ok (.ireturn, 1) := by decide +kernel
theorem dX7_about_109 : decode cX7_about 109 = .ok (.aload_n 0, 1) := by decide +kernel
theorem dX7_about_110 : decode cX7_about 110 = .ok (.getfield 48, 3) := by decide +kernel
theorem dX7_about_113 : decode cX7_about 113 = .ok (.invokevirtual 113, 3) := by decide +kernel
theorem dX7_about_116 : decode cX7_about 116 = .ok (.ireturn, 1) := by decide +kernel
theorem dX7_about_117 : decode cX7_about 117 = .ok (.aload_n 0, 1) := by decide +kernel
theorem dX7_about_118 : decode cX7_about 118 = .ok (.getfield 48, 3) := by decide +kernel
theorem dX7_about_121 : decode cX7_about 121 = .ok (.invokevirtual 116, 3) := by decide +kernel
theorem dX7_about_124 : decode cX7_about 124 = .ok (.ireturn, 1) := by decide +kernel
theorem dX7_about_125 : decode cX7_about 125 = .ok (.aload_n 0, 1) := by decide +kernel
theorem dX7_about_126 : decode cX7_about 126 = .ok (.getfield 123, 3) := by decide +kernel
theorem dX7_about_129 : decode cX7_about 129 = .ok (.ireturn, 1) := by decide +kernel
theorem dX7_about_130 : decode cX7_about 130 = .ok (.aload_n 0, 1) := by decide +kernel
theorem dX7_about_131 : decode cX7_about 131 = .ok (.getfield 97, 3) := by decide +kernel
theorem dX7_about_134 : decode cX7_about 134 = .ok (.ireturn, 1) := by decide +kernel
theorem dX7_about_135 : decode cX7_about 135 = .ok (.aload_n 0, 1) := by decide +kernel
theorem dX7_about_136 : decode cX7_about 136 = .ok (.getfield 55, 3) := by decide +kernel
theorem dX7_about_139 : decode cX7_about 139 = .ok (.invokevirtual 238, 3) := by decide +kernel
theorem dX7_about_142 : decode cX7_about 142 = .ok (.ireturn, 1) := by decide +kernel
theorem dX7_about_143 : decode cX7_about 143 = .ok (.aload_n 0, 1) := by decide +kernel
theorem dX7_about_144 : decode cX7_about 144 = .ok (.getfield 97, 3) := by decide +kernel
theorem dX7_about_147 : decode cX7_about 147 = .ok (.iconst 2, 1) := by decide +kernel
theorem dX7_about_148 : decode cX7_about 148 = .ok (.if_icmp .ge 7, 3) := by decide +kernel
theorem dX7_about_151 : decode cX7_about 151 = .ok (.iconst (-1), 1) := by decide +kernel
theorem dX7_about_152 : decode cX7_about 152 = .ok (.goto 7, 3) := by decide +kernel
theorem dX7_about_159 : decode cX7_about 159 = .ok (.ireturn, 1) := by decide +kernel
theorem dX7_about_160 : decode cX7_about 160 = .ok (.aload_n 0, 1) := by decide +kernel
theorem dX7_about_161 : decode cX7_about 161 = .ok (.getfield 179, 3) := by decide +kernel
theorem dX7_about_164 : decode cX7_about 164 = .ok (.ireturn, 1) := by decide +kernel
theorem dX7_about_165 : decode cX7_about 165 = .ok (.aload_n 0, 1) := by decide +kernel
theorem dX7_about_166 : decode cX7_about 166 = .ok (.getfield 190, 3) := by decide +kernel
theorem dX7_about_169 : decode cX7_about 169 = .ok (.ireturn, 1) := by decide +kernel
theorem dX7_about_170 : decode cX7_about 170 = .ok (.aload_n 0, 1) := by decide +kernel
theorem dX7_about_171 : decode cX7_about 171 = .ok (.getfield 206, 3) := by decide +kernel
theorem dX7_about_174 : decode cX7_about 174 = .ok (.ireturn, 1) := by decide +kernel
theorem dX7_about_175 : decode cX7_about 175 = .ok (.aload_n 0, 1) := by decide +kernel
theorem dX7_about_176 : decode cX7_about 176 = .ok (.getfield 48, 3) := by decide +kernel
theorem dX7_about_179 : decode cX7_about 179 = .ok (.invokevirtual 219, 3) := by decide +kernel
theorem dX7_about_182 : decode cX7_about 182 = .ok (.ireturn, 1) := by decide +kernel
theorem dX7_about_183 : decode cX7_about 183 = .ok (.aload_n 0, 1) := by decide +kernel
theorem dX7_about_184 : decode cX7_about 184 = .ok (.getfield 196, 3) := by decide +kernel
theorem dX7_about_187 : decode cX7_about 187 = .ok (.ifCond .eq 7, 3) := by decide +kernel
theorem dX7_about_194 : decode cX7_about 194 = .ok (.iconst 0, 1) := by decide +kernel
theorem dX7_about_195 : decode cX7_about 195 = .ok (.ireturn, 1) := by decide +kernel
theorem dX7_about_196 : decode cX7_about 196 = .ok (.aload_n 0, 1) := by decide +kernel
theorem dX7_about_197 : decode cX7_about 197 = .ok (.invokevirtual 239, 3) := by decide +kernel
theorem dX7_about_200 : decode cX7_about 200 = .ok (.ireturn, 1) := by decide +kernel
theorem dX7_about_201 : decode cX7_about 201 = .ok (.iconst (-1), 1) := by decide +kernel
theorem dX7_about_202 : decode cX7_about 202 = .ok (.ireturn, 1) := by decide +kernel
set_option maxRecDepth 20000 in
theorem ggX7_list_X7_isBallot : GoodIn wsX7_list wsX7_isBallot := goodIn_r _ [6, 7, 28, 29, 30, 31, 32, 33, 34, 35, 36, 37, 38, 39, 40, 41, 42, 43, 44, 45, 46, 47] (by decide +kernel) (by decide +kernel)
set_option maxRecDepth 20000 in
theorem gX7_list_X7_isBallot : GoodIn wsX7_list (wsV RX7 165 RX7 yX7_isBallot wsX7_isBallot) := goodIn_app (goodIn_of _ (by decide +kernel)) ggX7_list_X7_isBallot
theorem dX7_list_0 : decode cX7_list 0 = .ok (.iload_n 1, 1) := by decide +kernel
theorem dX7_list_1 : decode cX7_list 1 = .ok (.ifCond .lt 32, 3) := by decide +kernel
theorem dX7_list_4 : decode cX7_list 4 = .ok (.iload_n 1, 1) := by decide +kernel
theorem dX7_list_5 : decode cX7_list 5 = .ok (.aload_n 0, 1) := by decide +kernel
theorem dX7_list_6 : decode cX7_list 6 = .ok (.getfield 179, 3) := by decide +kernel
theorem dX7_list_9 : decode cX7_list 9 = .ok (.if_icmp .gt 24, 3) := by decide +kernel
theorem dX7_list_12 : decode cX7_list 12 = .ok (.aload_n 0, 1) := by decide +kernel
theorem dX7_list_13 : decode cX7_list 13 = .ok (.iload_n 2, 1) := by decide +kernel
theorem dX7_list_14 : decode cX7_list 14 = .ok (.invokevirtual 165, 3) := by decide +kernel
theorem dX7_list_17 : decode cX7_list 17 = .ok (.ifCond .eq 16, 3) := by decide +kernel
theorem dX7_list_33 : decode cX7_list 33 = .ok (.iconst (-1), 1) := by decide +kernel
theorem dX7_list_34 : decode cX7_list 34 = .ok (.ireturn, 1) := by decide +kernel
set_option maxRecDepth 20000 in
theorem ggX7_shadowOf_X7_isBallot : GoodIn wsX7_shadowOf wsX7_isBallot := goodIn_r _ [6, 7, 23, 24, 25, 26, 27, 28, 29, 30, 31, 32, 33, 34, 35, 36, 37, 38, 39, 40, 41, 42] (by decide +kernel) (by decide +kernel)
set_option maxRecDepth 20000 in
theorem gX7_shadowOf_X7_isBallot : GoodIn wsX7_shadowOf (wsV RX7 165 RX7 yX7_isBallot wsX7_isBallot) := goodIn_app (goodIn_of _ (by decide +kernel)) ggX7_shadowOf_X7_isBallot
theorem dX7_shadowOf_0 : decode cX7_shadowOf 0 = .ok (.aload_n 0, 1) := by decide +kernel
theorem dX7_shadowOf_1 : decode cX7_shadowOf 1 = .ok (.iload_n 1, 1) := by decide +kernel
theorem dX7_shadowOf_2 : decode cX7_shadowOf 2 = .ok (.invokevirtual 165, 3) := by decide +kernel
theorem dX7_shadowOf_5 : decode cX7_shadowOf 5 = .ok (.ifCond .eq 15, 3) := by decide +kernel
theorem dX7_shadowOf_20 : decode cX7_shadowOf 20 = .ok (.iconst (-1), 1) := by decide +kernel
theorem dX7_shadowOf_21 : decode cX7_shadowOf 21 = .ok (.ireturn, 1) := by decide +kernel
set_option maxRecDepth 20000 in
theorem ggX7_shown_X7_isBallot : GoodIn wsX7_shown wsX7_isBallot := goodIn_r _ [6, 7, 19, 20, 21, 22, 23, 24, 25, 26, 27, 28, 29, 30, 31, 32, 33, 34, 35, 36, 37, 38] (by decide +kernel) (by decide +kernel)
set_option maxRecDepth 20000 in
theorem gX7_shown_X7_isBallot : GoodIn wsX7_shown (wsV RX7 165 RX7 yX7_isBallot wsX7_isBallot) := goodIn_app (goodIn_of _ (by decide +kernel)) ggX7_shown_X7_isBallot
theorem dX7_shown_0 : decode cX7_shown 0 = .ok (.aload_n 0, 1) := by decide +kernel
theorem dX7_shown_1 : decode cX7_shown 1 = .ok (.iload_n 1, 1) := by decide +kernel
theorem dX7_shown_2 : decode cX7_shown 2 = .ok (.invokevirtual 165, 3) := by decide +kernel
theorem dX7_shown_5 : decode cX7_shown 5 = .ok (.ifCond .ne 5, 3) := by decide +kernel
theorem dX7_shown_8 : decode cX7_shown 8 = .ok (.iconst (-1), 1) := by decide +kernel
theorem dX7_shown_9 : decode cX7_shown 9 = .ok (.ireturn, 1) := by decide +kernel
set_option maxRecDepth 20000 in
theorem ggX7_given_X7_isBallot : GoodIn wsX7_given wsX7_isBallot := goodIn_r _ [6, 7, 24, 25, 26, 27, 28, 29, 30, 31, 32, 33, 34, 35, 36, 37, 38, 39, 40, 41, 42, 43] (by decide +kernel) (by decide +kernel)
set_option maxRecDepth 20000 in
theorem gX7_given_X7_isBallot : GoodIn wsX7_given (wsV RX7 165 RX7 yX7_isBallot wsX7_isBallot) := goodIn_app (goodIn_of _ (by decide +kernel)) ggX7_given_X7_isBallot
theorem dX7_given_0 : decode cX7_given 0 = .ok (.aload_n 0, 1) := by decide +kernel
theorem dX7_given_1 : decode cX7_given 1 = .ok (.iload_n 2, 1) := by decide +kernel
theorem dX7_given_2 : decode cX7_given 2 = .ok (.invokevirtual 165, 3) := by decide +kernel
theorem dX7_given_5 : decode cX7_given 5 = .ok (.ifCond .eq 15, 3) := by decide +kernel
theorem dX7_given_20 : decode cX7_given 20 = .ok (.iconst (-1), 1) := by decide +kernel
theorem dX7_given_21 : decode cX7_given 21 = .ok (.ireturn, 1) := by decide +kernel
set_option maxRecDepth 20000 in
theorem ggX7_entry_X0_field : GoodIn wsX7_entry wsX0_field := goodIn_r _ [6, 7, 8, 9, 10, 11, 12, 13, 5, 14, 15, 36, 37, 38, 39, 40, 41] (by decide +kernel) (by decide +kernel)
set_option maxRecDepth 20000 in
theorem gX7_entry_X0_field : GoodIn wsX7_entry (wsV RX7 254 RX0 yX0_field wsX0_field) := goodIn_app (goodIn_of _ (by decide +kernel)) ggX7_entry_X0_field
theorem dX7_entry_0 : decode cX7_entry 0 = .ok (.aload_n 0, 1) := by decide +kernel
theorem dX7_entry_1 : decode cX7_entry 1 = .ok (.getfield 55, 3) := by decide +kernel
theorem dX7_entry_4 : decode cX7_entry 4 = .ok (.iload_n 1, 1) := by decide +kernel
theorem dX7_entry_5 : decode cX7_entry 5 = .ok (.iload_n 2, 1) := by decide +kernel
theorem dX7_entry_6 : decode cX7_entry 6 = .ok (.invokevirtual 254, 3) := by decide +kernel
theorem dX7_entry_9 : decode cX7_entry 9 = .ok (.lreturn, 1) := by decide +kernel
set_option maxRecDepth 20000 in
theorem ggX7_chain_X0_chainOf : GoodIn wsX7_chain wsX0_chainOf := goodIn_r _ [6, 7, 8, 9, 10, 11, 5, 12, 13, 34, 35, 36, 37, 38, 39] (by decide +kernel) (by decide +kernel)
set_option maxRecDepth 20000 in
theorem gX7_chain_X0_chainOf : GoodIn wsX7_chain (wsV RX7 257 RX0 yX0_chainOf wsX0_chainOf) := goodIn_app (goodIn_of _ (by decide +kernel)) ggX7_chain_X0_chainOf
theorem dX7_chain_0 : decode cX7_chain 0 = .ok (.aload_n 0, 1) := by decide +kernel
theorem dX7_chain_1 : decode cX7_chain 1 = .ok (.getfield 55, 3) := by decide +kernel
theorem dX7_chain_4 : decode cX7_chain 4 = .ok (.iload_n 1, 1) := by decide +kernel
theorem dX7_chain_5 : decode cX7_chain 5 = .ok (.invokevirtual 257, 3) := by decide +kernel
theorem dX7_chain_8 : decode cX7_chain 8 = .ok (.lreturn, 1) := by decide +kernel
theorem dX7_isBallot_0 : decode cX7_isBallot 0 = .ok (.iload_n 1, 1) := by decide +kernel
theorem dX7_isBallot_1 : decode cX7_isBallot 1 = .ok (.ifCond .lt 15, 3) := by decide +kernel
theorem dX7_isBallot_4 : decode cX7_isBallot 4 = .ok (.iload_n 1, 1) := by decide +kernel
theorem dX7_isBallot_5 : decode cX7_isBallot 5 = .ok (.aload_n 0, 1) := by decide +kernel
theorem dX7_isBallot_6 : decode cX7_isBallot 6 = .ok (.getfield 158, 3) := by decide +kernel
theorem dX7_isBallot_9 : decode cX7_isBallot 9 = .ok (.if_icmp .ge 7, 3) := by decide +kernel
theorem dX7_isBallot_12 : decode cX7_isBallot 12 = .ok (.iconst 1, 1) := by decide +kernel
theorem dX7_isBallot_13 : decode cX7_isBallot 13 = .ok (.goto 4, 3) := by decide +kernel
theorem dX7_isBallot_16 : decode cX7_isBallot 16 = .ok (.iconst 0, 1) := by decide +kernel
theorem dX7_isBallot_17 : decode cX7_isBallot 17 = .ok (.ireturn, 1) := by decide +kernel
theorem dX7_mayCast_0 : decode cX7_mayCast 0 = .ok (.aload_n 0, 1) := by decide +kernel
theorem dX7_mayCast_1 : decode cX7_mayCast 1 = .ok (.getfield 97, 3) := by decide +kernel
theorem dX7_mayCast_4 : decode cX7_mayCast 4 = .ok (.iconst 1, 1) := by decide +kernel
theorem dX7_mayCast_5 : decode cX7_mayCast 5 = .ok (.if_icmp .ne 32, 3) := by decide +kernel
theorem dX7_mayCast_37 : decode cX7_mayCast 37 = .ok (.iconst 0, 1) := by decide +kernel
theorem dX7_mayCast_38 : decode cX7_mayCast 38 = .ok (.ireturn, 1) := by decide +kernel
theorem dX7_aboutStaging_0 : decode cX7_aboutStaging 0 = .ok (.aload_n 0, 1) := by decide +kernel
theorem dX7_aboutStaging_1 : decode cX7_aboutStaging 1 = .ok (.getfield 97, 3) := by decide +kernel
theorem dX7_aboutStaging_4 : decode cX7_aboutStaging 4 = .ok (.iconst 2, 1) := by decide +kernel
theorem dX7_aboutStaging_5 : decode cX7_aboutStaging 5 = .ok (.if_icmp .eq 5, 3) := by decide +kernel
theorem dX7_aboutStaging_8 : decode cX7_aboutStaging 8 = .ok (.iconst (-1), 1) := by decide +kernel
theorem dX7_aboutStaging_9 : decode cX7_aboutStaging 9 = .ok (.ireturn, 1) := by decide +kernel
theorem dX7_mayShuffle_0 : decode cX7_mayShuffle 0 = .ok (.aload_n 0, 1) := by decide +kernel
theorem dX7_mayShuffle_1 : decode cX7_mayShuffle 1 = .ok (.getfield 97, 3) := by decide +kernel
theorem dX7_mayShuffle_4 : decode cX7_mayShuffle 4 = .ok (.iconst 2, 1) := by decide +kernel
theorem dX7_mayShuffle_5 : decode cX7_mayShuffle 5 = .ok (.if_icmp .ne 38, 3) := by decide +kernel
theorem dX7_mayShuffle_43 : decode cX7_mayShuffle 43 = .ok (.iconst 0, 1) := by decide +kernel
theorem dX7_mayShuffle_44 : decode cX7_mayShuffle 44 = .ok (.ireturn, 1) := by decide +kernel
def abv (x : Int32) (l : List Int32) : Int32 := if x.toInt < 0 then -1 else l.getD x.toInt.toNat (-1)
theorem abv_out {x : Int32} {l : List Int32} (h : x.toInt < 0 ∨ 15 < x.toInt) (hl : l.length = 16) : (-1 : Int32) = abv x l := by
  unfold abv
  split
  · rfl
  · rw [List.getD_eq_getElem?_getD, List.getElem?_eq_none (by omega)]; rfl
theorem sw_16 (x : Int32) : x = 0 ∨ x = 1 ∨ x = 2 ∨ x = 3 ∨ x = 4 ∨ x = 5 ∨ x = 6 ∨ x = 7 ∨ x = 8 ∨ x = 9 ∨ x = 10 ∨ x = 11 ∨ x = 12 ∨ x = 13 ∨ x = 14 ∨ x = 15 ∨ (x.toInt < 0 ∨ 15 < x.toInt) := by
  by_cases h : x.toInt < 0 ∨ 15 < x.toInt
  · simp [h]
  · have e : x = Int32.ofInt x.toInt := (Int32.ofInt_toInt x).symm
    have h2 : x.toInt = 0 ∨ x.toInt = 1 ∨ x.toInt = 2 ∨ x.toInt = 3 ∨ x.toInt = 4 ∨ x.toInt = 5 ∨ x.toInt = 6 ∨ x.toInt = 7 ∨ x.toInt = 8 ∨ x.toInt = 9 ∨ x.toInt = 10 ∨ x.toInt = 11 ∨ x.toInt = 12 ∨ x.toInt = 13 ∨ x.toInt = 14 ∨ x.toInt = 15 := by omega
    rcases h2 with q | q | q | q | q | q | q | q | q | q | q | q | q | q | q | q <;> rw [q] at e <;> rw [e] <;> decide
set_option maxHeartbeats 4000000 in
set_option maxRecDepth 100000 in
theorem c_X7_secret_no (l : Launch) (D : va_G) (cA : Nat → ClassId) (h0 : Nat) (x0 : Nat) (x1 : Nat) (x2 : Nat) (x3 : Int32) (x4 : Nat) (x5 : Nat) (x6 : Nat) (x7 : Nat) (x8 : Nat) (x9 : Nat) (x10 : Nat) (x11 : Nat) (x12 : Int32) (x13 : Int32) (x14 : Int32) (x15 : Int32) (x16 : Int32) (x17 : Int32) (x18 : Int32) (x19 : Int32) (ts : Int32) (tk : Int32) (tco : Nat) (t4 : Nat) (t5 : Nat) (t6 : Nat) (tv : Int32) (gp : Int32) (gq : Int32) (gh : Int32) (i : Int32) (v : Int32) (hst : x12 = 0) (hs : ¬ scC i v tk gq) : Met l yX7_secret wsX7_secret ({ frames := 2, cells := 0, slots := 0, locals := 43 }) (rPc vwCl D cA [(h0, .inr (6, [.ref x0, .ref x1, .ref x2, .int x3, .ref x4, .ref x5, .ref x6, .ref x7, .ref x8, .ref x9, .ref x10, .ref x11, .int x12, .int x13, .int x14, .int x15, .int x16, .int x17, .int x18, .int x19])), (x1, .inr (5, [.ref x0, .int ts, .int tk, .ref tco, .ref t4, .ref t5, .ref t6, .int tv])), (x0, .inr (1, [.int gp, .int gq, .int gh]))] [.ref h0, .int i, .int v]) (rq_x (some (.int 0))) 0 0 (fun _ => False) := by
  refine Met.ofW (cc := cX7_secret) (maxL := 3) (ret := (some .boolean)) (by decide) rfl ?_
  intro p e s m args below meth c s₁ B hml hv
  obtain ⟨rfl, hP, hK⟩ := hv
  have hx := B.exec
  have hb := B.bytes
  have hr := B.returns
  have hts := atoms_spec (ws := wsX7_secret) B.pre
  have hown : s.vm.findClass RX7 = some m.cls := findClass_of_methodNamed B.named
  have hlocks := B.notSynchronized
  have hin_X7 : ∀ w ∈ wsX70, w ∈ wsX7_secret := fun w h => List.mem_cons_of_mem _ (List.mem_append_left _ (List.mem_append_left _ (List.mem_append_right _ h)))
  have w_RX7_97 := hts (.fieldLink RX7 97 "MixElection" "stage" "I") (by decide +kernel)
  have w_RX7_48 := hts (.fieldLink RX7 48 "MixElection" "trustees" "LMixElection$Trustees;") (by decide +kernel)
  have hl := lv_entry ([.ref h0, .int i, .int v]) (n := 3) (Nat.le_of_ble_eq_true rfl)
  rw [lg_entry_eq]
  generalize (lg_sl ([.ref h0, .int i, .int v]) ++ List.replicate (3 - (lg_sl ([.ref h0, .int i, .int v])).length) Slot.unset).toArray = ls at hl ⊢
  have hl : lv_has ls 3 [(0, .ref h0), (1, .int i), (2, .int v)] := hl
  refine lv_aload_n hx hb dX7_secret_0 rfl (lv_at hl 0 rfl) ?_
  refine va_get (D := D) (ci := 6) (v := .int x12) (C := RX7) (T := TX7) (N := 20) hx hb hts hin_X7 hown hK hP 0 rfl rfl 12 (by decide) (w_RX7_97) (fun _ h9 => h9) rfl dX7_secret_1 ?_
  refine lv_if_ne (tgt := 23) hx hb dX7_secret_4 (by decide) (fun c_4 => ?_) (fun c_4 => ?_)
  · exact absurd hst c_4
  · skip
    refine lv_aload_n hx hb dX7_secret_7 rfl (lv_at hl 0 rfl) ?_
    refine va_get (D := D) (ci := 6) (v := .ref x1) (C := RX7) (T := TX7) (N := 20) hx hb hts hin_X7 hown hK hP 0 rfl rfl 1 (by decide) (w_RX7_48) (fun _ h9 => h9) rfl dX7_secret_8 ?_
    refine lv_iload_n hx hb dX7_secret_11 rfl (lv_at hl 1 rfl) ?_
    refine lv_iload_n hx hb dX7_secret_12 rfl (lv_at hl 2 rfl) ?_
    refine rq_call1 (v := .int 0) (rn_V (As := [.int i, .int v]) (rest := []) (ci := 5) (fs := [.ref x0, .int ts, .int tk, .ref tco, .ref t4, .ref t5, .ref t6, .int tv]) ⟨hx, hb, hml, hown, hts⟩ (c_X6_setCoefficient_no l D cA x1 x0 ts tk tco t4 t5 t6 tv gp gq gh i v (by assumption)) rfl (cwV 2 hts gX7_secret_X6_setCoefficient rfl rfl rfl (by decide +kernel) ⟨Nat.le_of_ble_eq_true rfl, Nat.le_of_ble_eq_true rfl⟩) hK hP [1, 2] rfl rfl rfl hl.1 rfl (Nat.le_of_ble_eq_true rfl) dX7_secret_13 ⟨Nat.le_of_ble_eq_true rfl, Nat.le_of_ble_eq_true rfl⟩) ?_
    refine lv_if_eq (tgt := 23) hx hb dX7_secret_16 (by decide) (fun c_16 => ?_) (fun c_16 => ?_)
    · skip
      refine lv_iconst (v := 0) hx hb dX7_secret_23 (by decide) ?_
      exact W.zret (v := 0) hx hb hr rfl (fun t ht hW => ⟨congrArg (fun z => Outcome.returned (some (Value.int z))) (rfl), ht⟩) (fun _ h => by cases h) dX7_secret_24
    · exact absurd rfl c_16

set_option maxHeartbeats 4000000 in
set_option maxRecDepth 100000 in
theorem c_X7_secret_ok (l : Launch) (D : va_G) (cA : Nat → ClassId) (h0 : Nat) (x0 : Nat) (x1 : Nat) (x2 : Nat) (x3 : Int32) (x4 : Nat) (x5 : Nat) (x6 : Nat) (x7 : Nat) (x8 : Nat) (x9 : Nat) (x10 : Nat) (x11 : Nat) (x12 : Int32) (x13 : Int32) (x14 : Int32) (x15 : Int32) (x16 : Int32) (x17 : Int32) (x18 : Int32) (x19 : Int32) (ts : Int32) (tk : Int32) (tco : Nat) (t4 : Nat) (t5 : Nat) (t6 : Nat) (tv : Int32) (gp : Int32) (gq : Int32) (gh : Int32) (i : Int32) (v : Int32) (k0 : Nat) (cf : Nat → Int32) (hst : x12 = 0) (hs : scC i v tk gq) (htk : tk = nI k0) (hk1 : 1 ≤ k0 ∧ k0 ≤ 5) : Met l yX7_secret wsX7_secret ({ frames := 2, cells := 0, slots := 0, locals := 43 }) (wPc vwCl D cA [(h0, .inr (6, [.ref x0, .ref x1, .ref x2, .int x3, .ref x4, .ref x5, .ref x6, .ref x7, .ref x8, .ref x9, .ref x10, .ref x11, .int x12, .int x13, .int x14, .int x15, .int x16, .int x17, .int x18, .int x19])), (x1, .inr (5, [.ref x0, .int ts, .int tk, .ref tco, .ref t4, .ref t5, .ref t6, .int tv])), (x0, .inr (1, [.int gp, .int gq, .int gh])), (tco, .inl (cA 0, k0, .inl cf))] [.ref h0, .int i, .int v]) (wq_x vwCl D [(h0, .inr (6, [.ref x0, .ref x1, .ref x2, .int x3, .ref x4, .ref x5, .ref x6, .ref x7, .ref x8, .ref x9, .ref x10, .ref x11, .int x12, .int x13, .int x14, .int x15, .int x16, .int x17, .int x18, .int x19])), (x1, .inr (5, [.ref x0, .int ts, .int tk, .ref tco, .ref t4, .ref t5, .ref t6, .int tv])), (x0, .inr (1, [.int gp, .int gq, .int gh])), (tco, .inl (cA 0, k0, .inl (upd cf i.toNatClampNeg v)))] (some (.int 1)) (wA [(h0, .inr (6, [.ref x0, .ref x1, .ref x2, .int x3, .ref x4, .ref x5, .ref x6, .ref x7, .ref x8, .ref x9, .ref x10, .ref x11, .int x12, .int x13, .int x14, .int x15, .int x16, .int x17, .int x18, .int x19])), (x1, .inr (5, [.ref x0, .int ts, .int tk, .ref tco, .ref t4, .ref t5, .ref t6, .int tv])), (x0, .inr (1, [.int gp, .int gq, .int gh])), (tco, .inl (cA 0, k0, .inl cf))])) 0 0 (wA [(h0, .inr (6, [.ref x0, .ref x1, .ref x2, .int x3, .ref x4, .ref x5, .ref x6, .ref x7, .ref x8, .ref x9, .ref x10, .ref x11, .int x12, .int x13, .int x14, .int x15, .int x16, .int x17, .int x18, .int x19])), (x1, .inr (5, [.ref x0, .int ts, .int tk, .ref tco, .ref t4, .ref t5, .ref t6, .int tv])), (x0, .inr (1, [.int gp, .int gq, .int gh])), (tco, .inl (cA 0, k0, .inl cf))]) := by
  refine Met.ofW (cc := cX7_secret) (maxL := 3) (ret := (some .boolean)) (by decide) rfl ?_
  intro p e s m args below meth c s₁ B hml hv
  obtain ⟨rfl, hP, hK, hD0⟩ := hv
  have hx := B.exec
  have hb := B.bytes
  have hr := B.returns
  have hts := atoms_spec (ws := wsX7_secret) B.pre
  have hown : s.vm.findClass RX7 = some m.cls := findClass_of_methodNamed B.named
  have hlocks := B.notSynchronized
  have hin_X7 : ∀ w ∈ wsX70, w ∈ wsX7_secret := fun w h => List.mem_cons_of_mem _ (List.mem_append_left _ (List.mem_append_left _ (List.mem_append_right _ h)))
  have w_RX7_97 := hts (.fieldLink RX7 97 "MixElection" "stage" "I") (by decide +kernel)
  have w_RX7_48 := hts (.fieldLink RX7 48 "MixElection" "trustees" "LMixElection$Trustees;") (by decide +kernel)
  have hD : va_D (wA [(h0, .inr (6, [.ref x0, .ref x1, .ref x2, .int x3, .ref x4, .ref x5, .ref x6, .ref x7, .ref x8, .ref x9, .ref x10, .ref x11, .int x12, .int x13, .int x14, .int x15, .int x16, .int x17, .int x18, .int x19])), (x1, .inr (5, [.ref x0, .int ts, .int tk, .ref tco, .ref t4, .ref t5, .ref t6, .int tv])), (x0, .inr (1, [.int gp, .int gq, .int gh])), (tco, .inl (cA 0, k0, .inl cf))]) [(h0, .inr (6, [.ref x0, .ref x1, .ref x2, .int x3, .ref x4, .ref x5, .ref x6, .ref x7, .ref x8, .ref x9, .ref x10, .ref x11, .int x12, .int x13, .int x14, .int x15, .int x16, .int x17, .int x18, .int x19])), (x1, .inr (5, [.ref x0, .int ts, .int tk, .ref tco, .ref t4, .ref t5, .ref t6, .int tv])), (x0, .inr (1, [.int gp, .int gq, .int gh])), (tco, .inl (cA 0, k0, .inl cf))] := ⟨hD0.1, fun k q h => List.mem_map.mpr ⟨q, List.mem_of_getElem? h, rfl⟩⟩
  have hS : va_S (wA [(h0, .inr (6, [.ref x0, .ref x1, .ref x2, .int x3, .ref x4, .ref x5, .ref x6, .ref x7, .ref x8, .ref x9, .ref x10, .ref x11, .int x12, .int x13, .int x14, .int x15, .int x16, .int x17, .int x18, .int x19])), (x1, .inr (5, [.ref x0, .int ts, .int tk, .ref tco, .ref t4, .ref t5, .ref t6, .int tv])), (x0, .inr (1, [.int gp, .int gq, .int gh])), (tco, .inl (cA 0, k0, .inl cf))]) s.heap s.heap [] := va_S.rf
  generalize hAe : wA [(h0, .inr (6, [.ref x0, .ref x1, .ref x2, .int x3, .ref x4, .ref x5, .ref x6, .ref x7, .ref x8, .ref x9, .ref x10, .ref x11, .int x12, .int x13, .int x14, .int x15, .int x16, .int x17, .int x18, .int x19])), (x1, .inr (5, [.ref x0, .int ts, .int tk, .ref tco, .ref t4, .ref t5, .ref t6, .int tv])), (x0, .inr (1, [.int gp, .int gq, .int gh])), (tco, .inl (cA 0, k0, .inl cf))] = A at hD hS ⊢
  have hP : va_P D vwCl [(h0, .inr (6, [.ref x0, .ref x1, .ref x2, .int x3, .ref x4, .ref x5, .ref x6, .ref x7, .ref x8, .ref x9, .ref x10, .ref x11, .int x12, .int x13, .int x14, .int x15, .int x16, .int x17, .int x18, .int x19])), (x1, .inr (5, [.ref x0, .int ts, .int tk, .ref tco, .ref t4, .ref t5, .ref t6, .int tv])), (x0, .inr (1, [.int gp, .int gq, .int gh])), (tco, .inl (cA 0, k0, .inl cf))] s.heap := hP
  have hl := lv_entry ([.ref h0, .int i, .int v]) (n := 3) (Nat.le_of_ble_eq_true rfl)
  rw [lg_entry_eq]
  generalize (lg_sl ([.ref h0, .int i, .int v]) ++ List.replicate (3 - (lg_sl ([.ref h0, .int i, .int v])).length) Slot.unset).toArray = ls at hl ⊢
  have hl : lv_has ls 3 [(0, .ref h0), (1, .int i), (2, .int v)] := hl
  refine lv_aload_n hx hb dX7_secret_0 rfl (lv_at hl 0 rfl) ?_
  refine va_get (D := D) (ci := 6) (v := .int x12) (C := RX7) (T := TX7) (N := 20) hx hb hts hin_X7 hown hK hP 0 rfl rfl 12 (by decide) (w_RX7_97) (fun _ h9 => h9) rfl dX7_secret_1 ?_
  refine lv_if_ne (tgt := 23) hx hb dX7_secret_4 (by decide) (fun c_4 => ?_) (fun c_4 => ?_)
  · exact absurd hst c_4
  · skip
    refine lv_aload_n hx hb dX7_secret_7 rfl (lv_at hl 0 rfl) ?_
    refine va_get (D := D) (ci := 6) (v := .ref x1) (C := RX7) (T := TX7) (N := 20) hx hb hts hin_X7 hown hK hP 0 rfl rfl 1 (by decide) (w_RX7_48) (fun _ h9 => h9) rfl dX7_secret_8 ?_
    refine lv_iload_n hx hb dX7_secret_11 rfl (lv_at hl 1 rfl) ?_
    refine lv_iload_n hx hb dX7_secret_12 rfl (lv_at hl 2 rfl) ?_
    refine wq_call1 (v := .int 1) (wc := [(x1, .inr (5, [.ref x0, .int ts, .int tk, .ref tco, .ref t4, .ref t5, .ref t6, .int tv])), (x0, .inr (1, [.int gp, .int gq, .int gh])), (tco, .inl (cA 0, k0, .inl cf))]) (w1 := [(x1, .inr (5, [.ref x0, .int ts, .int tk, .ref tco, .ref t4, .ref t5, .ref t6, .int tv])), (x0, .inr (1, [.int gp, .int gq, .int gh])), (tco, .inl (cA 0, k0, .inl (upd cf i.toNatClampNeg v)))]) (ws' := [(h0, .inr (6, [.ref x0, .ref x1, .ref x2, .int x3, .ref x4, .ref x5, .ref x6, .ref x7, .ref x8, .ref x9, .ref x10, .ref x11, .int x12, .int x13, .int x14, .int x15, .int x16, .int x17, .int x18, .int x19])), (x1, .inr (5, [.ref x0, .int ts, .int tk, .ref tco, .ref t4, .ref t5, .ref t6, .int tv])), (x0, .inr (1, [.int gp, .int gq, .int gh])), (tco, .inl (cA 0, k0, .inl (upd cf i.toNatClampNeg v)))]) (wn_V (As := [.int i, .int v]) (rest := []) (ci := 5) (fs := [.ref x0, .int ts, .int tk, .ref tco, .ref t4, .ref t5, .ref t6, .int tv]) ⟨hx, hb, hml, hown, hts⟩ (c_X6_setCoefficient_ok l D cA x1 x0 ts tk tco t4 t5 t6 tv gp gq gh i v k0 cf (by assumption) (by assumption) (by assumption)) rfl (cwV 2 hts gX7_secret_X6_setCoefficient rfl rfl rfl (by decide +kernel) ⟨Nat.le_of_ble_eq_true rfl, Nat.le_of_ble_eq_true rfl⟩) hK hP hD [1, 2, 3] rfl (by decide) rfl rfl rfl hl.1 rfl (Nat.le_of_ble_eq_true rfl) dX7_secret_13 ⟨Nat.le_of_ble_eq_true rfl, Nat.le_of_ble_eq_true rfl⟩) hP hD hS [1, 2, 3] [0] rfl rfl rfl rfl rfl rfl (fun H locs hP hD hS => ?_)
    refine lv_if_eq (tgt := 23) hx hb dX7_secret_16 (by decide) (fun c_16 => ?_) (fun c_16 => ?_)
    · exact absurd c_16 (by decide)
    · skip
      refine lv_iconst (v := 1) hx hb dX7_secret_19 (by decide) ?_
      refine lv_goto (tgt := 24) hx hb dX7_secret_20 (by decide) ?_
      have hP9 : va_P D vwCl [(h0, .inr (6, [.ref x0, .ref x1, .ref x2, .int x3, .ref x4, .ref x5, .ref x6, .ref x7, .ref x8, .ref x9, .ref x10, .ref x11, .int x12, .int x13, .int x14, .int x15, .int x16, .int x17, .int x18, .int x19])), (x1, .inr (5, [.ref x0, .int ts, .int tk, .ref tco, .ref t4, .ref t5, .ref t6, .int tv])), (x0, .inr (1, [.int gp, .int gq, .int gh])), (tco, .inl (cA 0, k0, .inl (upd cf i.toNatClampNeg v)))] H := hP
      exact W.zret (v := 1) hx hb hr rfl (fun t ht hW => ⟨congrArg (fun z => Outcome.returned (some (Value.int z))) (rfl), by rw [ht]; exact hP9, hS.F ht⟩) hS.2.2 dX7_secret_24

set_option maxHeartbeats 4000000 in
set_option maxRecDepth 100000 in
theorem c_X7_key (l : Launch) (D : va_G) (cA : Nat → ClassId) (h0 : Nat) (x0 : Nat) (x1 : Nat) (x2 : Nat) (x3 : Int32) (x4 : Nat) (x5 : Nat) (x6 : Nat) (x7 : Nat) (x8 : Nat) (x9 : Nat) (x10 : Nat) (x11 : Nat) (x12 : Int32) (x13 : Int32) (x14 : Int32) (x15 : Int32) (x16 : Int32) (x17 : Int32) (x18 : Int32) (x19 : Int32) (ts : Int32) (tk : Int32) (tco : Nat) (t4 : Nat) (t5 : Nat) (t6 : Nat) (tv : Int32) (gp : Int32) (gq : Int32) (gh : Int32) (k0 : Nat) (cg : Nat → Int32) (s0 : Nat) (ka : Nat) (xa : Nat) (ya : Nat) (za : Nat) (ca : Nat) (n : Int32) (kf : Nat → Int32) (xf : Nat → Int32) (yf : Nat → Int32) (zf : Nat → Int64) (cf : Nat → Int64) (n0 : Nat) (hst : x12 = 0) (hk1 : 1 ≤ k0 ∧ k0 ≤ 5) (hs0 : cg (0 : Int32).toNatClampNeg = nI s0) (hs1 : s0 < 2 ^ 31) (hgp : 0 < gp) (hbn : n = nI n0) (h6 : n0 < 600) : Met l yX7_key wsX7_key ({ frames := 4, cells := 0, slots := 0, locals := 90 }) (wPc vwCl D cA [(h0, .inr (6, [.ref x0, .ref x1, .ref x2, .int x3, .ref x4, .ref x5, .ref x6, .ref x7, .ref x8, .ref x9, .ref x10, .ref x11, .int x12, .int x13, .int x14, .int x15, .int x16, .int x17, .int x18, .int x19])), (x1, .inr (5, [.ref x0, .int ts, .int tk, .ref tco, .ref t4, .ref t5, .ref t6, .int tv])), (x0, .inr (1, [.int gp, .int gq, .int gh])), (tco, .inl (cA 0, k0, .inl cg)), (x2, .inr (0, [.ref ka, .ref xa, .ref ya, .ref za, .ref ca, .int n])), (ka, .inl (cA 0, 600, .inl kf)), (xa, .inl (cA 0, 600, .inl xf)), (ya, .inl (cA 0, 600, .inl yf)), (za, .inl (cA 2, 600, .inr (.inl zf))), (ca, .inl (cA 2, 600, .inr (.inl cf)))] [.ref h0]) (wq_x vwCl D [(h0, .inr (6, [.ref x0, .ref x1, .ref x2, .int x3, .ref x4, .ref x5, .ref x6, .ref x7, .ref x8, .ref x9, .ref x10, .ref x11, .int 1, .int x13, .int x14, .int x15, .int x16, .int x17, .int x18, .int x19])), (x1, .inr (5, [.ref x0, .int ts, .int tk, .ref tco, .ref t4, .ref t5, .ref t6, .int tv])), (x0, .inr (1, [.int gp, .int gq, .int (pw gp 32 s0 1 4)])), (tco, .inl (cA 0, k0, .inl cg)), (x2, .inr (0, [.ref ka, .ref xa, .ref ya, .ref za, .ref ca, .int (n + 1)])), (ka, .inl (cA 0, 600, .inl (upd kf n.toNatClampNeg 1))), (xa, .inl (cA 0, 600, .inl (upd xf n.toNatClampNeg (pw gp 32 s0 1 4)))), (ya, .inl (cA 0, 600, .inl (upd yf n.toNatClampNeg ts))), (za, .inl (cA 2, 600, .inr (.inl (vp_updL zf n.toNatClampNeg tk.toInt64)))), (ca, .inl (cA 2, 600, .inr (.inl (vp_updL cf n.toNatClampNeg (dg (dg (dg (dg (cho cf n (n - 1)) ((1 : Int32).toInt64)) ((pw gp 32 s0 1 4).toInt64)) (ts.toInt64)) tk.toInt64)))))] (some (.int (pw gp 32 s0 1 4))) (wA [(h0, .inr (6, [.ref x0, .ref x1, .ref x2, .int x3, .ref x4, .ref x5, .ref x6, .ref x7, .ref x8, .ref x9, .ref x10, .ref x11, .int x12, .int x13, .int x14, .int x15, .int x16, .int x17, .int x18, .int x19])), (x1, .inr (5, [.ref x0, .int ts, .int tk, .ref tco, .ref t4, .ref t5, .ref t6, .int tv])), (x0, .inr (1, [.int gp, .int gq, .int gh])), (tco, .inl (cA 0, k0, .inl cg)), (x2, .inr (0, [.ref ka, .ref xa, .ref ya, .ref za, .ref ca, .int n])), (ka, .inl (cA 0, 600, .inl kf)), (xa, .inl (cA 0, 600, .inl xf)), (ya, .inl (cA 0, 600, .inl yf)), (za, .inl (cA 2, 600, .inr (.inl zf))), (ca, .inl (cA 2, 600, .inr (.inl cf)))])) 0 0 (wA [(h0, .inr (6, [.ref x0, .ref x1, .ref x2, .int x3, .ref x4, .ref x5, .ref x6, .ref x7, .ref x8, .ref x9, .ref x10, .ref x11, .int x12, .int x13, .int x14, .int x15, .int x16, .int x17, .int x18, .int x19])), (x1, .inr (5, [.ref x0, .int ts, .int tk, .ref tco, .ref t4, .ref t5, .ref t6, .int tv])), (x0, .inr (1, [.int gp, .int gq, .int gh])), (tco, .inl (cA 0, k0, .inl cg)), (x2, .inr (0, [.ref ka, .ref xa, .ref ya, .ref za, .ref ca, .int n])), (ka, .inl (cA 0, 600, .inl kf)), (xa, .inl (cA 0, 600, .inl xf)), (ya, .inl (cA 0, 600, .inl yf)), (za, .inl (cA 2, 600, .inr (.inl zf))), (ca, .inl (cA 2, 600, .inr (.inl cf)))]) := by
  refine Met.ofW (cc := cX7_key) (maxL := 1) (ret := (some .int)) (by decide) rfl ?_
  intro p e s m args below meth c s₁ B hml hv
  obtain ⟨rfl, hP, hK, hD0⟩ := hv
  have hx := B.exec
  have hb := B.bytes
  have hr := B.returns
  have hts := atoms_spec (ws := wsX7_key) B.pre
  have hown : s.vm.findClass RX7 = some m.cls := findClass_of_methodNamed B.named
  have hlocks := B.notSynchronized
  have hin_X7 : ∀ w ∈ wsX70, w ∈ wsX7_key := fun w h => List.mem_cons_of_mem _ (List.mem_append_left _ (List.mem_append_left _ (List.mem_append_left _ (List.mem_append_right _ h))))
  have w_RX7_97 := hts (.fieldLink RX7 97 "MixElection" "stage" "I") (by decide +kernel)
  have w_RX7_25 := hts (.fieldLink RX7 25 "MixElection" "group" "LMixElection$Group;") (by decide +kernel)
  have w_RX7_48 := hts (.fieldLink RX7 48 "MixElection" "trustees" "LMixElection$Trustees;") (by decide +kernel)
  have w_RX7_55 := hts (.fieldLink RX7 55 "MixElection" "board" "LMixElection$Board;") (by decide +kernel)
  have hD : va_D (wA [(h0, .inr (6, [.ref x0, .ref x1, .ref x2, .int x3, .ref x4, .ref x5, .ref x6, .ref x7, .ref x8, .ref x9, .ref x10, .ref x11, .int x12, .int x13, .int x14, .int x15, .int x16, .int x17, .int x18, .int x19])), (x1, .inr (5, [.ref x0, .int ts, .int tk, .ref tco, .ref t4, .ref t5, .ref t6, .int tv])), (x0, .inr (1, [.int gp, .int gq, .int gh])), (tco, .inl (cA 0, k0, .inl cg)), (x2, .inr (0, [.ref ka, .ref xa, .ref ya, .ref za, .ref ca, .int n])), (ka, .inl (cA 0, 600, .inl kf)), (xa, .inl (cA 0, 600, .inl xf)), (ya, .inl (cA 0, 600, .inl yf)), (za, .inl (cA 2, 600, .inr (.inl zf))), (ca, .inl (cA 2, 600, .inr (.inl cf)))]) [(h0, .inr (6, [.ref x0, .ref x1, .ref x2, .int x3, .ref x4, .ref x5, .ref x6, .ref x7, .ref x8, .ref x9, .ref x10, .ref x11, .int x12, .int x13, .int x14, .int x15, .int x16, .int x17, .int x18, .int x19])), (x1, .inr (5, [.ref x0, .int ts, .int tk, .ref tco, .ref t4, .ref t5, .ref t6, .int tv])), (x0, .inr (1, [.int gp, .int gq, .int gh])), (tco, .inl (cA 0, k0, .inl cg)), (x2, .inr (0, [.ref ka, .ref xa, .ref ya, .ref za, .ref ca, .int n])), (ka, .inl (cA 0, 600, .inl kf)), (xa, .inl (cA 0, 600, .inl xf)), (ya, .inl (cA 0, 600, .inl yf)), (za, .inl (cA 2, 600, .inr (.inl zf))), (ca, .inl (cA 2, 600, .inr (.inl cf)))] := ⟨hD0.1, fun k q h => List.mem_map.mpr ⟨q, List.mem_of_getElem? h, rfl⟩⟩
  have hS : va_S (wA [(h0, .inr (6, [.ref x0, .ref x1, .ref x2, .int x3, .ref x4, .ref x5, .ref x6, .ref x7, .ref x8, .ref x9, .ref x10, .ref x11, .int x12, .int x13, .int x14, .int x15, .int x16, .int x17, .int x18, .int x19])), (x1, .inr (5, [.ref x0, .int ts, .int tk, .ref tco, .ref t4, .ref t5, .ref t6, .int tv])), (x0, .inr (1, [.int gp, .int gq, .int gh])), (tco, .inl (cA 0, k0, .inl cg)), (x2, .inr (0, [.ref ka, .ref xa, .ref ya, .ref za, .ref ca, .int n])), (ka, .inl (cA 0, 600, .inl kf)), (xa, .inl (cA 0, 600, .inl xf)), (ya, .inl (cA 0, 600, .inl yf)), (za, .inl (cA 2, 600, .inr (.inl zf))), (ca, .inl (cA 2, 600, .inr (.inl cf)))]) s.heap s.heap [] := va_S.rf
  generalize hAe : wA [(h0, .inr (6, [.ref x0, .ref x1, .ref x2, .int x3, .ref x4, .ref x5, .ref x6, .ref x7, .ref x8, .ref x9, .ref x10, .ref x11, .int x12, .int x13, .int x14, .int x15, .int x16, .int x17, .int x18, .int x19])), (x1, .inr (5, [.ref x0, .int ts, .int tk, .ref tco, .ref t4, .ref t5, .ref t6, .int tv])), (x0, .inr (1, [.int gp, .int gq, .int gh])), (tco, .inl (cA 0, k0, .inl cg)), (x2, .inr (0, [.ref ka, .ref xa, .ref ya, .ref za, .ref ca, .int n])), (ka, .inl (cA 0, 600, .inl kf)), (xa, .inl (cA 0, 600, .inl xf)), (ya, .inl (cA 0, 600, .inl yf)), (za, .inl (cA 2, 600, .inr (.inl zf))), (ca, .inl (cA 2, 600, .inr (.inl cf)))] = A at hD hS ⊢
  have hP : va_P D vwCl [(h0, .inr (6, [.ref x0, .ref x1, .ref x2, .int x3, .ref x4, .ref x5, .ref x6, .ref x7, .ref x8, .ref x9, .ref x10, .ref x11, .int x12, .int x13, .int x14, .int x15, .int x16, .int x17, .int x18, .int x19])), (x1, .inr (5, [.ref x0, .int ts, .int tk, .ref tco, .ref t4, .ref t5, .ref t6, .int tv])), (x0, .inr (1, [.int gp, .int gq, .int gh])), (tco, .inl (cA 0, k0, .inl cg)), (x2, .inr (0, [.ref ka, .ref xa, .ref ya, .ref za, .ref ca, .int n])), (ka, .inl (cA 0, 600, .inl kf)), (xa, .inl (cA 0, 600, .inl xf)), (ya, .inl (cA 0, 600, .inl yf)), (za, .inl (cA 2, 600, .inr (.inl zf))), (ca, .inl (cA 2, 600, .inr (.inl cf)))] s.heap := hP
  have hl := lv_entry ([.ref h0]) (n := 1) (Nat.le_of_ble_eq_true rfl)
  rw [lg_entry_eq]
  generalize (lg_sl ([.ref h0]) ++ List.replicate (1 - (lg_sl ([.ref h0])).length) Slot.unset).toArray = ls at hl ⊢
  have hl : lv_has ls 1 [(0, .ref h0)] := hl
  refine lv_aload_n hx hb dX7_key_0 rfl (lv_at hl 0 rfl) ?_
  refine va_get (D := D) (ci := 6) (v := .int x12) (C := RX7) (T := TX7) (N := 20) hx hb hts hin_X7 hown hK hP 0 rfl rfl 12 (by decide) (w_RX7_97) (fun _ h9 => h9) rfl dX7_key_1 ?_
  refine lv_if_eq (tgt := 9) hx hb dX7_key_4 (by decide) (fun c_4 => ?_) (fun c_4 => ?_)
  · skip
    refine lv_aload_n hx hb dX7_key_9 rfl (lv_at hl 0 rfl) ?_
    refine lv_iconst (v := 1) hx hb dX7_key_10 (by decide) ?_
    refine va_put (D := D) (ci := 6) (v := .int 1) (ty := .int) (C := RX7) (T := TX7) (N := 20) hx hb hts hin_X7 tyX7 tyX7_ok nmX7 hown hK hP hD hS 0 rfl rfl 12 (by decide) (w_RX7_97) (fun _ h9 => h9) rfl (by decide +kernel) rfl rfl (Nat.le_of_ble_eq_true rfl) dX7_key_11 (fun H locs hP hD hS => ?_)
    have hP : va_P D vwCl [(h0, .inr (6, [.ref x0, .ref x1, .ref x2, .int x3, .ref x4, .ref x5, .ref x6, .ref x7, .ref x8, .ref x9, .ref x10, .ref x11, .int 1, .int x13, .int x14, .int x15, .int x16, .int x17, .int x18, .int x19])), (x1, .inr (5, [.ref x0, .int ts, .int tk, .ref tco, .ref t4, .ref t5, .ref t6, .int tv])), (x0, .inr (1, [.int gp, .int gq, .int gh])), (tco, .inl (cA 0, k0, .inl cg)), (x2, .inr (0, [.ref ka, .ref xa, .ref ya, .ref za, .ref ca, .int n])), (ka, .inl (cA 0, 600, .inl kf)), (xa, .inl (cA 0, 600, .inl xf)), (ya, .inl (cA 0, 600, .inl yf)), (za, .inl (cA 2, 600, .inr (.inl zf))), (ca, .inl (cA 2, 600, .inr (.inl cf)))] H := hP
    have hD : va_D A [(h0, .inr (6, [.ref x0, .ref x1, .ref x2, .int x3, .ref x4, .ref x5, .ref x6, .ref x7, .ref x8, .ref x9, .ref x10, .ref x11, .int 1, .int x13, .int x14, .int x15, .int x16, .int x17, .int x18, .int x19])), (x1, .inr (5, [.ref x0, .int ts, .int tk, .ref tco, .ref t4, .ref t5, .ref t6, .int tv])), (x0, .inr (1, [.int gp, .int gq, .int gh])), (tco, .inl (cA 0, k0, .inl cg)), (x2, .inr (0, [.ref ka, .ref xa, .ref ya, .ref za, .ref ca, .int n])), (ka, .inl (cA 0, 600, .inl kf)), (xa, .inl (cA 0, 600, .inl xf)), (ya, .inl (cA 0, 600, .inl yf)), (za, .inl (cA 2, 600, .inr (.inl zf))), (ca, .inl (cA 2, 600, .inr (.inl cf)))] := hD
    refine lv_aload_n hx hb dX7_key_14 rfl (lv_at hl 0 rfl) ?_
    refine va_get (D := D) (ci := 6) (v := .ref x0) (C := RX7) (T := TX7) (N := 20) hx hb hts hin_X7 hown hK hP 0 rfl rfl 0 (by decide) (w_RX7_25) (fun _ h9 => h9) rfl dX7_key_15 ?_
    refine lv_aload_n hx hb dX7_key_18 rfl (lv_at hl 0 rfl) ?_
    refine va_get (D := D) (ci := 6) (v := .ref x1) (C := RX7) (T := TX7) (N := 20) hx hb hts hin_X7 hown hK hP 0 rfl rfl 1 (by decide) (w_RX7_48) (fun _ h9 => h9) rfl dX7_key_19 ?_
    refine rq_call1 (v := .int (cg (0 : Int32).toNatClampNeg)) (rn_V (As := []) (rest := [.ref x0]) (ci := 5) (fs := [.ref x0, .int ts, .int tk, .ref tco, .ref t4, .ref t5, .ref t6, .int tv]) ⟨hx, hb, hml, hown, hts⟩ (c_X6_secretKey l D cA x1 x0 ts tk tco t4 t5 t6 tv k0 cg hk1) rfl (cwV 0 hts gX7_key_X6_secretKey rfl rfl rfl (by decide +kernel) ⟨Nat.le_of_ble_eq_true rfl, Nat.le_of_ble_eq_true rfl⟩) hK hP [1, 3] rfl rfl rfl hl.1 rfl (Nat.le_of_ble_eq_true rfl) dX7_key_22 ⟨Nat.le_of_ble_eq_true rfl, Nat.le_of_ble_eq_true rfl⟩) ?_
    refine wq_call0 (wc := [(x0, .inr (1, [.int gp, .int gq, .int gh]))]) (w1 := [(x0, .inr (1, [.int gp, .int gq, .int (pw gp 32 s0 1 4)]))]) (ws' := [(h0, .inr (6, [.ref x0, .ref x1, .ref x2, .int x3, .ref x4, .ref x5, .ref x6, .ref x7, .ref x8, .ref x9, .ref x10, .ref x11, .int 1, .int x13, .int x14, .int x15, .int x16, .int x17, .int x18, .int x19])), (x1, .inr (5, [.ref x0, .int ts, .int tk, .ref tco, .ref t4, .ref t5, .ref t6, .int tv])), (x0, .inr (1, [.int gp, .int gq, .int (pw gp 32 s0 1 4)])), (tco, .inl (cA 0, k0, .inl cg)), (x2, .inr (0, [.ref ka, .ref xa, .ref ya, .ref za, .ref ca, .int n])), (ka, .inl (cA 0, 600, .inl kf)), (xa, .inl (cA 0, 600, .inl xf)), (ya, .inl (cA 0, 600, .inl yf)), (za, .inl (cA 2, 600, .inr (.inl zf))), (ca, .inl (cA 2, 600, .inr (.inl cf)))]) (wn_V (As := [.int (cg (0 : Int32).toNatClampNeg)]) (rest := []) (ci := 1) (fs := [.int gp, .int gq, .int gh]) ⟨hx, hb, hml, hown, hts⟩ (c_X1_tellKey l D cA x0 gp gq gh (cg (0 : Int32).toNatClampNeg) s0 hs0 hs1 hgp) rfl (cwV 1 hts gX7_key_X1_tellKey rfl rfl rfl (by decide +kernel) ⟨Nat.le_of_ble_eq_true rfl, Nat.le_of_ble_eq_true rfl⟩) hK hP hD [2] rfl (by decide) rfl rfl rfl hl.1 rfl (Nat.le_of_ble_eq_true rfl) dX7_key_25 ⟨Nat.le_of_ble_eq_true rfl, Nat.le_of_ble_eq_true rfl⟩) hP hD hS [2] [0, 1, 3, 4, 5, 6, 7, 8, 9] rfl rfl rfl rfl rfl rfl (fun H locs hP hD hS => ?_)
    refine lv_aload_n hx hb dX7_key_28 rfl (lv_at hl 0 rfl) ?_
    refine va_get (D := D) (ci := 6) (v := .ref x2) (C := RX7) (T := TX7) (N := 20) hx hb hts hin_X7 hown hK hP 0 rfl rfl 2 (by decide) (w_RX7_55) (fun _ h9 => h9) rfl dX7_key_29 ?_
    refine lv_iconst (v := 1) hx hb dX7_key_32 (by decide) ?_
    refine lv_aload_n hx hb dX7_key_33 rfl (lv_at hl 0 rfl) ?_
    refine va_get (D := D) (ci := 6) (v := .ref x0) (C := RX7) (T := TX7) (N := 20) hx hb hts hin_X7 hown hK hP 0 rfl rfl 0 (by decide) (w_RX7_25) (fun _ h9 => h9) rfl dX7_key_34 ?_
    refine rq_call1 (v := .int (pw gp 32 s0 1 4)) (rn_V (As := []) (rest := [.int 1, .ref x2]) (ci := 1) (fs := [.int gp, .int gq, .int (pw gp 32 s0 1 4)]) ⟨hx, hb, hml, hown, hts⟩ (c_X1_publicKey l D cA x0 gp gq (pw gp 32 s0 1 4)) rfl (cwV 0 hts gX7_key_X1_publicKey rfl rfl rfl (by decide +kernel) ⟨Nat.le_of_ble_eq_true rfl, Nat.le_of_ble_eq_true rfl⟩) hK hP [2] rfl rfl rfl hl.1 rfl (Nat.le_of_ble_eq_true rfl) dX7_key_37 ⟨Nat.le_of_ble_eq_true rfl, Nat.le_of_ble_eq_true rfl⟩) ?_
    refine lv_aload_n hx hb dX7_key_40 rfl (lv_at hl 0 rfl) ?_
    refine va_get (D := D) (ci := 6) (v := .ref x1) (C := RX7) (T := TX7) (N := 20) hx hb hts hin_X7 hown hK hP 0 rfl rfl 1 (by decide) (w_RX7_48) (fun _ h9 => h9) rfl dX7_key_41 ?_
    refine rq_call1 (v := .int ts) (rn_V (As := []) (rest := [.int (pw gp 32 s0 1 4), .int 1, .ref x2]) (ci := 5) (fs := [.ref x0, .int ts, .int tk, .ref tco, .ref t4, .ref t5, .ref t6, .int tv]) ⟨hx, hb, hml, hown, hts⟩ (c_X6_size l D cA x1 x0 ts tk tco t4 t5 t6 tv) rfl (cwV 0 hts gX7_key_X6_size rfl rfl rfl (by decide +kernel) ⟨Nat.le_of_ble_eq_true rfl, Nat.le_of_ble_eq_true rfl⟩) hK hP [1] rfl rfl rfl hl.1 rfl (Nat.le_of_ble_eq_true rfl) dX7_key_44 ⟨Nat.le_of_ble_eq_true rfl, Nat.le_of_ble_eq_true rfl⟩) ?_
    refine lv_aload_n hx hb dX7_key_47 rfl (lv_at hl 0 rfl) ?_
    refine va_get (D := D) (ci := 6) (v := .ref x1) (C := RX7) (T := TX7) (N := 20) hx hb hts hin_X7 hown hK hP 0 rfl rfl 1 (by decide) (w_RX7_48) (fun _ h9 => h9) rfl dX7_key_48 ?_
    refine rq_call1 (v := .int tk) (rn_V (As := []) (rest := [.int ts, .int (pw gp 32 s0 1 4), .int 1, .ref x2]) (ci := 5) (fs := [.ref x0, .int ts, .int tk, .ref tco, .ref t4, .ref t5, .ref t6, .int tv]) ⟨hx, hb, hml, hown, hts⟩ (c_X6_needed l D cA x1 x0 ts tk tco t4 t5 t6 tv) rfl (cwV 0 hts gX7_key_X6_needed rfl rfl rfl (by decide +kernel) ⟨Nat.le_of_ble_eq_true rfl, Nat.le_of_ble_eq_true rfl⟩) hK hP [1] rfl rfl rfl hl.1 rfl (Nat.le_of_ble_eq_true rfl) dX7_key_51 ⟨Nat.le_of_ble_eq_true rfl, Nat.le_of_ble_eq_true rfl⟩) ?_
    refine lv_i2l hx hb dX7_key_54 rfl ?_
    refine wq_call1 (v := .long (dg (dg (dg (dg (cho cf n (n - 1)) ((1 : Int32).toInt64)) ((pw gp 32 s0 1 4).toInt64)) (ts.toInt64)) tk.toInt64)) (wc := [(x2, .inr (0, [.ref ka, .ref xa, .ref ya, .ref za, .ref ca, .int n])), (ka, .inl (cA 0, 600, .inl kf)), (xa, .inl (cA 0, 600, .inl xf)), (ya, .inl (cA 0, 600, .inl yf)), (za, .inl (cA 2, 600, .inr (.inl zf))), (ca, .inl (cA 2, 600, .inr (.inl cf)))]) (w1 := [(x2, .inr (0, [.ref ka, .ref xa, .ref ya, .ref za, .ref ca, .int (n + 1)])), (ka, .inl (cA 0, 600, .inl (upd kf n.toNatClampNeg 1))), (xa, .inl (cA 0, 600, .inl (upd xf n.toNatClampNeg (pw gp 32 s0 1 4)))), (ya, .inl (cA 0, 600, .inl (upd yf n.toNatClampNeg ts))), (za, .inl (cA 2, 600, .inr (.inl (vp_updL zf n.toNatClampNeg tk.toInt64)))), (ca, .inl (cA 2, 600, .inr (.inl (vp_updL cf n.toNatClampNeg (dg (dg (dg (dg (cho cf n (n - 1)) ((1 : Int32).toInt64)) ((pw gp 32 s0 1 4).toInt64)) (ts.toInt64)) tk.toInt64)))))]) (ws' := [(h0, .inr (6, [.ref x0, .ref x1, .ref x2, .int x3, .ref x4, .ref x5, .ref x6, .ref x7, .ref x8, .ref x9, .ref x10, .ref x11, .int 1, .int x13, .int x14, .int x15, .int x16, .int x17, .int x18, .int x19])), (x1, .inr (5, [.ref x0, .int ts, .int tk, .ref tco, .ref t4, .ref t5, .ref t6, .int tv])), (x0, .inr (1, [.int gp, .int gq, .int (pw gp 32 s0 1 4)])), (tco, .inl (cA 0, k0, .inl cg)), (x2, .inr (0, [.ref ka, .ref xa, .ref ya, .ref za, .ref ca, .int (n + 1)])), (ka, .inl (cA 0, 600, .inl (upd kf n.toNatClampNeg 1))), (xa, .inl (cA 0, 600, .inl (upd xf n.toNatClampNeg (pw gp 32 s0 1 4)))), (ya, .inl (cA 0, 600, .inl (upd yf n.toNatClampNeg ts))), (za, .inl (cA 2, 600, .inr (.inl (vp_updL zf n.toNatClampNeg tk.toInt64)))), (ca, .inl (cA 2, 600, .inr (.inl (vp_updL cf n.toNatClampNeg (dg (dg (dg (dg (cho cf n (n - 1)) ((1 : Int32).toInt64)) ((pw gp 32 s0 1 4).toInt64)) (ts.toInt64)) tk.toInt64)))))]) (wn_V (As := [.int 1, .int (pw gp 32 s0 1 4), .int ts, .long tk.toInt64]) (rest := []) (ci := 0) (fs := [.ref ka, .ref xa, .ref ya, .ref za, .ref ca, .int n]) ⟨hx, hb, hml, hown, hts⟩ (c_X0_add l D cA x2 ka xa ya za ca n kf xf yf zf cf 1 (pw gp 32 s0 1 4) ts tk.toInt64 n0 hbn h6) rfl (cwV 4 hts gX7_key_X0_add rfl rfl rfl (by decide +kernel) ⟨Nat.le_of_ble_eq_true rfl, Nat.le_of_ble_eq_true rfl⟩) hK hP hD [4, 5, 6, 7, 8, 9] rfl (by decide) rfl rfl rfl hl.1 rfl (Nat.le_of_ble_eq_true rfl) dX7_key_55 ⟨Nat.le_of_ble_eq_true rfl, Nat.le_of_ble_eq_true rfl⟩) hP hD hS [4, 5, 6, 7, 8, 9] [0, 1, 2, 3] rfl rfl rfl rfl rfl rfl (fun H locs hP hD hS => ?_)
    refine lv_pop2_2 hx hb dX7_key_58 rfl ?_
    refine lv_aload_n hx hb dX7_key_59 rfl (lv_at hl 0 rfl) ?_
    refine va_get (D := D) (ci := 6) (v := .ref x0) (C := RX7) (T := TX7) (N := 20) hx hb hts hin_X7 hown hK hP 0 rfl rfl 0 (by decide) (w_RX7_25) (fun _ h9 => h9) rfl dX7_key_60 ?_
    refine rq_call1 (v := .int (pw gp 32 s0 1 4)) (rn_V (As := []) (rest := []) (ci := 1) (fs := [.int gp, .int gq, .int (pw gp 32 s0 1 4)]) ⟨hx, hb, hml, hown, hts⟩ (c_X1_publicKey l D cA x0 gp gq (pw gp 32 s0 1 4)) rfl (cwV 0 hts gX7_key_X1_publicKey rfl rfl rfl (by decide +kernel) ⟨Nat.le_of_ble_eq_true rfl, Nat.le_of_ble_eq_true rfl⟩) hK hP [2] rfl rfl rfl hl.1 rfl (Nat.le_of_ble_eq_true rfl) dX7_key_63 ⟨Nat.le_of_ble_eq_true rfl, Nat.le_of_ble_eq_true rfl⟩) ?_
    have hP9 : va_P D vwCl [(h0, .inr (6, [.ref x0, .ref x1, .ref x2, .int x3, .ref x4, .ref x5, .ref x6, .ref x7, .ref x8, .ref x9, .ref x10, .ref x11, .int 1, .int x13, .int x14, .int x15, .int x16, .int x17, .int x18, .int x19])), (x1, .inr (5, [.ref x0, .int ts, .int tk, .ref tco, .ref t4, .ref t5, .ref t6, .int tv])), (x0, .inr (1, [.int gp, .int gq, .int (pw gp 32 s0 1 4)])), (tco, .inl (cA 0, k0, .inl cg)), (x2, .inr (0, [.ref ka, .ref xa, .ref ya, .ref za, .ref ca, .int (n + 1)])), (ka, .inl (cA 0, 600, .inl (upd kf n.toNatClampNeg 1))), (xa, .inl (cA 0, 600, .inl (upd xf n.toNatClampNeg (pw gp 32 s0 1 4)))), (ya, .inl (cA 0, 600, .inl (upd yf n.toNatClampNeg ts))), (za, .inl (cA 2, 600, .inr (.inl (vp_updL zf n.toNatClampNeg tk.toInt64)))), (ca, .inl (cA 2, 600, .inr (.inl (vp_updL cf n.toNatClampNeg (dg (dg (dg (dg (cho cf n (n - 1)) ((1 : Int32).toInt64)) ((pw gp 32 s0 1 4).toInt64)) (ts.toInt64)) tk.toInt64)))))] H := hP
    exact W.iret (v := (pw gp 32 s0 1 4)) hx hb hr (fun t ht hW => ⟨congrArg (fun z => Outcome.returned (some (Value.int z))) (rfl), by rw [ht]; exact hP9, hS.F ht⟩) hS.2.2 dX7_key_66
  · exact absurd hst c_4

set_option maxHeartbeats 4000000 in
set_option maxRecDepth 100000 in
theorem c_X7_voter (l : Launch) (D : va_G) (cA : Nat → ClassId) (h0 : Nat) (x0 : Nat) (x1 : Nat) (x2 : Nat) (x3 : Int32) (x4 : Nat) (x5 : Nat) (x6 : Nat) (x7 : Nat) (x8 : Nat) (x9 : Nat) (x10 : Nat) (x11 : Nat) (x12 : Int32) (x13 : Int32) (x14 : Int32) (x15 : Int32) (x16 : Int32) (x17 : Int32) (x18 : Int32) (x19 : Int32) (hst : ¬ 1 < x12) (hv : x13 < 40) : Met l yX7_voter wsX7_voter ({ frames := 0, cells := 0, slots := 0, locals := 0 }) (wPc vwCl D cA [(h0, .inr (6, [.ref x0, .ref x1, .ref x2, .int x3, .ref x4, .ref x5, .ref x6, .ref x7, .ref x8, .ref x9, .ref x10, .ref x11, .int x12, .int x13, .int x14, .int x15, .int x16, .int x17, .int x18, .int x19]))] [.ref h0]) (wq_x vwCl D [(h0, .inr (6, [.ref x0, .ref x1, .ref x2, .int x3, .ref x4, .ref x5, .ref x6, .ref x7, .ref x8, .ref x9, .ref x10, .ref x11, .int x12, .int (x13 + 1), .int x14, .int x15, .int x16, .int x17, .int x18, .int x19]))] (some (.int ((x13 + 1) - 1))) (wA [(h0, .inr (6, [.ref x0, .ref x1, .ref x2, .int x3, .ref x4, .ref x5, .ref x6, .ref x7, .ref x8, .ref x9, .ref x10, .ref x11, .int x12, .int x13, .int x14, .int x15, .int x16, .int x17, .int x18, .int x19]))])) 0 0 (wA [(h0, .inr (6, [.ref x0, .ref x1, .ref x2, .int x3, .ref x4, .ref x5, .ref x6, .ref x7, .ref x8, .ref x9, .ref x10, .ref x11, .int x12, .int x13, .int x14, .int x15, .int x16, .int x17, .int x18, .int x19]))]) := by
  refine Met.ofW (cc := cX7_voter) (maxL := 1) (ret := (some .int)) (by decide) rfl ?_
  intro p e s m args below meth c s₁ B hml hv
  obtain ⟨rfl, hP, hK, hD0⟩ := hv
  have hx := B.exec
  have hb := B.bytes
  have hr := B.returns
  have hts := atoms_spec (ws := wsX7_voter) B.pre
  have hown : s.vm.findClass RX7 = some m.cls := findClass_of_methodNamed B.named
  have hlocks := B.notSynchronized
  have hin_X7 : ∀ w ∈ wsX70, w ∈ wsX7_voter := fun w h => List.mem_cons_of_mem _ (List.mem_append_right _ h)
  have w_RX7_97 := hts (.fieldLink RX7 97 "MixElection" "stage" "I") (by decide +kernel)
  have w_RX7_123 := hts (.fieldLink RX7 123 "MixElection" "voters" "I") (by decide +kernel)
  have hD : va_D (wA [(h0, .inr (6, [.ref x0, .ref x1, .ref x2, .int x3, .ref x4, .ref x5, .ref x6, .ref x7, .ref x8, .ref x9, .ref x10, .ref x11, .int x12, .int x13, .int x14, .int x15, .int x16, .int x17, .int x18, .int x19]))]) [(h0, .inr (6, [.ref x0, .ref x1, .ref x2, .int x3, .ref x4, .ref x5, .ref x6, .ref x7, .ref x8, .ref x9, .ref x10, .ref x11, .int x12, .int x13, .int x14, .int x15, .int x16, .int x17, .int x18, .int x19]))] := ⟨hD0.1, fun k q h => List.mem_map.mpr ⟨q, List.mem_of_getElem? h, rfl⟩⟩
  have hS : va_S (wA [(h0, .inr (6, [.ref x0, .ref x1, .ref x2, .int x3, .ref x4, .ref x5, .ref x6, .ref x7, .ref x8, .ref x9, .ref x10, .ref x11, .int x12, .int x13, .int x14, .int x15, .int x16, .int x17, .int x18, .int x19]))]) s.heap s.heap [] := va_S.rf
  generalize hAe : wA [(h0, .inr (6, [.ref x0, .ref x1, .ref x2, .int x3, .ref x4, .ref x5, .ref x6, .ref x7, .ref x8, .ref x9, .ref x10, .ref x11, .int x12, .int x13, .int x14, .int x15, .int x16, .int x17, .int x18, .int x19]))] = A at hD hS ⊢
  have hP : va_P D vwCl [(h0, .inr (6, [.ref x0, .ref x1, .ref x2, .int x3, .ref x4, .ref x5, .ref x6, .ref x7, .ref x8, .ref x9, .ref x10, .ref x11, .int x12, .int x13, .int x14, .int x15, .int x16, .int x17, .int x18, .int x19]))] s.heap := hP
  have hl := lv_entry ([.ref h0]) (n := 1) (Nat.le_of_ble_eq_true rfl)
  rw [lg_entry_eq]
  generalize (lg_sl ([.ref h0]) ++ List.replicate (1 - (lg_sl ([.ref h0])).length) Slot.unset).toArray = ls at hl ⊢
  have hl : lv_has ls 1 [(0, .ref h0)] := hl
  refine lv_aload_n hx hb dX7_voter_0 rfl (lv_at hl 0 rfl) ?_
  refine va_get (D := D) (ci := 6) (v := .int x12) (C := RX7) (T := TX7) (N := 20) hx hb hts hin_X7 hown hK hP 0 rfl rfl 12 (by decide) (w_RX7_97) (fun _ h9 => h9) rfl dX7_voter_1 ?_
  refine lv_iconst (v := 1) hx hb dX7_voter_4 (by decide) ?_
  refine lv_icmp_gt (tgt := 17) hx hb dX7_voter_5 (by decide) (fun c_5 => ?_) (fun c_5 => ?_)
  · exact absurd c_5 hst
  · skip
    refine lv_aload_n hx hb dX7_voter_8 rfl (lv_at hl 0 rfl) ?_
    refine va_get (D := D) (ci := 6) (v := .int x13) (C := RX7) (T := TX7) (N := 20) hx hb hts hin_X7 hown hK hP 0 rfl rfl 13 (by decide) (w_RX7_123) (fun _ h9 => h9) rfl dX7_voter_9 ?_
    refine lv_bipush (v := 40) hx hb dX7_voter_12 (by decide) ?_
    refine lv_icmp_lt (tgt := 19) hx hb dX7_voter_14 (by decide) (fun c_14 => ?_) (fun c_14 => ?_)
    · skip
      refine lv_aload_n hx hb dX7_voter_19 rfl (lv_at hl 0 rfl) ?_
      refine lv_dup hx hb dX7_voter_20 rfl ?_
      refine va_get (D := D) (ci := 6) (v := .int x13) (C := RX7) (T := TX7) (N := 20) hx hb hts hin_X7 hown hK hP 0 rfl rfl 13 (by decide) (w_RX7_123) (fun _ h9 => h9) rfl dX7_voter_21 ?_
      refine lv_iconst (v := 1) hx hb dX7_voter_24 (by decide) ?_
      refine lv_iadd hx hb dX7_voter_25 ?_
      refine va_put (D := D) (ci := 6) (v := .int (x13 + 1)) (ty := .int) (C := RX7) (T := TX7) (N := 20) hx hb hts hin_X7 tyX7 tyX7_ok nmX7 hown hK hP hD hS 0 rfl rfl 13 (by decide) (w_RX7_123) (fun _ h9 => h9) rfl (by decide +kernel) rfl rfl (Nat.le_of_ble_eq_true rfl) dX7_voter_26 (fun H locs hP hD hS => ?_)
      have hP : va_P D vwCl [(h0, .inr (6, [.ref x0, .ref x1, .ref x2, .int x3, .ref x4, .ref x5, .ref x6, .ref x7, .ref x8, .ref x9, .ref x10, .ref x11, .int x12, .int (x13 + 1), .int x14, .int x15, .int x16, .int x17, .int x18, .int x19]))] H := hP
      have hD : va_D A [(h0, .inr (6, [.ref x0, .ref x1, .ref x2, .int x3, .ref x4, .ref x5, .ref x6, .ref x7, .ref x8, .ref x9, .ref x10, .ref x11, .int x12, .int (x13 + 1), .int x14, .int x15, .int x16, .int x17, .int x18, .int x19]))] := hD
      refine lv_aload_n hx hb dX7_voter_29 rfl (lv_at hl 0 rfl) ?_
      refine va_get (D := D) (ci := 6) (v := .int (x13 + 1)) (C := RX7) (T := TX7) (N := 20) hx hb hts hin_X7 hown hK hP 0 rfl rfl 13 (by decide) (w_RX7_123) (fun _ h9 => h9) rfl dX7_voter_30 ?_
      refine lv_iconst (v := 1) hx hb dX7_voter_33 (by decide) ?_
      refine lv_isub hx hb dX7_voter_34 ?_
      have hP9 : va_P D vwCl [(h0, .inr (6, [.ref x0, .ref x1, .ref x2, .int x3, .ref x4, .ref x5, .ref x6, .ref x7, .ref x8, .ref x9, .ref x10, .ref x11, .int x12, .int (x13 + 1), .int x14, .int x15, .int x16, .int x17, .int x18, .int x19]))] H := hP
      exact W.iret (v := ((x13 + 1) - 1)) hx hb hr (fun t ht hW => ⟨congrArg (fun z => Outcome.returned (some (Value.int z))) (rfl), by rw [ht]; exact hP9, hS.F ht⟩) hS.2.2 dX7_voter_35
    · exact absurd hv c_14

set_option maxHeartbeats 4000000 in
set_option maxRecDepth 100000 in
theorem c_X7_mayCast_st (l : Launch) (D : va_G) (cA : Nat → ClassId) (h0 : Nat) (x0 : Nat) (x1 : Nat) (x2 : Nat) (x3 : Int32) (x4 : Nat) (x5 : Nat) (x6 : Nat) (x7 : Nat) (x8 : Nat) (x9 : Nat) (x10 : Nat) (x11 : Nat) (x12 : Int32) (x13 : Int32) (x14 : Int32) (x15 : Int32) (x16 : Int32) (x17 : Int32) (x18 : Int32) (x19 : Int32) (v : Int32) (hst : ¬ x12 = 1) : Met l yX7_mayCast wsX7_mayCast ({ frames := 0, cells := 0, slots := 0, locals := 0 }) (rPc vwCl D cA [(h0, .inr (6, [.ref x0, .ref x1, .ref x2, .int x3, .ref x4, .ref x5, .ref x6, .ref x7, .ref x8, .ref x9, .ref x10, .ref x11, .int x12, .int x13, .int x14, .int x15, .int x16, .int x17, .int x18, .int x19]))] [.ref h0, .int v]) (rq_x (some (.int 0))) 0 0 (fun _ => False) := by
  refine Met.ofW (cc := cX7_mayCast) (maxL := 2) (ret := (some .boolean)) (by decide) rfl ?_
  intro p e s m args below meth c s₁ B hml hv
  obtain ⟨rfl, hP, hK⟩ := hv
  have hx := B.exec
  have hb := B.bytes
  have hr := B.returns
  have hts := atoms_spec (ws := wsX7_mayCast) B.pre
  have hown : s.vm.findClass RX7 = some m.cls := findClass_of_methodNamed B.named
  have hlocks := B.notSynchronized
  have hin_X7 : ∀ w ∈ wsX70, w ∈ wsX7_mayCast := fun w h => List.mem_cons_of_mem _ (List.mem_append_left _ (List.mem_append_right _ h))
  have w_RX7_97 := hts (.fieldLink RX7 97 "MixElection" "stage" "I") (by decide +kernel)
  have hl := lv_entry ([.ref h0, .int v]) (n := 2) (Nat.le_of_ble_eq_true rfl)
  rw [lg_entry_eq]
  generalize (lg_sl ([.ref h0, .int v]) ++ List.replicate (2 - (lg_sl ([.ref h0, .int v])).length) Slot.unset).toArray = ls at hl ⊢
  have hl : lv_has ls 2 [(0, .ref h0), (1, .int v)] := hl
  refine lv_aload_n hx hb dX7_mayCast_0 rfl (lv_at hl 0 rfl) ?_
  refine va_get (D := D) (ci := 6) (v := .int x12) (C := RX7) (T := TX7) (N := 20) hx hb hts hin_X7 hown hK hP 0 rfl rfl 12 (by decide) (w_RX7_97) (fun _ h9 => h9) rfl dX7_mayCast_1 ?_
  refine lv_iconst (v := 1) hx hb dX7_mayCast_4 (by decide) ?_
  refine lv_icmp_ne (tgt := 37) hx hb dX7_mayCast_5 (by decide) (fun c_5 => ?_) (fun c_5 => ?_)
  · skip
    refine lv_iconst (v := 0) hx hb dX7_mayCast_37 (by decide) ?_
    exact W.zret (v := 0) hx hb hr rfl (fun t ht hW => ⟨congrArg (fun z => Outcome.returned (some (Value.int z))) (rfl), ht⟩) (fun _ h => by cases h) dX7_mayCast_38
  · exact absurd c_5 hst

set_option maxHeartbeats 4000000 in
set_option maxRecDepth 100000 in
theorem c_X7_cast_st (l : Launch) (D : va_G) (cA : Nat → ClassId) (h0 : Nat) (x0 : Nat) (x1 : Nat) (x2 : Nat) (x3 : Int32) (x4 : Nat) (x5 : Nat) (x6 : Nat) (x7 : Nat) (x8 : Nat) (x9 : Nat) (x10 : Nat) (x11 : Nat) (x12 : Int32) (x13 : Int32) (x14 : Int32) (x15 : Int32) (x16 : Int32) (x17 : Int32) (x18 : Int32) (x19 : Int32) (v : Int32) (w : Int32) (r : Int32) (hst : ¬ x12 = 1) : Met l yX7_cast wsX7_cast ({ frames := 1, cells := 0, slots := 0, locals := 21 }) (rPc vwCl D cA [(h0, .inr (6, [.ref x0, .ref x1, .ref x2, .int x3, .ref x4, .ref x5, .ref x6, .ref x7, .ref x8, .ref x9, .ref x10, .ref x11, .int x12, .int x13, .int x14, .int x15, .int x16, .int x17, .int x18, .int x19]))] [.ref h0, .int v, .int w, .int r]) (rq_x (some (.long 0))) 0 0 (fun _ => False) := by
  refine Met.ofW (cc := cX7_cast) (maxL := 4) (ret := (some .long)) (by decide) rfl ?_
  intro p e s m args below meth c s₁ B hml hv
  obtain ⟨rfl, hP, hK⟩ := hv
  have hx := B.exec
  have hb := B.bytes
  have hr := B.returns
  have hts := atoms_spec (ws := wsX7_cast) B.pre
  have hown : s.vm.findClass RX7 = some m.cls := findClass_of_methodNamed B.named
  have hlocks := B.notSynchronized
  have hl := lv_entry ([.ref h0, .int v, .int w, .int r]) (n := 4) (Nat.le_of_ble_eq_true rfl)
  rw [lg_entry_eq]
  generalize (lg_sl ([.ref h0, .int v, .int w, .int r]) ++ List.replicate (4 - (lg_sl ([.ref h0, .int v, .int w, .int r])).length) Slot.unset).toArray = ls at hl ⊢
  have hl : lv_has ls 4 [(0, .ref h0), (1, .int v), (2, .int w), (3, .int r)] := hl
  refine lv_aload_n hx hb dX7_cast_0 rfl (lv_at hl 0 rfl) ?_
  refine lv_iload_n hx hb dX7_cast_1 rfl (lv_at hl 1 rfl) ?_
  refine rq_call1 (v := .int 0) (rn_V (As := [.int v]) (rest := []) (ci := 6) (fs := [.ref x0, .ref x1, .ref x2, .int x3, .ref x4, .ref x5, .ref x6, .ref x7, .ref x8, .ref x9, .ref x10, .ref x11, .int x12, .int x13, .int x14, .int x15, .int x16, .int x17, .int x18, .int x19]) ⟨hx, hb, hml, hown, hts⟩ (c_X7_mayCast_st l D cA h0 x0 x1 x2 x3 x4 x5 x6 x7 x8 x9 x10 x11 x12 x13 x14 x15 x16 x17 x18 x19 v (by assumption)) rfl (cwV 1 hts gX7_cast_X7_mayCast rfl rfl rfl (by decide +kernel) ⟨Nat.le_of_ble_eq_true rfl, Nat.le_of_ble_eq_true rfl⟩) hK hP [0] rfl rfl rfl hl.1 rfl (Nat.le_of_ble_eq_true rfl) dX7_cast_2 ⟨Nat.le_of_ble_eq_true rfl, Nat.le_of_ble_eq_true rfl⟩) ?_
  refine lv_if_eq (tgt := 27) hx hb dX7_cast_5 (by decide) (fun c_5 => ?_) (fun c_5 => ?_)
  · skip
    refine lv_lconst (v := 0) hx hb dX7_cast_27 (by decide) ?_
    exact W.lret (v := 0) hx hb hr (fun t ht hW => ⟨congrArg (fun z => Outcome.returned (some (Value.long z))) (rfl), ht⟩) (fun _ h => by cases h) dX7_cast_28
  · exact absurd rfl c_5

set_option maxHeartbeats 4000000 in
set_option maxRecDepth 100000 in
theorem c_X7_castPair_st (l : Launch) (D : va_G) (cA : Nat → ClassId) (h0 : Nat) (x0 : Nat) (x1 : Nat) (x2 : Nat) (x3 : Int32) (x4 : Nat) (x5 : Nat) (x6 : Nat) (x7 : Nat) (x8 : Nat) (x9 : Nat) (x10 : Nat) (x11 : Nat) (x12 : Int32) (x13 : Int32) (x14 : Int32) (x15 : Int32) (x16 : Int32) (x17 : Int32) (x18 : Int32) (x19 : Int32) (v : Int32) (w : Int32) (r : Int32) (hst : ¬ x12 = 1) : Met l yX7_castPair wsX7_castPair ({ frames := 1, cells := 0, slots := 0, locals := 21 }) (rPc vwCl D cA [(h0, .inr (6, [.ref x0, .ref x1, .ref x2, .int x3, .ref x4, .ref x5, .ref x6, .ref x7, .ref x8, .ref x9, .ref x10, .ref x11, .int x12, .int x13, .int x14, .int x15, .int x16, .int x17, .int x18, .int x19]))] [.ref h0, .int v, .int w, .int r]) (rq_x (some (.long 0))) 0 0 (fun _ => False) := by
  refine Met.ofW (cc := cX7_castPair) (maxL := 4) (ret := (some .long)) (by decide) rfl ?_
  intro p e s m args below meth c s₁ B hml hv
  obtain ⟨rfl, hP, hK⟩ := hv
  have hx := B.exec
  have hb := B.bytes
  have hr := B.returns
  have hts := atoms_spec (ws := wsX7_castPair) B.pre
  have hown : s.vm.findClass RX7 = some m.cls := findClass_of_methodNamed B.named
  have hlocks := B.notSynchronized
  have hl := lv_entry ([.ref h0, .int v, .int w, .int r]) (n := 4) (Nat.le_of_ble_eq_true rfl)
  rw [lg_entry_eq]
  generalize (lg_sl ([.ref h0, .int v, .int w, .int r]) ++ List.replicate (4 - (lg_sl ([.ref h0, .int v, .int w, .int r])).length) Slot.unset).toArray = ls at hl ⊢
  have hl : lv_has ls 4 [(0, .ref h0), (1, .int v), (2, .int w), (3, .int r)] := hl
  refine lv_aload_n hx hb dX7_castPair_0 rfl (lv_at hl 0 rfl) ?_
  refine lv_iload_n hx hb dX7_castPair_1 rfl (lv_at hl 1 rfl) ?_
  refine rq_call1 (v := .int 0) (rn_V (As := [.int v]) (rest := []) (ci := 6) (fs := [.ref x0, .ref x1, .ref x2, .int x3, .ref x4, .ref x5, .ref x6, .ref x7, .ref x8, .ref x9, .ref x10, .ref x11, .int x12, .int x13, .int x14, .int x15, .int x16, .int x17, .int x18, .int x19]) ⟨hx, hb, hml, hown, hts⟩ (c_X7_mayCast_st l D cA h0 x0 x1 x2 x3 x4 x5 x6 x7 x8 x9 x10 x11 x12 x13 x14 x15 x16 x17 x18 x19 v (by assumption)) rfl (cwV 1 hts gX7_castPair_X7_mayCast rfl rfl rfl (by decide +kernel) ⟨Nat.le_of_ble_eq_true rfl, Nat.le_of_ble_eq_true rfl⟩) hK hP [0] rfl rfl rfl hl.1 rfl (Nat.le_of_ble_eq_true rfl) dX7_castPair_2 ⟨Nat.le_of_ble_eq_true rfl, Nat.le_of_ble_eq_true rfl⟩) ?_
  refine lv_if_eq (tgt := 20) hx hb dX7_castPair_5 (by decide) (fun c_5 => ?_) (fun c_5 => ?_)
  · skip
    refine lv_lconst (v := 0) hx hb dX7_castPair_20 (by decide) ?_
    exact W.lret (v := 0) hx hb hr (fun t ht hW => ⟨congrArg (fun z => Outcome.returned (some (Value.long z))) (rfl), ht⟩) (fun _ h => by cases h) dX7_castPair_21
  · exact absurd rfl c_5

set_option maxHeartbeats 4000000 in
set_option maxRecDepth 100000 in
theorem c_X7_close_st (l : Launch) (D : va_G) (cA : Nat → ClassId) (h0 : Nat) (x0 : Nat) (x1 : Nat) (x2 : Nat) (x3 : Int32) (x4 : Nat) (x5 : Nat) (x6 : Nat) (x7 : Nat) (x8 : Nat) (x9 : Nat) (x10 : Nat) (x11 : Nat) (x12 : Int32) (x13 : Int32) (x14 : Int32) (x15 : Int32) (x16 : Int32) (x17 : Int32) (x18 : Int32) (x19 : Int32) (hst : ¬ x12 = 1) : Met l yX7_close wsX7_close ({ frames := 0, cells := 0, slots := 0, locals := 0 }) (rPc vwCl D cA [(h0, .inr (6, [.ref x0, .ref x1, .ref x2, .int x3, .ref x4, .ref x5, .ref x6, .ref x7, .ref x8, .ref x9, .ref x10, .ref x11, .int x12, .int x13, .int x14, .int x15, .int x16, .int x17, .int x18, .int x19]))] [.ref h0]) (rq_x (some (.int (-1)))) 0 0 (fun _ => False) := by
  refine Met.ofW (cc := cX7_close) (maxL := 1) (ret := (some .int)) (by decide) rfl ?_
  intro p e s m args below meth c s₁ B hml hv
  obtain ⟨rfl, hP, hK⟩ := hv
  have hx := B.exec
  have hb := B.bytes
  have hr := B.returns
  have hts := atoms_spec (ws := wsX7_close) B.pre
  have hown : s.vm.findClass RX7 = some m.cls := findClass_of_methodNamed B.named
  have hlocks := B.notSynchronized
  have hin_X7 : ∀ w ∈ wsX70, w ∈ wsX7_close := fun w h => List.mem_cons_of_mem _ (List.mem_append_left _ (List.mem_append_left _ (List.mem_append_left _ (List.mem_append_left _ (List.mem_append_right _ h)))))
  have w_RX7_97 := hts (.fieldLink RX7 97 "MixElection" "stage" "I") (by decide +kernel)
  have hl := lv_entry ([.ref h0]) (n := 1) (Nat.le_of_ble_eq_true rfl)
  rw [lg_entry_eq]
  generalize (lg_sl ([.ref h0]) ++ List.replicate (1 - (lg_sl ([.ref h0])).length) Slot.unset).toArray = ls at hl ⊢
  have hl : lv_has ls 1 [(0, .ref h0)] := hl
  refine lv_aload_n hx hb dX7_close_0 rfl (lv_at hl 0 rfl) ?_
  refine va_get (D := D) (ci := 6) (v := .int x12) (C := RX7) (T := TX7) (N := 20) hx hb hts hin_X7 hown hK hP 0 rfl rfl 12 (by decide) (w_RX7_97) (fun _ h9 => h9) rfl dX7_close_1 ?_
  refine lv_iconst (v := 1) hx hb dX7_close_4 (by decide) ?_
  refine lv_icmp_eq (tgt := 10) hx hb dX7_close_5 (by decide) (fun c_5 => ?_) (fun c_5 => ?_)
  · exact absurd c_5 hst
  · skip
    refine lv_iconst (v := (-1)) hx hb dX7_close_8 (by decide) ?_
    exact W.iret (v := (-1)) hx hb hr (fun t ht hW => ⟨congrArg (fun z => Outcome.returned (some (Value.int z))) (rfl), ht⟩) (fun _ h => by cases h) dX7_close_9

set_option maxHeartbeats 4000000 in
set_option maxRecDepth 100000 in
theorem c_X7_place_st (l : Launch) (D : va_G) (cA : Nat → ClassId) (h0 : Nat) (x0 : Nat) (x1 : Nat) (x2 : Nat) (x3 : Int32) (x4 : Nat) (x5 : Nat) (x6 : Nat) (x7 : Nat) (x8 : Nat) (x9 : Nat) (x10 : Nat) (x11 : Nat) (x12 : Int32) (x13 : Int32) (x14 : Int32) (x15 : Int32) (x16 : Int32) (x17 : Int32) (x18 : Int32) (x19 : Int32) (v : Int32) (w : Int32) (r : Int32) (hst : ¬ x12 = 2) : Met l yX7_place wsX7_place ({ frames := 0, cells := 0, slots := 0, locals := 0 }) (rPc vwCl D cA [(h0, .inr (6, [.ref x0, .ref x1, .ref x2, .int x3, .ref x4, .ref x5, .ref x6, .ref x7, .ref x8, .ref x9, .ref x10, .ref x11, .int x12, .int x13, .int x14, .int x15, .int x16, .int x17, .int x18, .int x19]))] [.ref h0, .int v, .int w, .int r]) (rq_x (some (.int 0))) 0 0 (fun _ => False) := by
  refine Met.ofW (cc := cX7_place) (maxL := 4) (ret := (some .boolean)) (by decide) rfl ?_
  intro p e s m args below meth c s₁ B hml hv
  obtain ⟨rfl, hP, hK⟩ := hv
  have hx := B.exec
  have hb := B.bytes
  have hr := B.returns
  have hts := atoms_spec (ws := wsX7_place) B.pre
  have hown : s.vm.findClass RX7 = some m.cls := findClass_of_methodNamed B.named
  have hlocks := B.notSynchronized
  have hin_X7 : ∀ w ∈ wsX70, w ∈ wsX7_place := fun w h => List.mem_cons_of_mem _ (List.mem_append_left _ (List.mem_append_left _ (List.mem_append_left _ (List.mem_append_right _ h))))
  have w_RX7_97 := hts (.fieldLink RX7 97 "MixElection" "stage" "I") (by decide +kernel)
  have hl := lv_entry ([.ref h0, .int v, .int w, .int r]) (n := 4) (Nat.le_of_ble_eq_true rfl)
  rw [lg_entry_eq]
  generalize (lg_sl ([.ref h0, .int v, .int w, .int r]) ++ List.replicate (4 - (lg_sl ([.ref h0, .int v, .int w, .int r])).length) Slot.unset).toArray = ls at hl ⊢
  have hl : lv_has ls 4 [(0, .ref h0), (1, .int v), (2, .int w), (3, .int r)] := hl
  refine lv_aload_n hx hb dX7_place_0 rfl (lv_at hl 0 rfl) ?_
  refine va_get (D := D) (ci := 6) (v := .int x12) (C := RX7) (T := TX7) (N := 20) hx hb hts hin_X7 hown hK hP 0 rfl rfl 12 (by decide) (w_RX7_97) (fun _ h9 => h9) rfl dX7_place_1 ?_
  refine lv_iconst (v := 2) hx hb dX7_place_4 (by decide) ?_
  refine lv_icmp_ne (tgt := 35) hx hb dX7_place_5 (by decide) (fun c_5 => ?_) (fun c_5 => ?_)
  · skip
    refine lv_iconst (v := 0) hx hb dX7_place_35 (by decide) ?_
    exact W.zret (v := 0) hx hb hr rfl (fun t ht hW => ⟨congrArg (fun z => Outcome.returned (some (Value.int z))) (rfl), ht⟩) (fun _ h => by cases h) dX7_place_36
  · exact absurd c_5 hst

set_option maxHeartbeats 4000000 in
set_option maxRecDepth 100000 in
theorem c_X7_forge_st (l : Launch) (D : va_G) (cA : Nat → ClassId) (h0 : Nat) (x0 : Nat) (x1 : Nat) (x2 : Nat) (x3 : Int32) (x4 : Nat) (x5 : Nat) (x6 : Nat) (x7 : Nat) (x8 : Nat) (x9 : Nat) (x10 : Nat) (x11 : Nat) (x12 : Int32) (x13 : Int32) (x14 : Int32) (x15 : Int32) (x16 : Int32) (x17 : Int32) (x18 : Int32) (x19 : Int32) (v : Int32) (w : Int32) (r : Int32) (hst : ¬ x12 = 2) : Met l yX7_forge wsX7_forge ({ frames := 0, cells := 0, slots := 0, locals := 0 }) (rPc vwCl D cA [(h0, .inr (6, [.ref x0, .ref x1, .ref x2, .int x3, .ref x4, .ref x5, .ref x6, .ref x7, .ref x8, .ref x9, .ref x10, .ref x11, .int x12, .int x13, .int x14, .int x15, .int x16, .int x17, .int x18, .int x19]))] [.ref h0, .int v, .int w, .int r]) (rq_x (some (.int 0))) 0 0 (fun _ => False) := by
  refine Met.ofW (cc := cX7_forge) (maxL := 4) (ret := (some .boolean)) (by decide) rfl ?_
  intro p e s m args below meth c s₁ B hml hv
  obtain ⟨rfl, hP, hK⟩ := hv
  have hx := B.exec
  have hb := B.bytes
  have hr := B.returns
  have hts := atoms_spec (ws := wsX7_forge) B.pre
  have hown : s.vm.findClass RX7 = some m.cls := findClass_of_methodNamed B.named
  have hlocks := B.notSynchronized
  have hin_X7 : ∀ w ∈ wsX70, w ∈ wsX7_forge := fun w h => List.mem_cons_of_mem _ (List.mem_append_left _ (List.mem_append_left _ (List.mem_append_left _ (List.mem_append_right _ h))))
  have w_RX7_97 := hts (.fieldLink RX7 97 "MixElection" "stage" "I") (by decide +kernel)
  have hl := lv_entry ([.ref h0, .int v, .int w, .int r]) (n := 4) (Nat.le_of_ble_eq_true rfl)
  rw [lg_entry_eq]
  generalize (lg_sl ([.ref h0, .int v, .int w, .int r]) ++ List.replicate (4 - (lg_sl ([.ref h0, .int v, .int w, .int r])).length) Slot.unset).toArray = ls at hl ⊢
  have hl : lv_has ls 4 [(0, .ref h0), (1, .int v), (2, .int w), (3, .int r)] := hl
  refine lv_aload_n hx hb dX7_forge_0 rfl (lv_at hl 0 rfl) ?_
  refine va_get (D := D) (ci := 6) (v := .int x12) (C := RX7) (T := TX7) (N := 20) hx hb hts hin_X7 hown hK hP 0 rfl rfl 12 (by decide) (w_RX7_97) (fun _ h9 => h9) rfl dX7_forge_1 ?_
  refine lv_iconst (v := 2) hx hb dX7_forge_4 (by decide) ?_
  refine lv_icmp_ne (tgt := 28) hx hb dX7_forge_5 (by decide) (fun c_5 => ?_) (fun c_5 => ?_)
  · skip
    refine lv_iconst (v := 0) hx hb dX7_forge_28 (by decide) ?_
    exact W.zret (v := 0) hx hb hr rfl (fun t ht hW => ⟨congrArg (fun z => Outcome.returned (some (Value.int z))) (rfl), ht⟩) (fun _ h => by cases h) dX7_forge_29
  · exact absurd c_5 hst

set_option maxHeartbeats 4000000 in
set_option maxRecDepth 100000 in
theorem c_X7_mayShuffle_st (l : Launch) (D : va_G) (cA : Nat → ClassId) (h0 : Nat) (x0 : Nat) (x1 : Nat) (x2 : Nat) (x3 : Int32) (x4 : Nat) (x5 : Nat) (x6 : Nat) (x7 : Nat) (x8 : Nat) (x9 : Nat) (x10 : Nat) (x11 : Nat) (x12 : Int32) (x13 : Int32) (x14 : Int32) (x15 : Int32) (x16 : Int32) (x17 : Int32) (x18 : Int32) (x19 : Int32) (hst : ¬ x12 = 2) : Met l yX7_mayShuffle wsX7_mayShuffle ({ frames := 0, cells := 0, slots := 0, locals := 0 }) (rPc vwCl D cA [(h0, .inr (6, [.ref x0, .ref x1, .ref x2, .int x3, .ref x4, .ref x5, .ref x6, .ref x7, .ref x8, .ref x9, .ref x10, .ref x11, .int x12, .int x13, .int x14, .int x15, .int x16, .int x17, .int x18, .int x19]))] [.ref h0]) (rq_x (some (.int 0))) 0 0 (fun _ => False) := by
  refine Met.ofW (cc := cX7_mayShuffle) (maxL := 1) (ret := (some .boolean)) (by decide) rfl ?_
  intro p e s m args below meth c s₁ B hml hv
  obtain ⟨rfl, hP, hK⟩ := hv
  have hx := B.exec
  have hb := B.bytes
  have hr := B.returns
  have hts := atoms_spec (ws := wsX7_mayShuffle) B.pre
  have hown : s.vm.findClass RX7 = some m.cls := findClass_of_methodNamed B.named
  have hlocks := B.notSynchronized
  have hin_X7 : ∀ w ∈ wsX70, w ∈ wsX7_mayShuffle := fun w h => List.mem_cons_of_mem _ (List.mem_append_left _ (List.mem_append_left _ (List.mem_append_left _ (List.mem_append_right _ h))))
  have w_RX7_97 := hts (.fieldLink RX7 97 "MixElection" "stage" "I") (by decide +kernel)
  have hl := lv_entry ([.ref h0]) (n := 1) (Nat.le_of_ble_eq_true rfl)
  rw [lg_entry_eq]
  generalize (lg_sl ([.ref h0]) ++ List.replicate (1 - (lg_sl ([.ref h0])).length) Slot.unset).toArray = ls at hl ⊢
  have hl : lv_has ls 1 [(0, .ref h0)] := hl
  refine lv_aload_n hx hb dX7_mayShuffle_0 rfl (lv_at hl 0 rfl) ?_
  refine va_get (D := D) (ci := 6) (v := .int x12) (C := RX7) (T := TX7) (N := 20) hx hb hts hin_X7 hown hK hP 0 rfl rfl 12 (by decide) (w_RX7_97) (fun _ h9 => h9) rfl dX7_mayShuffle_1 ?_
  refine lv_iconst (v := 2) hx hb dX7_mayShuffle_4 (by decide) ?_
  refine lv_icmp_ne (tgt := 43) hx hb dX7_mayShuffle_5 (by decide) (fun c_5 => ?_) (fun c_5 => ?_)
  · skip
    refine lv_iconst (v := 0) hx hb dX7_mayShuffle_43 (by decide) ?_
    exact W.zret (v := 0) hx hb hr rfl (fun t ht hW => ⟨congrArg (fun z => Outcome.returned (some (Value.int z))) (rfl), ht⟩) (fun _ h => by cases h) dX7_mayShuffle_44
  · exact absurd c_5 hst

set_option maxHeartbeats 4000000 in
set_option maxRecDepth 100000 in
theorem c_X7_mix_st (l : Launch) (D : va_G) (cA : Nat → ClassId) (h0 : Nat) (x0 : Nat) (x1 : Nat) (x2 : Nat) (x3 : Int32) (x4 : Nat) (x5 : Nat) (x6 : Nat) (x7 : Nat) (x8 : Nat) (x9 : Nat) (x10 : Nat) (x11 : Nat) (x12 : Int32) (x13 : Int32) (x14 : Int32) (x15 : Int32) (x16 : Int32) (x17 : Int32) (x18 : Int32) (x19 : Int32) (hst : ¬ x12 = 2) : Met l yX7_mix wsX7_mix ({ frames := 1, cells := 0, slots := 0, locals := 20 }) (rPc vwCl D cA [(h0, .inr (6, [.ref x0, .ref x1, .ref x2, .int x3, .ref x4, .ref x5, .ref x6, .ref x7, .ref x8, .ref x9, .ref x10, .ref x11, .int x12, .int x13, .int x14, .int x15, .int x16, .int x17, .int x18, .int x19]))] [.ref h0]) (rq_x (some (.int (-1)))) 0 0 (fun _ => False) := by
  refine Met.ofW (cc := cX7_mix) (maxL := 1) (ret := (some .int)) (by decide) rfl ?_
  intro p e s m args below meth c s₁ B hml hv
  obtain ⟨rfl, hP, hK⟩ := hv
  have hx := B.exec
  have hb := B.bytes
  have hr := B.returns
  have hts := atoms_spec (ws := wsX7_mix) B.pre
  have hown : s.vm.findClass RX7 = some m.cls := findClass_of_methodNamed B.named
  have hlocks := B.notSynchronized
  have hl := lv_entry ([.ref h0]) (n := 1) (Nat.le_of_ble_eq_true rfl)
  rw [lg_entry_eq]
  generalize (lg_sl ([.ref h0]) ++ List.replicate (1 - (lg_sl ([.ref h0])).length) Slot.unset).toArray = ls at hl ⊢
  have hl : lv_has ls 1 [(0, .ref h0)] := hl
  refine lv_aload_n hx hb dX7_mix_0 rfl (lv_at hl 0 rfl) ?_
  refine rq_call1 (v := .int 0) (rn_V (As := []) (rest := []) (ci := 6) (fs := [.ref x0, .ref x1, .ref x2, .int x3, .ref x4, .ref x5, .ref x6, .ref x7, .ref x8, .ref x9, .ref x10, .ref x11, .int x12, .int x13, .int x14, .int x15, .int x16, .int x17, .int x18, .int x19]) ⟨hx, hb, hml, hown, hts⟩ (c_X7_mayShuffle_st l D cA h0 x0 x1 x2 x3 x4 x5 x6 x7 x8 x9 x10 x11 x12 x13 x14 x15 x16 x17 x18 x19 (by assumption)) rfl (cwV 0 hts gX7_mix_X7_mayShuffle rfl rfl rfl (by decide +kernel) ⟨Nat.le_of_ble_eq_true rfl, Nat.le_of_ble_eq_true rfl⟩) hK hP [0] rfl rfl rfl hl.1 rfl (Nat.le_of_ble_eq_true rfl) dX7_mix_1 ⟨Nat.le_of_ble_eq_true rfl, Nat.le_of_ble_eq_true rfl⟩) ?_
  refine lv_if_eq (tgt := 15) hx hb dX7_mix_4 (by decide) (fun c_4 => ?_) (fun c_4 => ?_)
  · skip
    refine lv_iconst (v := (-1)) hx hb dX7_mix_15 (by decide) ?_
    exact W.iret (v := (-1)) hx hb hr (fun t ht hW => ⟨congrArg (fun z => Outcome.returned (some (Value.int z))) (rfl), ht⟩) (fun _ h => by cases h) dX7_mix_16
  · exact absurd rfl c_4

set_option maxHeartbeats 4000000 in
set_option maxRecDepth 100000 in
theorem c_X7_shadow_st (l : Launch) (D : va_G) (cA : Nat → ClassId) (h0 : Nat) (x0 : Nat) (x1 : Nat) (x2 : Nat) (x3 : Int32) (x4 : Nat) (x5 : Nat) (x6 : Nat) (x7 : Nat) (x8 : Nat) (x9 : Nat) (x10 : Nat) (x11 : Nat) (x12 : Int32) (x13 : Int32) (x14 : Int32) (x15 : Int32) (x16 : Int32) (x17 : Int32) (x18 : Int32) (x19 : Int32) (hst : ¬ x12 = 2) : Met l yX7_shadow wsX7_shadow ({ frames := 1, cells := 0, slots := 0, locals := 20 }) (rPc vwCl D cA [(h0, .inr (6, [.ref x0, .ref x1, .ref x2, .int x3, .ref x4, .ref x5, .ref x6, .ref x7, .ref x8, .ref x9, .ref x10, .ref x11, .int x12, .int x13, .int x14, .int x15, .int x16, .int x17, .int x18, .int x19]))] [.ref h0]) (rq_x (some (.int (-1)))) 0 0 (fun _ => False) := by
  refine Met.ofW (cc := cX7_shadow) (maxL := 1) (ret := (some .int)) (by decide) rfl ?_
  intro p e s m args below meth c s₁ B hml hv
  obtain ⟨rfl, hP, hK⟩ := hv
  have hx := B.exec
  have hb := B.bytes
  have hr := B.returns
  have hts := atoms_spec (ws := wsX7_shadow) B.pre
  have hown : s.vm.findClass RX7 = some m.cls := findClass_of_methodNamed B.named
  have hlocks := B.notSynchronized
  have hl := lv_entry ([.ref h0]) (n := 1) (Nat.le_of_ble_eq_true rfl)
  rw [lg_entry_eq]
  generalize (lg_sl ([.ref h0]) ++ List.replicate (1 - (lg_sl ([.ref h0])).length) Slot.unset).toArray = ls at hl ⊢
  have hl : lv_has ls 1 [(0, .ref h0)] := hl
  refine lv_aload_n hx hb dX7_shadow_0 rfl (lv_at hl 0 rfl) ?_
  refine rq_call1 (v := .int 0) (rn_V (As := []) (rest := []) (ci := 6) (fs := [.ref x0, .ref x1, .ref x2, .int x3, .ref x4, .ref x5, .ref x6, .ref x7, .ref x8, .ref x9, .ref x10, .ref x11, .int x12, .int x13, .int x14, .int x15, .int x16, .int x17, .int x18, .int x19]) ⟨hx, hb, hml, hown, hts⟩ (c_X7_mayShuffle_st l D cA h0 x0 x1 x2 x3 x4 x5 x6 x7 x8 x9 x10 x11 x12 x13 x14 x15 x16 x17 x18 x19 (by assumption)) rfl (cwV 0 hts gX7_shadow_X7_mayShuffle rfl rfl rfl (by decide +kernel) ⟨Nat.le_of_ble_eq_true rfl, Nat.le_of_ble_eq_true rfl⟩) hK hP [0] rfl rfl rfl hl.1 rfl (Nat.le_of_ble_eq_true rfl) dX7_shadow_1 ⟨Nat.le_of_ble_eq_true rfl, Nat.le_of_ble_eq_true rfl⟩) ?_
  refine lv_if_eq (tgt := 24) hx hb dX7_shadow_4 (by decide) (fun c_4 => ?_) (fun c_4 => ?_)
  · skip
    refine lv_iconst (v := (-1)) hx hb dX7_shadow_24 (by decide) ?_
    exact W.iret (v := (-1)) hx hb hr (fun t ht hW => ⟨congrArg (fun z => Outcome.returned (some (Value.int z))) (rfl), ht⟩) (fun _ h => by cases h) dX7_shadow_25
  · exact absurd rfl c_4

set_option maxHeartbeats 4000000 in
set_option maxRecDepth 100000 in
theorem c_X7_coin_nd (l : Launch) (D : va_G) (cA : Nat → ClassId) (h0 : Nat) (x0 : Nat) (x1 : Nat) (x2 : Nat) (x3 : Int32) (x4 : Nat) (x5 : Nat) (x6 : Nat) (x7 : Nat) (x8 : Nat) (x9 : Nat) (x10 : Nat) (x11 : Nat) (x12 : Int32) (x13 : Int32) (x14 : Int32) (x15 : Int32) (x16 : Int32) (x17 : Int32) (x18 : Int32) (x19 : Int32) (v : Int32) (hd : x19 = 0) : Met l yX7_coin wsX7_coin ({ frames := 0, cells := 0, slots := 0, locals := 0 }) (rPc vwCl D cA [(h0, .inr (6, [.ref x0, .ref x1, .ref x2, .int x3, .ref x4, .ref x5, .ref x6, .ref x7, .ref x8, .ref x9, .ref x10, .ref x11, .int x12, .int x13, .int x14, .int x15, .int x16, .int x17, .int x18, .int x19]))] [.ref h0, .int v]) (rq_x (some (.int (-1)))) 0 0 (fun _ => False) := by
  refine Met.ofW (cc := cX7_coin) (maxL := 3) (ret := (some .int)) (by decide) rfl ?_
  intro p e s m args below meth c s₁ B hml hv
  obtain ⟨rfl, hP, hK⟩ := hv
  have hx := B.exec
  have hb := B.bytes
  have hr := B.returns
  have hts := atoms_spec (ws := wsX7_coin) B.pre
  have hown : s.vm.findClass RX7 = some m.cls := findClass_of_methodNamed B.named
  have hlocks := B.notSynchronized
  have hin_X7 : ∀ w ∈ wsX70, w ∈ wsX7_coin := fun w h => List.mem_cons_of_mem _ (List.mem_append_left _ (List.mem_append_left _ (List.mem_append_left _ (List.mem_append_left _ (List.mem_append_right _ h)))))
  have w_RX7_196 := hts (.fieldLink RX7 196 "MixElection" "coinIsDue" "Z") (by decide +kernel)
  have hl := lv_entry ([.ref h0, .int v]) (n := 3) (Nat.le_of_ble_eq_true rfl)
  rw [lg_entry_eq]
  generalize (lg_sl ([.ref h0, .int v]) ++ List.replicate (3 - (lg_sl ([.ref h0, .int v])).length) Slot.unset).toArray = ls at hl ⊢
  have hl : lv_has ls 3 [(0, .ref h0), (1, .int v)] := hl
  refine lv_aload_n hx hb dX7_coin_0 rfl (lv_at hl 0 rfl) ?_
  refine va_get (D := D) (ci := 6) (v := .int x19) (C := RX7) (T := TX7) (N := 20) hx hb hts hin_X7 hown hK hP 0 rfl rfl 19 (by decide) (w_RX7_196) (fun _ h9 => h9) rfl dX7_coin_1 ?_
  refine lv_if_eq (tgt := 16) hx hb dX7_coin_4 (by decide) (fun c_4 => ?_) (fun c_4 => ?_)
  · skip
    refine lv_iconst (v := (-1)) hx hb dX7_coin_16 (by decide) ?_
    exact W.iret (v := (-1)) hx hb hr (fun t ht hW => ⟨congrArg (fun z => Outcome.returned (some (Value.int z))) (rfl), ht⟩) (fun _ h => by cases h) dX7_coin_17
  · exact absurd hd c_4

set_option maxHeartbeats 4000000 in
set_option maxRecDepth 100000 in
theorem c_X7_share_st (l : Launch) (D : va_G) (cA : Nat → ClassId) (h0 : Nat) (x0 : Nat) (x1 : Nat) (x2 : Nat) (x3 : Int32) (x4 : Nat) (x5 : Nat) (x6 : Nat) (x7 : Nat) (x8 : Nat) (x9 : Nat) (x10 : Nat) (x11 : Nat) (x12 : Int32) (x13 : Int32) (x14 : Int32) (x15 : Int32) (x16 : Int32) (x17 : Int32) (x18 : Int32) (x19 : Int32) (v : Int32) (hst : ¬ x12 = 2) : Met l yX7_share wsX7_share ({ frames := 0, cells := 0, slots := 0, locals := 0 }) (rPc vwCl D cA [(h0, .inr (6, [.ref x0, .ref x1, .ref x2, .int x3, .ref x4, .ref x5, .ref x6, .ref x7, .ref x8, .ref x9, .ref x10, .ref x11, .int x12, .int x13, .int x14, .int x15, .int x16, .int x17, .int x18, .int x19]))] [.ref h0, .int v]) (rq_x (some (.int (-1)))) 0 0 (fun _ => False) := by
  refine Met.ofW (cc := cX7_share) (maxL := 2) (ret := (some .int)) (by decide) rfl ?_
  intro p e s m args below meth c s₁ B hml hv
  obtain ⟨rfl, hP, hK⟩ := hv
  have hx := B.exec
  have hb := B.bytes
  have hr := B.returns
  have hts := atoms_spec (ws := wsX7_share) B.pre
  have hown : s.vm.findClass RX7 = some m.cls := findClass_of_methodNamed B.named
  have hlocks := B.notSynchronized
  have hin_X7 : ∀ w ∈ wsX70, w ∈ wsX7_share := fun w h => List.mem_cons_of_mem _ (List.mem_append_left _ (List.mem_append_left _ (List.mem_append_left _ (List.mem_append_left _ (List.mem_append_right _ h)))))
  have w_RX7_97 := hts (.fieldLink RX7 97 "MixElection" "stage" "I") (by decide +kernel)
  have hl := lv_entry ([.ref h0, .int v]) (n := 2) (Nat.le_of_ble_eq_true rfl)
  rw [lg_entry_eq]
  generalize (lg_sl ([.ref h0, .int v]) ++ List.replicate (2 - (lg_sl ([.ref h0, .int v])).length) Slot.unset).toArray = ls at hl ⊢
  have hl : lv_has ls 2 [(0, .ref h0), (1, .int v)] := hl
  refine lv_aload_n hx hb dX7_share_0 rfl (lv_at hl 0 rfl) ?_
  refine va_get (D := D) (ci := 6) (v := .int x12) (C := RX7) (T := TX7) (N := 20) hx hb hts hin_X7 hown hK hP 0 rfl rfl 12 (by decide) (w_RX7_97) (fun _ h9 => h9) rfl dX7_share_1 ?_
  refine lv_iconst (v := 2) hx hb dX7_share_4 (by decide) ?_
  refine lv_icmp_ne (tgt := 34) hx hb dX7_share_5 (by decide) (fun c_5 => ?_) (fun c_5 => ?_)
  · skip
    refine lv_iconst (v := (-1)) hx hb dX7_share_34 (by decide) ?_
    exact W.iret (v := (-1)) hx hb hr (fun t ht hW => ⟨congrArg (fun z => Outcome.returned (some (Value.int z))) (rfl), ht⟩) (fun _ h => by cases h) dX7_share_35
  · exact absurd c_5 hst

set_option maxHeartbeats 4000000 in
set_option maxRecDepth 100000 in
theorem c_X7_tally_st (l : Launch) (D : va_G) (cA : Nat → ClassId) (h0 : Nat) (x0 : Nat) (x1 : Nat) (x2 : Nat) (x3 : Int32) (x4 : Nat) (x5 : Nat) (x6 : Nat) (x7 : Nat) (x8 : Nat) (x9 : Nat) (x10 : Nat) (x11 : Nat) (x12 : Int32) (x13 : Int32) (x14 : Int32) (x15 : Int32) (x16 : Int32) (x17 : Int32) (x18 : Int32) (x19 : Int32) (hst : ¬ x12 = 2) : Met l yX7_tally wsX7_tally ({ frames := 0, cells := 0, slots := 0, locals := 0 }) (rPc vwCl D cA [(h0, .inr (6, [.ref x0, .ref x1, .ref x2, .int x3, .ref x4, .ref x5, .ref x6, .ref x7, .ref x8, .ref x9, .ref x10, .ref x11, .int x12, .int x13, .int x14, .int x15, .int x16, .int x17, .int x18, .int x19]))] [.ref h0]) (rq_x (some (.int (-1)))) 0 0 (fun _ => False) := by
  refine Met.ofW (cc := cX7_tally) (maxL := 2) (ret := (some .int)) (by decide) rfl ?_
  intro p e s m args below meth c s₁ B hml hv
  obtain ⟨rfl, hP, hK⟩ := hv
  have hx := B.exec
  have hb := B.bytes
  have hr := B.returns
  have hts := atoms_spec (ws := wsX7_tally) B.pre
  have hown : s.vm.findClass RX7 = some m.cls := findClass_of_methodNamed B.named
  have hlocks := B.notSynchronized
  have hin_X7 : ∀ w ∈ wsX70, w ∈ wsX7_tally := fun w h => List.mem_cons_of_mem _ (List.mem_append_left _ (List.mem_append_left _ (List.mem_append_left _ (List.mem_append_left _ (List.mem_append_right _ h)))))
  have w_RX7_97 := hts (.fieldLink RX7 97 "MixElection" "stage" "I") (by decide +kernel)
  have hl := lv_entry ([.ref h0]) (n := 2) (Nat.le_of_ble_eq_true rfl)
  rw [lg_entry_eq]
  generalize (lg_sl ([.ref h0]) ++ List.replicate (2 - (lg_sl ([.ref h0])).length) Slot.unset).toArray = ls at hl ⊢
  have hl : lv_has ls 2 [(0, .ref h0)] := hl
  refine lv_aload_n hx hb dX7_tally_0 rfl (lv_at hl 0 rfl) ?_
  refine va_get (D := D) (ci := 6) (v := .int x12) (C := RX7) (T := TX7) (N := 20) hx hb hts hin_X7 hown hK hP 0 rfl rfl 12 (by decide) (w_RX7_97) (fun _ h9 => h9) rfl dX7_tally_1 ?_
  refine lv_iconst (v := 2) hx hb dX7_tally_4 (by decide) ?_
  refine lv_icmp_ne (tgt := 36) hx hb dX7_tally_5 (by decide) (fun c_5 => ?_) (fun c_5 => ?_)
  · skip
    refine lv_iconst (v := (-1)) hx hb dX7_tally_36 (by decide) ?_
    exact W.iret (v := (-1)) hx hb hr (fun t ht hW => ⟨congrArg (fun z => Outcome.returned (some (Value.int z))) (rfl), ht⟩) (fun _ h => by cases h) dX7_tally_37
  · exact absurd c_5 hst

set_option maxHeartbeats 4000000 in
set_option maxRecDepth 100000 in
theorem c_X7_count_st (l : Launch) (D : va_G) (cA : Nat → ClassId) (h0 : Nat) (x0 : Nat) (x1 : Nat) (x2 : Nat) (x3 : Int32) (x4 : Nat) (x5 : Nat) (x6 : Nat) (x7 : Nat) (x8 : Nat) (x9 : Nat) (x10 : Nat) (x11 : Nat) (x12 : Int32) (x13 : Int32) (x14 : Int32) (x15 : Int32) (x16 : Int32) (x17 : Int32) (x18 : Int32) (x19 : Int32) (v : Int32) (hst : ¬ x12 = 3) : Met l yX7_count wsX7_count ({ frames := 0, cells := 0, slots := 0, locals := 0 }) (rPc vwCl D cA [(h0, .inr (6, [.ref x0, .ref x1, .ref x2, .int x3, .ref x4, .ref x5, .ref x6, .ref x7, .ref x8, .ref x9, .ref x10, .ref x11, .int x12, .int x13, .int x14, .int x15, .int x16, .int x17, .int x18, .int x19]))] [.ref h0, .int v]) (rq_x (some (.int (-1)))) 0 0 (fun _ => False) := by
  refine Met.ofW (cc := cX7_count) (maxL := 2) (ret := (some .int)) (by decide) rfl ?_
  intro p e s m args below meth c s₁ B hml hv
  obtain ⟨rfl, hP, hK⟩ := hv
  have hx := B.exec
  have hb := B.bytes
  have hr := B.returns
  have hts := atoms_spec (ws := wsX7_count) B.pre
  have hown : s.vm.findClass RX7 = some m.cls := findClass_of_methodNamed B.named
  have hlocks := B.notSynchronized
  have hin_X7 : ∀ w ∈ wsX70, w ∈ wsX7_count := fun w h => List.mem_cons_of_mem _ (List.mem_append_right _ h)
  have w_RX7_97 := hts (.fieldLink RX7 97 "MixElection" "stage" "I") (by decide +kernel)
  have hl := lv_entry ([.ref h0, .int v]) (n := 2) (Nat.le_of_ble_eq_true rfl)
  rw [lg_entry_eq]
  generalize (lg_sl ([.ref h0, .int v]) ++ List.replicate (2 - (lg_sl ([.ref h0, .int v])).length) Slot.unset).toArray = ls at hl ⊢
  have hl : lv_has ls 2 [(0, .ref h0), (1, .int v)] := hl
  refine lv_aload_n hx hb dX7_count_0 rfl (lv_at hl 0 rfl) ?_
  refine va_get (D := D) (ci := 6) (v := .int x12) (C := RX7) (T := TX7) (N := 20) hx hb hts hin_X7 hown hK hP 0 rfl rfl 12 (by decide) (w_RX7_97) (fun _ h9 => h9) rfl dX7_count_1 ?_
  refine lv_iconst (v := 3) hx hb dX7_count_4 (by decide) ?_
  refine lv_icmp_ne (tgt := 30) hx hb dX7_count_5 (by decide) (fun c_5 => ?_) (fun c_5 => ?_)
  · skip
    refine lv_iconst (v := (-1)) hx hb dX7_count_30 (by decide) ?_
    exact W.iret (v := (-1)) hx hb hr (fun t ht hW => ⟨congrArg (fun z => Outcome.returned (some (Value.int z))) (rfl), ht⟩) (fun _ h => by cases h) dX7_count_31
  · exact absurd c_5 hst

set_option maxHeartbeats 4000000 in
set_option maxRecDepth 100000 in
theorem c_X7_isBallot (l : Launch) (D : va_G) (cA : Nat → ClassId) (h0 : Nat) (x0 : Nat) (x1 : Nat) (x2 : Nat) (x3 : Int32) (x4 : Nat) (x5 : Nat) (x6 : Nat) (x7 : Nat) (x8 : Nat) (x9 : Nat) (x10 : Nat) (x11 : Nat) (x12 : Int32) (x13 : Int32) (x14 : Int32) (x15 : Int32) (x16 : Int32) (x17 : Int32) (x18 : Int32) (x19 : Int32) (i : Int32) : Met l yX7_isBallot wsX7_isBallot ({ frames := 0, cells := 0, slots := 0, locals := 0 }) (rPc vwCl D cA [(h0, .inr (6, [.ref x0, .ref x1, .ref x2, .int x3, .ref x4, .ref x5, .ref x6, .ref x7, .ref x8, .ref x9, .ref x10, .ref x11, .int x12, .int x13, .int x14, .int x15, .int x16, .int x17, .int x18, .int x19]))] [.ref h0, .int i]) (rq_x (some (.int (bI (0 ≤ i ∧ i < x14))))) 0 0 (fun _ => False) := by
  refine Met.ofW (cc := cX7_isBallot) (maxL := 2) (ret := (some .boolean)) (by decide) rfl ?_
  intro p e s m args below meth c s₁ B hml hv
  obtain ⟨rfl, hP, hK⟩ := hv
  have hx := B.exec
  have hb := B.bytes
  have hr := B.returns
  have hts := atoms_spec (ws := wsX7_isBallot) B.pre
  have hown : s.vm.findClass RX7 = some m.cls := findClass_of_methodNamed B.named
  have hlocks := B.notSynchronized
  have hin_X7 : ∀ w ∈ wsX70, w ∈ wsX7_isBallot := fun w h => List.mem_cons_of_mem _ (List.mem_append_right _ h)
  have w_RX7_158 := hts (.fieldLink RX7 158 "MixElection" "ballots" "I") (by decide +kernel)
  have hl := lv_entry ([.ref h0, .int i]) (n := 2) (Nat.le_of_ble_eq_true rfl)
  rw [lg_entry_eq]
  generalize (lg_sl ([.ref h0, .int i]) ++ List.replicate (2 - (lg_sl ([.ref h0, .int i])).length) Slot.unset).toArray = ls at hl ⊢
  have hl : lv_has ls 2 [(0, .ref h0), (1, .int i)] := hl
  refine lv_iload_n hx hb dX7_isBallot_0 rfl (lv_at hl 1 rfl) ?_
  refine lv_if_lt (tgt := 16) hx hb dX7_isBallot_1 (by decide) (fun c_1 => ?_) (fun c_1 => ?_)
  · skip
    refine lv_iconst (v := 0) hx hb dX7_isBallot_16 (by decide) ?_
    exact W.zret (v := 0) hx hb hr rfl (fun t ht hW => ⟨congrArg (fun z => Outcome.returned (some (Value.int z))) (bI_f (fun h => absurd c_1 (Int32.not_lt.mpr h.1))), ht⟩) (fun _ h => by cases h) dX7_isBallot_17
  · skip
    refine lv_iload_n hx hb dX7_isBallot_4 rfl (lv_at hl 1 rfl) ?_
    refine lv_aload_n hx hb dX7_isBallot_5 rfl (lv_at hl 0 rfl) ?_
    refine va_get (D := D) (ci := 6) (v := .int x14) (C := RX7) (T := TX7) (N := 20) hx hb hts hin_X7 hown hK hP 0 rfl rfl 14 (by decide) (w_RX7_158) (fun _ h9 => h9) rfl dX7_isBallot_6 ?_
    refine lv_icmp_ge (tgt := 16) hx hb dX7_isBallot_9 (by decide) (fun c_9 => ?_) (fun c_9 => ?_)
    · skip
      refine lv_iconst (v := 0) hx hb dX7_isBallot_16 (by decide) ?_
      exact W.zret (v := 0) hx hb hr rfl (fun t ht hW => ⟨congrArg (fun z => Outcome.returned (some (Value.int z))) (bI_f (fun h => absurd h.2 (Int32.not_lt.mpr c_9))), ht⟩) (fun _ h => by cases h) dX7_isBallot_17
    · skip
      refine lv_iconst (v := 1) hx hb dX7_isBallot_12 (by decide) ?_
      refine lv_goto (tgt := 17) hx hb dX7_isBallot_13 (by decide) ?_
      exact W.zret (v := 1) hx hb hr rfl (fun t ht hW => ⟨congrArg (fun z => Outcome.returned (some (Value.int z))) (bI_t ⟨Int32.not_lt.mp c_1, Int32.not_le.mp c_9⟩), ht⟩) (fun _ h => by cases h) dX7_isBallot_17

set_option maxHeartbeats 4000000 in
set_option maxRecDepth 100000 in
theorem c_X7_list_nb (l : Launch) (D : va_G) (cA : Nat → ClassId) (h0 : Nat) (x0 : Nat) (x1 : Nat) (x2 : Nat) (x3 : Int32) (x4 : Nat) (x5 : Nat) (x6 : Nat) (x7 : Nat) (x8 : Nat) (x9 : Nat) (x10 : Nat) (x11 : Nat) (x12 : Int32) (x13 : Int32) (x14 : Int32) (x15 : Int32) (x16 : Int32) (x17 : Int32) (x18 : Int32) (x19 : Int32) (v : Int32) (i : Int32) (w : Int32) (hb0 : ¬ (0 ≤ i ∧ i < x14)) : Met l yX7_list wsX7_list ({ frames := 1, cells := 0, slots := 0, locals := 21 }) (rPc vwCl D cA [(h0, .inr (6, [.ref x0, .ref x1, .ref x2, .int x3, .ref x4, .ref x5, .ref x6, .ref x7, .ref x8, .ref x9, .ref x10, .ref x11, .int x12, .int x13, .int x14, .int x15, .int x16, .int x17, .int x18, .int x19]))] [.ref h0, .int v, .int i, .int w]) (rq_x (some (.int (-1)))) 0 0 (fun _ => False) := by
  refine Met.ofW (cc := cX7_list) (maxL := 4) (ret := (some .int)) (by decide) rfl ?_
  intro p e s m args below meth c s₁ B hml hv
  obtain ⟨rfl, hP, hK⟩ := hv
  have hx := B.exec
  have hb := B.bytes
  have hr := B.returns
  have hts := atoms_spec (ws := wsX7_list) B.pre
  have hown : s.vm.findClass RX7 = some m.cls := findClass_of_methodNamed B.named
  have hlocks := B.notSynchronized
  have hin_X7 : ∀ w ∈ wsX70, w ∈ wsX7_list := fun w h => List.mem_cons_of_mem _ (List.mem_append_left _ (List.mem_append_right _ h))
  have w_RX7_179 := hts (.fieldLink RX7 179 "MixElection" "mixes" "I") (by decide +kernel)
  have hl := lv_entry ([.ref h0, .int v, .int i, .int w]) (n := 4) (Nat.le_of_ble_eq_true rfl)
  rw [lg_entry_eq]
  generalize (lg_sl ([.ref h0, .int v, .int i, .int w]) ++ List.replicate (4 - (lg_sl ([.ref h0, .int v, .int i, .int w])).length) Slot.unset).toArray = ls at hl ⊢
  have hl : lv_has ls 4 [(0, .ref h0), (1, .int v), (2, .int i), (3, .int w)] := hl
  refine lv_iload_n hx hb dX7_list_0 rfl (lv_at hl 1 rfl) ?_
  refine lv_if_lt (tgt := 33) hx hb dX7_list_1 (by decide) (fun c_1 => ?_) (fun c_1 => ?_)
  · skip
    refine lv_iconst (v := (-1)) hx hb dX7_list_33 (by decide) ?_
    exact W.iret (v := (-1)) hx hb hr (fun t ht hW => ⟨congrArg (fun z => Outcome.returned (some (Value.int z))) (rfl), ht⟩) (fun _ h => by cases h) dX7_list_34
  · skip
    refine lv_iload_n hx hb dX7_list_4 rfl (lv_at hl 1 rfl) ?_
    refine lv_aload_n hx hb dX7_list_5 rfl (lv_at hl 0 rfl) ?_
    refine va_get (D := D) (ci := 6) (v := .int x15) (C := RX7) (T := TX7) (N := 20) hx hb hts hin_X7 hown hK hP 0 rfl rfl 15 (by decide) (w_RX7_179) (fun _ h9 => h9) rfl dX7_list_6 ?_
    refine lv_icmp_gt (tgt := 33) hx hb dX7_list_9 (by decide) (fun c_9 => ?_) (fun c_9 => ?_)
    · skip
      refine lv_iconst (v := (-1)) hx hb dX7_list_33 (by decide) ?_
      exact W.iret (v := (-1)) hx hb hr (fun t ht hW => ⟨congrArg (fun z => Outcome.returned (some (Value.int z))) (rfl), ht⟩) (fun _ h => by cases h) dX7_list_34
    · skip
      refine lv_aload_n hx hb dX7_list_12 rfl (lv_at hl 0 rfl) ?_
      refine lv_iload_n hx hb dX7_list_13 rfl (lv_at hl 2 rfl) ?_
      refine rq_call1 (v := .int (bI (0 ≤ i ∧ i < x14))) (rn_V (As := [.int i]) (rest := []) (ci := 6) (fs := [.ref x0, .ref x1, .ref x2, .int x3, .ref x4, .ref x5, .ref x6, .ref x7, .ref x8, .ref x9, .ref x10, .ref x11, .int x12, .int x13, .int x14, .int x15, .int x16, .int x17, .int x18, .int x19]) ⟨hx, hb, hml, hown, hts⟩ (c_X7_isBallot l D cA h0 x0 x1 x2 x3 x4 x5 x6 x7 x8 x9 x10 x11 x12 x13 x14 x15 x16 x17 x18 x19 i) rfl (cwV 1 hts gX7_list_X7_isBallot rfl rfl rfl (by decide +kernel) ⟨Nat.le_of_ble_eq_true rfl, Nat.le_of_ble_eq_true rfl⟩) hK hP [0] rfl rfl rfl hl.1 rfl (Nat.le_of_ble_eq_true rfl) dX7_list_14 ⟨Nat.le_of_ble_eq_true rfl, Nat.le_of_ble_eq_true rfl⟩) ?_
      refine lv_if_eq (tgt := 33) hx hb dX7_list_17 (by decide) (fun c_17 => ?_) (fun c_17 => ?_)
      · skip
        refine lv_iconst (v := (-1)) hx hb dX7_list_33 (by decide) ?_
        exact W.iret (v := (-1)) hx hb hr (fun t ht hW => ⟨congrArg (fun z => Outcome.returned (some (Value.int z))) (rfl), ht⟩) (fun _ h => by cases h) dX7_list_34
      · exact absurd (bI_f hb0).symm c_17

set_option maxHeartbeats 4000000 in
set_option maxRecDepth 100000 in
theorem c_X7_shadowOf_nb (l : Launch) (D : va_G) (cA : Nat → ClassId) (h0 : Nat) (x0 : Nat) (x1 : Nat) (x2 : Nat) (x3 : Int32) (x4 : Nat) (x5 : Nat) (x6 : Nat) (x7 : Nat) (x8 : Nat) (x9 : Nat) (x10 : Nat) (x11 : Nat) (x12 : Int32) (x13 : Int32) (x14 : Int32) (x15 : Int32) (x16 : Int32) (x17 : Int32) (x18 : Int32) (x19 : Int32) (i : Int32) (w : Int32) (hb0 : ¬ (0 ≤ i ∧ i < x14)) : Met l yX7_shadowOf wsX7_shadowOf ({ frames := 1, cells := 0, slots := 0, locals := 21 }) (rPc vwCl D cA [(h0, .inr (6, [.ref x0, .ref x1, .ref x2, .int x3, .ref x4, .ref x5, .ref x6, .ref x7, .ref x8, .ref x9, .ref x10, .ref x11, .int x12, .int x13, .int x14, .int x15, .int x16, .int x17, .int x18, .int x19]))] [.ref h0, .int i, .int w]) (rq_x (some (.int (-1)))) 0 0 (fun _ => False) := by
  refine Met.ofW (cc := cX7_shadowOf) (maxL := 3) (ret := (some .int)) (by decide) rfl ?_
  intro p e s m args below meth c s₁ B hml hv
  obtain ⟨rfl, hP, hK⟩ := hv
  have hx := B.exec
  have hb := B.bytes
  have hr := B.returns
  have hts := atoms_spec (ws := wsX7_shadowOf) B.pre
  have hown : s.vm.findClass RX7 = some m.cls := findClass_of_methodNamed B.named
  have hlocks := B.notSynchronized
  have hl := lv_entry ([.ref h0, .int i, .int w]) (n := 3) (Nat.le_of_ble_eq_true rfl)
  rw [lg_entry_eq]
  generalize (lg_sl ([.ref h0, .int i, .int w]) ++ List.replicate (3 - (lg_sl ([.ref h0, .int i, .int w])).length) Slot.unset).toArray = ls at hl ⊢
  have hl : lv_has ls 3 [(0, .ref h0), (1, .int i), (2, .int w)] := hl
  refine lv_aload_n hx hb dX7_shadowOf_0 rfl (lv_at hl 0 rfl) ?_
  refine lv_iload_n hx hb dX7_shadowOf_1 rfl (lv_at hl 1 rfl) ?_
  refine rq_call1 (v := .int (bI (0 ≤ i ∧ i < x14))) (rn_V (As := [.int i]) (rest := []) (ci := 6) (fs := [.ref x0, .ref x1, .ref x2, .int x3, .ref x4, .ref x5, .ref x6, .ref x7, .ref x8, .ref x9, .ref x10, .ref x11, .int x12, .int x13, .int x14, .int x15, .int x16, .int x17, .int x18, .int x19]) ⟨hx, hb, hml, hown, hts⟩ (c_X7_isBallot l D cA h0 x0 x1 x2 x3 x4 x5 x6 x7 x8 x9 x10 x11 x12 x13 x14 x15 x16 x17 x18 x19 i) rfl (cwV 1 hts gX7_shadowOf_X7_isBallot rfl rfl rfl (by decide +kernel) ⟨Nat.le_of_ble_eq_true rfl, Nat.le_of_ble_eq_true rfl⟩) hK hP [0] rfl rfl rfl hl.1 rfl (Nat.le_of_ble_eq_true rfl) dX7_shadowOf_2 ⟨Nat.le_of_ble_eq_true rfl, Nat.le_of_ble_eq_true rfl⟩) ?_
  refine lv_if_eq (tgt := 20) hx hb dX7_shadowOf_5 (by decide) (fun c_5 => ?_) (fun c_5 => ?_)
  · skip
    refine lv_iconst (v := (-1)) hx hb dX7_shadowOf_20 (by decide) ?_
    exact W.iret (v := (-1)) hx hb hr (fun t ht hW => ⟨congrArg (fun z => Outcome.returned (some (Value.int z))) (rfl), ht⟩) (fun _ h => by cases h) dX7_shadowOf_21
  · exact absurd (bI_f hb0).symm c_5

set_option maxHeartbeats 4000000 in
set_option maxRecDepth 100000 in
theorem c_X7_shown_nb (l : Launch) (D : va_G) (cA : Nat → ClassId) (h0 : Nat) (x0 : Nat) (x1 : Nat) (x2 : Nat) (x3 : Int32) (x4 : Nat) (x5 : Nat) (x6 : Nat) (x7 : Nat) (x8 : Nat) (x9 : Nat) (x10 : Nat) (x11 : Nat) (x12 : Int32) (x13 : Int32) (x14 : Int32) (x15 : Int32) (x16 : Int32) (x17 : Int32) (x18 : Int32) (x19 : Int32) (i : Int32) (w : Int32) (hb0 : ¬ (0 ≤ i ∧ i < x14)) : Met l yX7_shown wsX7_shown ({ frames := 1, cells := 0, slots := 0, locals := 21 }) (rPc vwCl D cA [(h0, .inr (6, [.ref x0, .ref x1, .ref x2, .int x3, .ref x4, .ref x5, .ref x6, .ref x7, .ref x8, .ref x9, .ref x10, .ref x11, .int x12, .int x13, .int x14, .int x15, .int x16, .int x17, .int x18, .int x19]))] [.ref h0, .int i, .int w]) (rq_x (some (.int (-1)))) 0 0 (fun _ => False) := by
  refine Met.ofW (cc := cX7_shown) (maxL := 3) (ret := (some .int)) (by decide) rfl ?_
  intro p e s m args below meth c s₁ B hml hv
  obtain ⟨rfl, hP, hK⟩ := hv
  have hx := B.exec
  have hb := B.bytes
  have hr := B.returns
  have hts := atoms_spec (ws := wsX7_shown) B.pre
  have hown : s.vm.findClass RX7 = some m.cls := findClass_of_methodNamed B.named
  have hlocks := B.notSynchronized
  have hl := lv_entry ([.ref h0, .int i, .int w]) (n := 3) (Nat.le_of_ble_eq_true rfl)
  rw [lg_entry_eq]
  generalize (lg_sl ([.ref h0, .int i, .int w]) ++ List.replicate (3 - (lg_sl ([.ref h0, .int i, .int w])).length) Slot.unset).toArray = ls at hl ⊢
  have hl : lv_has ls 3 [(0, .ref h0), (1, .int i), (2, .int w)] := hl
  refine lv_aload_n hx hb dX7_shown_0 rfl (lv_at hl 0 rfl) ?_
  refine lv_iload_n hx hb dX7_shown_1 rfl (lv_at hl 1 rfl) ?_
  refine rq_call1 (v := .int (bI (0 ≤ i ∧ i < x14))) (rn_V (As := [.int i]) (rest := []) (ci := 6) (fs := [.ref x0, .ref x1, .ref x2, .int x3, .ref x4, .ref x5, .ref x6, .ref x7, .ref x8, .ref x9, .ref x10, .ref x11, .int x12, .int x13, .int x14, .int x15, .int x16, .int x17, .int x18, .int x19]) ⟨hx, hb, hml, hown, hts⟩ (c_X7_isBallot l D cA h0 x0 x1 x2 x3 x4 x5 x6 x7 x8 x9 x10 x11 x12 x13 x14 x15 x16 x17 x18 x19 i) rfl (cwV 1 hts gX7_shown_X7_isBallot rfl rfl rfl (by decide +kernel) ⟨Nat.le_of_ble_eq_true rfl, Nat.le_of_ble_eq_true rfl⟩) hK hP [0] rfl rfl rfl hl.1 rfl (Nat.le_of_ble_eq_true rfl) dX7_shown_2 ⟨Nat.le_of_ble_eq_true rfl, Nat.le_of_ble_eq_true rfl⟩) ?_
  refine lv_if_ne (tgt := 10) hx hb dX7_shown_5 (by decide) (fun c_5 => ?_) (fun c_5 => ?_)
  · exact absurd (bI_f hb0).symm c_5
  · skip
    refine lv_iconst (v := (-1)) hx hb dX7_shown_8 (by decide) ?_
    exact W.iret (v := (-1)) hx hb hr (fun t ht hW => ⟨congrArg (fun z => Outcome.returned (some (Value.int z))) (rfl), ht⟩) (fun _ h => by cases h) dX7_shown_9

set_option maxHeartbeats 4000000 in
set_option maxRecDepth 100000 in
theorem c_X7_given_nb (l : Launch) (D : va_G) (cA : Nat → ClassId) (h0 : Nat) (x0 : Nat) (x1 : Nat) (x2 : Nat) (x3 : Int32) (x4 : Nat) (x5 : Nat) (x6 : Nat) (x7 : Nat) (x8 : Nat) (x9 : Nat) (x10 : Nat) (x11 : Nat) (x12 : Int32) (x13 : Int32) (x14 : Int32) (x15 : Int32) (x16 : Int32) (x17 : Int32) (x18 : Int32) (x19 : Int32) (j : Int32) (i : Int32) (hb0 : ¬ (0 ≤ i ∧ i < x14)) : Met l yX7_given wsX7_given ({ frames := 1, cells := 0, slots := 0, locals := 21 }) (rPc vwCl D cA [(h0, .inr (6, [.ref x0, .ref x1, .ref x2, .int x3, .ref x4, .ref x5, .ref x6, .ref x7, .ref x8, .ref x9, .ref x10, .ref x11, .int x12, .int x13, .int x14, .int x15, .int x16, .int x17, .int x18, .int x19]))] [.ref h0, .int j, .int i]) (rq_x (some (.int (-1)))) 0 0 (fun _ => False) := by
  refine Met.ofW (cc := cX7_given) (maxL := 3) (ret := (some .int)) (by decide) rfl ?_
  intro p e s m args below meth c s₁ B hml hv
  obtain ⟨rfl, hP, hK⟩ := hv
  have hx := B.exec
  have hb := B.bytes
  have hr := B.returns
  have hts := atoms_spec (ws := wsX7_given) B.pre
  have hown : s.vm.findClass RX7 = some m.cls := findClass_of_methodNamed B.named
  have hlocks := B.notSynchronized
  have hl := lv_entry ([.ref h0, .int j, .int i]) (n := 3) (Nat.le_of_ble_eq_true rfl)
  rw [lg_entry_eq]
  generalize (lg_sl ([.ref h0, .int j, .int i]) ++ List.replicate (3 - (lg_sl ([.ref h0, .int j, .int i])).length) Slot.unset).toArray = ls at hl ⊢
  have hl : lv_has ls 3 [(0, .ref h0), (1, .int j), (2, .int i)] := hl
  refine lv_aload_n hx hb dX7_given_0 rfl (lv_at hl 0 rfl) ?_
  refine lv_iload_n hx hb dX7_given_1 rfl (lv_at hl 2 rfl) ?_
  refine rq_call1 (v := .int (bI (0 ≤ i ∧ i < x14))) (rn_V (As := [.int i]) (rest := []) (ci := 6) (fs := [.ref x0, .ref x1, .ref x2, .int x3, .ref x4, .ref x5, .ref x6, .ref x7, .ref x8, .ref x9, .ref x10, .ref x11, .int x12, .int x13, .int x14, .int x15, .int x16, .int x17, .int x18, .int x19]) ⟨hx, hb, hml, hown, hts⟩ (c_X7_isBallot l D cA h0 x0 x1 x2 x3 x4 x5 x6 x7 x8 x9 x10 x11 x12 x13 x14 x15 x16 x17 x18 x19 i) rfl (cwV 1 hts gX7_given_X7_isBallot rfl rfl rfl (by decide +kernel) ⟨Nat.le_of_ble_eq_true rfl, Nat.le_of_ble_eq_true rfl⟩) hK hP [0] rfl rfl rfl hl.1 rfl (Nat.le_of_ble_eq_true rfl) dX7_given_2 ⟨Nat.le_of_ble_eq_true rfl, Nat.le_of_ble_eq_true rfl⟩) ?_
  refine lv_if_eq (tgt := 20) hx hb dX7_given_5 (by decide) (fun c_5 => ?_) (fun c_5 => ?_)
  · skip
    refine lv_iconst (v := (-1)) hx hb dX7_given_20 (by decide) ?_
    exact W.iret (v := (-1)) hx hb hr (fun t ht hW => ⟨congrArg (fun z => Outcome.returned (some (Value.int z))) (rfl), ht⟩) (fun _ h => by cases h) dX7_given_21
  · exact absurd (bI_f hb0).symm c_5

set_option maxHeartbeats 4000000 in
set_option maxRecDepth 100000 in
theorem c_X7_entry_no (l : Launch) (D : va_G) (cA : Nat → ClassId) (h0 : Nat) (x0 : Nat) (x1 : Nat) (x2 : Nat) (x3 : Int32) (x4 : Nat) (x5 : Nat) (x6 : Nat) (x7 : Nat) (x8 : Nat) (x9 : Nat) (x10 : Nat) (x11 : Nat) (x12 : Int32) (x13 : Int32) (x14 : Int32) (x15 : Int32) (x16 : Int32) (x17 : Int32) (x18 : Int32) (x19 : Int32) (ka : Nat) (xa : Nat) (ya : Nat) (za : Nat) (ca : Nat) (n : Int32) (i : Int32) (w : Int32) (hi : ¬ (0 ≤ i ∧ i < n)) : Met l yX7_entry wsX7_entry ({ frames := 2, cells := 0, slots := 0, locals := 43 }) (rPc vwCl D cA [(h0, .inr (6, [.ref x0, .ref x1, .ref x2, .int x3, .ref x4, .ref x5, .ref x6, .ref x7, .ref x8, .ref x9, .ref x10, .ref x11, .int x12, .int x13, .int x14, .int x15, .int x16, .int x17, .int x18, .int x19])), (x2, .inr (0, [.ref ka, .ref xa, .ref ya, .ref za, .ref ca, .int n]))] [.ref h0, .int i, .int w]) (rq_x (some (.long 0))) 0 0 (fun _ => False) := by
  refine Met.ofW (cc := cX7_entry) (maxL := 3) (ret := (some .long)) (by decide) rfl ?_
  intro p e s m args below meth c s₁ B hml hv
  obtain ⟨rfl, hP, hK⟩ := hv
  have hx := B.exec
  have hb := B.bytes
  have hr := B.returns
  have hts := atoms_spec (ws := wsX7_entry) B.pre
  have hown : s.vm.findClass RX7 = some m.cls := findClass_of_methodNamed B.named
  have hlocks := B.notSynchronized
  have hin_X7 : ∀ w ∈ wsX70, w ∈ wsX7_entry := fun w h => List.mem_cons_of_mem _ (List.mem_append_left _ (List.mem_append_right _ h))
  have w_RX7_55 := hts (.fieldLink RX7 55 "MixElection" "board" "LMixElection$Board;") (by decide +kernel)
  have hl := lv_entry ([.ref h0, .int i, .int w]) (n := 3) (Nat.le_of_ble_eq_true rfl)
  rw [lg_entry_eq]
  generalize (lg_sl ([.ref h0, .int i, .int w]) ++ List.replicate (3 - (lg_sl ([.ref h0, .int i, .int w])).length) Slot.unset).toArray = ls at hl ⊢
  have hl : lv_has ls 3 [(0, .ref h0), (1, .int i), (2, .int w)] := hl
  refine lv_aload_n hx hb dX7_entry_0 rfl (lv_at hl 0 rfl) ?_
  refine va_get (D := D) (ci := 6) (v := .ref x2) (C := RX7) (T := TX7) (N := 20) hx hb hts hin_X7 hown hK hP 0 rfl rfl 2 (by decide) (w_RX7_55) (fun _ h9 => h9) rfl dX7_entry_1 ?_
  refine lv_iload_n hx hb dX7_entry_4 rfl (lv_at hl 1 rfl) ?_
  refine lv_iload_n hx hb dX7_entry_5 rfl (lv_at hl 2 rfl) ?_
  refine rq_call1 (v := .long 0) (rn_V (As := [.int i, .int w]) (rest := []) (ci := 0) (fs := [.ref ka, .ref xa, .ref ya, .ref za, .ref ca, .int n]) ⟨hx, hb, hml, hown, hts⟩ (c_X0_field_no l D cA x2 ka xa ya za ca n i w (by assumption)) rfl (cwV 2 hts gX7_entry_X0_field rfl rfl rfl (by decide +kernel) ⟨Nat.le_of_ble_eq_true rfl, Nat.le_of_ble_eq_true rfl⟩) hK hP [1] rfl rfl rfl hl.1 rfl (Nat.le_of_ble_eq_true rfl) dX7_entry_6 ⟨Nat.le_of_ble_eq_true rfl, Nat.le_of_ble_eq_true rfl⟩) ?_
  exact W.lret (v := 0) hx hb hr (fun t ht hW => ⟨congrArg (fun z => Outcome.returned (some (Value.long z))) (rfl), ht⟩) (fun _ h => by cases h) dX7_entry_9

set_option maxHeartbeats 4000000 in
set_option maxRecDepth 100000 in
theorem c_X7_chain (l : Launch) (D : va_G) (cA : Nat → ClassId) (h0 : Nat) (x0 : Nat) (x1 : Nat) (x2 : Nat) (x3 : Int32) (x4 : Nat) (x5 : Nat) (x6 : Nat) (x7 : Nat) (x8 : Nat) (x9 : Nat) (x10 : Nat) (x11 : Nat) (x12 : Int32) (x13 : Int32) (x14 : Int32) (x15 : Int32) (x16 : Int32) (x17 : Int32) (x18 : Int32) (x19 : Int32) (ka : Nat) (xa : Nat) (ya : Nat) (za : Nat) (ca : Nat) (n : Int32) (i : Int32) (cf : Nat → Int64) (n0 : Nat) (hn : n = nI n0) (h6 : n0 ≤ 600) : Met l yX7_chain wsX7_chain ({ frames := 2, cells := 0, slots := 0, locals := 42 }) (rPc vwCl D cA [(h0, .inr (6, [.ref x0, .ref x1, .ref x2, .int x3, .ref x4, .ref x5, .ref x6, .ref x7, .ref x8, .ref x9, .ref x10, .ref x11, .int x12, .int x13, .int x14, .int x15, .int x16, .int x17, .int x18, .int x19])), (x2, .inr (0, [.ref ka, .ref xa, .ref ya, .ref za, .ref ca, .int n])), (ca, .inl (cA 2, 600, .inr (.inl cf)))] [.ref h0, .int i]) (rq_x (some (.long (cho cf n i)))) 0 0 (fun _ => False) := by
  refine Met.ofW (cc := cX7_chain) (maxL := 2) (ret := (some .long)) (by decide) rfl ?_
  intro p e s m args below meth c s₁ B hml hv
  obtain ⟨rfl, hP, hK⟩ := hv
  have hx := B.exec
  have hb := B.bytes
  have hr := B.returns
  have hts := atoms_spec (ws := wsX7_chain) B.pre
  have hown : s.vm.findClass RX7 = some m.cls := findClass_of_methodNamed B.named
  have hlocks := B.notSynchronized
  have hin_X7 : ∀ w ∈ wsX70, w ∈ wsX7_chain := fun w h => List.mem_cons_of_mem _ (List.mem_append_left _ (List.mem_append_right _ h))
  have w_RX7_55 := hts (.fieldLink RX7 55 "MixElection" "board" "LMixElection$Board;") (by decide +kernel)
  have hl := lv_entry ([.ref h0, .int i]) (n := 2) (Nat.le_of_ble_eq_true rfl)
  rw [lg_entry_eq]
  generalize (lg_sl ([.ref h0, .int i]) ++ List.replicate (2 - (lg_sl ([.ref h0, .int i])).length) Slot.unset).toArray = ls at hl ⊢
  have hl : lv_has ls 2 [(0, .ref h0), (1, .int i)] := hl
  refine lv_aload_n hx hb dX7_chain_0 rfl (lv_at hl 0 rfl) ?_
  refine va_get (D := D) (ci := 6) (v := .ref x2) (C := RX7) (T := TX7) (N := 20) hx hb hts hin_X7 hown hK hP 0 rfl rfl 2 (by decide) (w_RX7_55) (fun _ h9 => h9) rfl dX7_chain_1 ?_
  refine lv_iload_n hx hb dX7_chain_4 rfl (lv_at hl 1 rfl) ?_
  refine rq_call1 (v := .long (cho cf n i)) (rn_V (As := [.int i]) (rest := []) (ci := 0) (fs := [.ref ka, .ref xa, .ref ya, .ref za, .ref ca, .int n]) ⟨hx, hb, hml, hown, hts⟩ (c_X0_chainOf l D cA x2 ka xa ya za ca n i cf n0 hn h6) rfl (cwV 1 hts gX7_chain_X0_chainOf rfl rfl rfl (by decide +kernel) ⟨Nat.le_of_ble_eq_true rfl, Nat.le_of_ble_eq_true rfl⟩) hK hP [1, 2] rfl rfl rfl hl.1 rfl (Nat.le_of_ble_eq_true rfl) dX7_chain_5 ⟨Nat.le_of_ble_eq_true rfl, Nat.le_of_ble_eq_true rfl⟩) ?_
  exact W.lret (v := (cho cf n i)) hx hb hr (fun t ht hW => ⟨congrArg (fun z => Outcome.returned (some (Value.long z))) (rfl), ht⟩) (fun _ h => by cases h) dX7_chain_8

set_option maxHeartbeats 4000000 in
set_option maxRecDepth 100000 in
theorem c_X7_aboutStaging_st (l : Launch) (D : va_G) (cA : Nat → ClassId) (h0 : Nat) (x0 : Nat) (x1 : Nat) (x2 : Nat) (x3 : Int32) (x4 : Nat) (x5 : Nat) (x6 : Nat) (x7 : Nat) (x8 : Nat) (x9 : Nat) (x10 : Nat) (x11 : Nat) (x12 : Int32) (x13 : Int32) (x14 : Int32) (x15 : Int32) (x16 : Int32) (x17 : Int32) (x18 : Int32) (x19 : Int32) (hst : ¬ x12 = 2) : Met l yX7_aboutStaging wsX7_aboutStaging ({ frames := 0, cells := 0, slots := 0, locals := 0 }) (rPc vwCl D cA [(h0, .inr (6, [.ref x0, .ref x1, .ref x2, .int x3, .ref x4, .ref x5, .ref x6, .ref x7, .ref x8, .ref x9, .ref x10, .ref x11, .int x12, .int x13, .int x14, .int x15, .int x16, .int x17, .int x18, .int x19]))] [.ref h0]) (rq_x (some (.int (-1)))) 0 0 (fun _ => False) := by
  refine Met.ofW (cc := cX7_aboutStaging) (maxL := 1) (ret := (some .int)) (by decide) rfl ?_
  intro p e s m args below meth c s₁ B hml hv
  obtain ⟨rfl, hP, hK⟩ := hv
  have hx := B.exec
  have hb := B.bytes
  have hr := B.returns
  have hts := atoms_spec (ws := wsX7_aboutStaging) B.pre
  have hown : s.vm.findClass RX7 = some m.cls := findClass_of_methodNamed B.named
  have hlocks := B.notSynchronized
  have hin_X7 : ∀ w ∈ wsX70, w ∈ wsX7_aboutStaging := fun w h => List.mem_cons_of_mem _ (List.mem_append_left _ (List.mem_append_left _ (List.mem_append_right _ h)))
  have w_RX7_97 := hts (.fieldLink RX7 97 "MixElection" "stage" "I") (by decide +kernel)
  have hl := lv_entry ([.ref h0]) (n := 1) (Nat.le_of_ble_eq_true rfl)
  rw [lg_entry_eq]
  generalize (lg_sl ([.ref h0]) ++ List.replicate (1 - (lg_sl ([.ref h0])).length) Slot.unset).toArray = ls at hl ⊢
  have hl : lv_has ls 1 [(0, .ref h0)] := hl
  refine lv_aload_n hx hb dX7_aboutStaging_0 rfl (lv_at hl 0 rfl) ?_
  refine va_get (D := D) (ci := 6) (v := .int x12) (C := RX7) (T := TX7) (N := 20) hx hb hts hin_X7 hown hK hP 0 rfl rfl 12 (by decide) (w_RX7_97) (fun _ h9 => h9) rfl dX7_aboutStaging_1 ?_
  refine lv_iconst (v := 2) hx hb dX7_aboutStaging_4 (by decide) ?_
  refine lv_icmp_eq (tgt := 10) hx hb dX7_aboutStaging_5 (by decide) (fun c_5 => ?_) (fun c_5 => ?_)
  · exact absurd c_5 hst
  · skip
    refine lv_iconst (v := (-1)) hx hb dX7_aboutStaging_8 (by decide) ?_
    exact W.iret (v := (-1)) hx hb hr (fun t ht hW => ⟨congrArg (fun z => Outcome.returned (some (Value.int z))) (rfl), ht⟩) (fun _ h => by cases h) dX7_aboutStaging_9

set_option maxHeartbeats 4000000 in
set_option maxRecDepth 100000 in
theorem c_X7_about_su (l : Launch) (D : va_G) (cA : Nat → ClassId) (h0 : Nat) (x0 : Nat) (x1 : Nat) (x2 : Nat) (x3 : Int32) (x4 : Nat) (x5 : Nat) (x6 : Nat) (x7 : Nat) (x8 : Nat) (x9 : Nat) (x10 : Nat) (x11 : Nat) (x12 : Int32) (x13 : Int32) (x14 : Int32) (x15 : Int32) (x16 : Int32) (x17 : Int32) (x18 : Int32) (x19 : Int32) (ts : Int32) (tk : Int32) (tco : Nat) (t4 : Nat) (t5 : Nat) (t6 : Nat) (tv : Int32) (gp : Int32) (gq : Int32) (gh : Int32) (ka : Nat) (xa : Nat) (ya : Nat) (za : Nat) (ca : Nat) (n : Int32) (wh : Int32) (hst : x12 = 0) (hd : x19 = 0) : Met l yX7_about wsX7_about ({ frames := 1, cells := 0, slots := 0, locals := 20 }) (rPc vwCl D cA [(h0, .inr (6, [.ref x0, .ref x1, .ref x2, .int x3, .ref x4, .ref x5, .ref x6, .ref x7, .ref x8, .ref x9, .ref x10, .ref x11, .int x12, .int x13, .int x14, .int x15, .int x16, .int x17, .int x18, .int x19])), (x1, .inr (5, [.ref x0, .int ts, .int tk, .ref tco, .ref t4, .ref t5, .ref t6, .int tv])), (x0, .inr (1, [.int gp, .int gq, .int gh])), (x2, .inr (0, [.ref ka, .ref xa, .ref ya, .ref za, .ref ca, .int n]))] [.ref h0, .int wh]) (rq_x (some (.int (abv wh [gp, gq, gh, x3, ts, tk, x13, x12, n, -1, x15, x17, x18, tv, 0, -1])))) 0 0 (fun _ => False) := by
  refine Met.ofW (cc := cX7_about) (maxL := 2) (ret := (some .int)) (by decide) rfl ?_
  intro p e s m args below meth c s₁ B hml hv
  obtain ⟨rfl, hP, hK⟩ := hv
  have hx := B.exec
  have hb := B.bytes
  have hr := B.returns
  have hts := atoms_spec (ws := wsX7_about) B.pre
  have hown : s.vm.findClass RX7 = some m.cls := findClass_of_methodNamed B.named
  have hlocks := B.notSynchronized
  have hin_X7 : ∀ w ∈ wsX70, w ∈ wsX7_about := fun w h => List.mem_cons_of_mem _ (List.mem_append_left _ (List.mem_append_left _ (List.mem_append_left _ (List.mem_append_left _ (List.mem_append_left _ (List.mem_append_right _ h))))))
  have w_RX7_25 := hts (.fieldLink RX7 25 "MixElection" "group" "LMixElection$Group;") (by decide +kernel)
  have w_RX7_39 := hts (.fieldLink RX7 39 "MixElection" "candidates" "I") (by decide +kernel)
  have w_RX7_48 := hts (.fieldLink RX7 48 "MixElection" "trustees" "LMixElection$Trustees;") (by decide +kernel)
  have w_RX7_123 := hts (.fieldLink RX7 123 "MixElection" "voters" "I") (by decide +kernel)
  have w_RX7_97 := hts (.fieldLink RX7 97 "MixElection" "stage" "I") (by decide +kernel)
  have w_RX7_55 := hts (.fieldLink RX7 55 "MixElection" "board" "LMixElection$Board;") (by decide +kernel)
  have w_RX7_179 := hts (.fieldLink RX7 179 "MixElection" "mixes" "I") (by decide +kernel)
  have w_RX7_190 := hts (.fieldLink RX7 190 "MixElection" "rounds" "I") (by decide +kernel)
  have w_RX7_206 := hts (.fieldLink RX7 206 "MixElection" "rejectedRounds" "I") (by decide +kernel)
  have w_RX7_196 := hts (.fieldLink RX7 196 "MixElection" "coinIsDue" "Z") (by decide +kernel)
  have hl := lv_entry ([.ref h0, .int wh]) (n := 2) (Nat.le_of_ble_eq_true rfl)
  rw [lg_entry_eq]
  generalize (lg_sl ([.ref h0, .int wh]) ++ List.replicate (2 - (lg_sl ([.ref h0, .int wh])).length) Slot.unset).toArray = ls at hl ⊢
  have hl : lv_has ls 2 [(0, .ref h0), (1, .int wh)] := hl
  refine lv_iload_n hx hb dX7_about_0 rfl (lv_at hl 1 rfl) ?_
  rcases sw_16 wh with rfl | rfl | rfl | rfl | rfl | rfl | rfl | rfl | rfl | rfl | rfl | rfl | rfl | rfl | rfl | rfl | hsw
  · refine lv_tableIn (off := 79) (tgt := 80) hx hb dX7_about_1 (by decide) (by decide) (by decide) (by decide) ?_
    refine lv_aload_n hx hb dX7_about_80 rfl (lv_at hl 0 rfl) ?_
    refine va_get (D := D) (ci := 6) (v := .ref x0) (C := RX7) (T := TX7) (N := 20) hx hb hts hin_X7 hown hK hP 0 rfl rfl 0 (by decide) (w_RX7_25) (fun _ h9 => h9) rfl dX7_about_81 ?_
    refine rq_call1 (v := .int gp) (rn_V (As := []) (rest := []) (ci := 1) (fs := [.int gp, .int gq, .int gh]) ⟨hx, hb, hml, hown, hts⟩ (c_X1_modulus l D cA x0 gp gq gh) rfl (cwV 0 hts gX7_about_X1_modulus rfl rfl rfl (by decide +kernel) ⟨Nat.le_of_ble_eq_true rfl, Nat.le_of_ble_eq_true rfl⟩) hK hP [2] rfl rfl rfl hl.1 rfl (Nat.le_of_ble_eq_true rfl) dX7_about_84 ⟨Nat.le_of_ble_eq_true rfl, Nat.le_of_ble_eq_true rfl⟩) ?_
    exact W.iret (v := gp) hx hb hr (fun t ht hW => ⟨congrArg (fun z => Outcome.returned (some (Value.int z))) (rfl), ht⟩) (fun _ h => by cases h) dX7_about_87
  · refine lv_tableIn (off := 87) (tgt := 88) hx hb dX7_about_1 (by decide) (by decide) (by decide) (by decide) ?_
    refine lv_aload_n hx hb dX7_about_88 rfl (lv_at hl 0 rfl) ?_
    refine va_get (D := D) (ci := 6) (v := .ref x0) (C := RX7) (T := TX7) (N := 20) hx hb hts hin_X7 hown hK hP 0 rfl rfl 0 (by decide) (w_RX7_25) (fun _ h9 => h9) rfl dX7_about_89 ?_
    refine rq_call1 (v := .int gq) (rn_V (As := []) (rest := []) (ci := 1) (fs := [.int gp, .int gq, .int gh]) ⟨hx, hb, hml, hown, hts⟩ (c_X1_order l D cA x0 gp gq gh) rfl (cwV 0 hts gX7_about_X1_order rfl rfl rfl (by decide +kernel) ⟨Nat.le_of_ble_eq_true rfl, Nat.le_of_ble_eq_true rfl⟩) hK hP [2] rfl rfl rfl hl.1 rfl (Nat.le_of_ble_eq_true rfl) dX7_about_92 ⟨Nat.le_of_ble_eq_true rfl, Nat.le_of_ble_eq_true rfl⟩) ?_
    exact W.iret (v := gq) hx hb hr (fun t ht hW => ⟨congrArg (fun z => Outcome.returned (some (Value.int z))) (rfl), ht⟩) (fun _ h => by cases h) dX7_about_95
  · refine lv_tableIn (off := 95) (tgt := 96) hx hb dX7_about_1 (by decide) (by decide) (by decide) (by decide) ?_
    refine lv_aload_n hx hb dX7_about_96 rfl (lv_at hl 0 rfl) ?_
    refine va_get (D := D) (ci := 6) (v := .ref x0) (C := RX7) (T := TX7) (N := 20) hx hb hts hin_X7 hown hK hP 0 rfl rfl 0 (by decide) (w_RX7_25) (fun _ h9 => h9) rfl dX7_about_97 ?_
    refine rq_call1 (v := .int gh) (rn_V (As := []) (rest := []) (ci := 1) (fs := [.int gp, .int gq, .int gh]) ⟨hx, hb, hml, hown, hts⟩ (c_X1_publicKey l D cA x0 gp gq gh) rfl (cwV 0 hts gX7_about_X1_publicKey rfl rfl rfl (by decide +kernel) ⟨Nat.le_of_ble_eq_true rfl, Nat.le_of_ble_eq_true rfl⟩) hK hP [2] rfl rfl rfl hl.1 rfl (Nat.le_of_ble_eq_true rfl) dX7_about_100 ⟨Nat.le_of_ble_eq_true rfl, Nat.le_of_ble_eq_true rfl⟩) ?_
    exact W.iret (v := gh) hx hb hr (fun t ht hW => ⟨congrArg (fun z => Outcome.returned (some (Value.int z))) (rfl), ht⟩) (fun _ h => by cases h) dX7_about_103
  · refine lv_tableIn (off := 103) (tgt := 104) hx hb dX7_about_1 (by decide) (by decide) (by decide) (by decide) ?_
    refine lv_aload_n hx hb dX7_about_104 rfl (lv_at hl 0 rfl) ?_
    refine va_get (D := D) (ci := 6) (v := .int x3) (C := RX7) (T := TX7) (N := 20) hx hb hts hin_X7 hown hK hP 0 rfl rfl 3 (by decide) (w_RX7_39) (fun _ h9 => h9) rfl dX7_about_105 ?_
    exact W.iret (v := x3) hx hb hr (fun t ht hW => ⟨congrArg (fun z => Outcome.returned (some (Value.int z))) (rfl), ht⟩) (fun _ h => by cases h) dX7_about_108
  · refine lv_tableIn (off := 108) (tgt := 109) hx hb dX7_about_1 (by decide) (by decide) (by decide) (by decide) ?_
    refine lv_aload_n hx hb dX7_about_109 rfl (lv_at hl 0 rfl) ?_
    refine va_get (D := D) (ci := 6) (v := .ref x1) (C := RX7) (T := TX7) (N := 20) hx hb hts hin_X7 hown hK hP 0 rfl rfl 1 (by decide) (w_RX7_48) (fun _ h9 => h9) rfl dX7_about_110 ?_
    refine rq_call1 (v := .int ts) (rn_V (As := []) (rest := []) (ci := 5) (fs := [.ref x0, .int ts, .int tk, .ref tco, .ref t4, .ref t5, .ref t6, .int tv]) ⟨hx, hb, hml, hown, hts⟩ (c_X6_size l D cA x1 x0 ts tk tco t4 t5 t6 tv) rfl (cwV 0 hts gX7_about_X6_size rfl rfl rfl (by decide +kernel) ⟨Nat.le_of_ble_eq_true rfl, Nat.le_of_ble_eq_true rfl⟩) hK hP [1] rfl rfl rfl hl.1 rfl (Nat.le_of_ble_eq_true rfl) dX7_about_113 ⟨Nat.le_of_ble_eq_true rfl, Nat.le_of_ble_eq_true rfl⟩) ?_
    exact W.iret (v := ts) hx hb hr (fun t ht hW => ⟨congrArg (fun z => Outcome.returned (some (Value.int z))) (rfl), ht⟩) (fun _ h => by cases h) dX7_about_116
  · refine lv_tableIn (off := 116) (tgt := 117) hx hb dX7_about_1 (by decide) (by decide) (by decide) (by decide) ?_
    refine lv_aload_n hx hb dX7_about_117 rfl (lv_at hl 0 rfl) ?_
    refine va_get (D := D) (ci := 6) (v := .ref x1) (C := RX7) (T := TX7) (N := 20) hx hb hts hin_X7 hown hK hP 0 rfl rfl 1 (by decide) (w_RX7_48) (fun _ h9 => h9) rfl dX7_about_118 ?_
    refine rq_call1 (v := .int tk) (rn_V (As := []) (rest := []) (ci := 5) (fs := [.ref x0, .int ts, .int tk, .ref tco, .ref t4, .ref t5, .ref t6, .int tv]) ⟨hx, hb, hml, hown, hts⟩ (c_X6_needed l D cA x1 x0 ts tk tco t4 t5 t6 tv) rfl (cwV 0 hts gX7_about_X6_needed rfl rfl rfl (by decide +kernel) ⟨Nat.le_of_ble_eq_true rfl, Nat.le_of_ble_eq_true rfl⟩) hK hP [1] rfl rfl rfl hl.1 rfl (Nat.le_of_ble_eq_true rfl) dX7_about_121 ⟨Nat.le_of_ble_eq_true rfl, Nat.le_of_ble_eq_true rfl⟩) ?_
    exact W.iret (v := tk) hx hb hr (fun t ht hW => ⟨congrArg (fun z => Outcome.returned (some (Value.int z))) (rfl), ht⟩) (fun _ h => by cases h) dX7_about_124
  · refine lv_tableIn (off := 124) (tgt := 125) hx hb dX7_about_1 (by decide) (by decide) (by decide) (by decide) ?_
    refine lv_aload_n hx hb dX7_about_125 rfl (lv_at hl 0 rfl) ?_
    refine va_get (D := D) (ci := 6) (v := .int x13) (C := RX7) (T := TX7) (N := 20) hx hb hts hin_X7 hown hK hP 0 rfl rfl 13 (by decide) (w_RX7_123) (fun _ h9 => h9) rfl dX7_about_126 ?_
    exact W.iret (v := x13) hx hb hr (fun t ht hW => ⟨congrArg (fun z => Outcome.returned (some (Value.int z))) (rfl), ht⟩) (fun _ h => by cases h) dX7_about_129
  · refine lv_tableIn (off := 129) (tgt := 130) hx hb dX7_about_1 (by decide) (by decide) (by decide) (by decide) ?_
    refine lv_aload_n hx hb dX7_about_130 rfl (lv_at hl 0 rfl) ?_
    refine va_get (D := D) (ci := 6) (v := .int x12) (C := RX7) (T := TX7) (N := 20) hx hb hts hin_X7 hown hK hP 0 rfl rfl 12 (by decide) (w_RX7_97) (fun _ h9 => h9) rfl dX7_about_131 ?_
    exact W.iret (v := x12) hx hb hr (fun t ht hW => ⟨congrArg (fun z => Outcome.returned (some (Value.int z))) (rfl), ht⟩) (fun _ h => by cases h) dX7_about_134
  · refine lv_tableIn (off := 134) (tgt := 135) hx hb dX7_about_1 (by decide) (by decide) (by decide) (by decide) ?_
    refine lv_aload_n hx hb dX7_about_135 rfl (lv_at hl 0 rfl) ?_
    refine va_get (D := D) (ci := 6) (v := .ref x2) (C := RX7) (T := TX7) (N := 20) hx hb hts hin_X7 hown hK hP 0 rfl rfl 2 (by decide) (w_RX7_55) (fun _ h9 => h9) rfl dX7_about_136 ?_
    refine rq_call1 (v := .int n) (rn_V (As := []) (rest := []) (ci := 0) (fs := [.ref ka, .ref xa, .ref ya, .ref za, .ref ca, .int n]) ⟨hx, hb, hml, hown, hts⟩ (c_X0_size l D cA x2 ka xa ya za ca n) rfl (cwV 0 hts gX7_about_X0_size rfl rfl rfl (by decide +kernel) ⟨Nat.le_of_ble_eq_true rfl, Nat.le_of_ble_eq_true rfl⟩) hK hP [3] rfl rfl rfl hl.1 rfl (Nat.le_of_ble_eq_true rfl) dX7_about_139 ⟨Nat.le_of_ble_eq_true rfl, Nat.le_of_ble_eq_true rfl⟩) ?_
    exact W.iret (v := n) hx hb hr (fun t ht hW => ⟨congrArg (fun z => Outcome.returned (some (Value.int z))) (rfl), ht⟩) (fun _ h => by cases h) dX7_about_142
  · refine lv_tableIn (off := 142) (tgt := 143) hx hb dX7_about_1 (by decide) (by decide) (by decide) (by decide) ?_
    refine lv_aload_n hx hb dX7_about_143 rfl (lv_at hl 0 rfl) ?_
    refine va_get (D := D) (ci := 6) (v := .int x12) (C := RX7) (T := TX7) (N := 20) hx hb hts hin_X7 hown hK hP 0 rfl rfl 12 (by decide) (w_RX7_97) (fun _ h9 => h9) rfl dX7_about_144 ?_
    refine lv_iconst (v := 2) hx hb dX7_about_147 (by decide) ?_
    refine lv_icmp_ge (tgt := 155) hx hb dX7_about_148 (by decide) (fun c_148 => ?_) (fun c_148 => ?_)
    · exact absurd c_148 (by rw [hst]; decide)
    · skip
      refine lv_iconst (v := (-1)) hx hb dX7_about_151 (by decide) ?_
      refine lv_goto (tgt := 159) hx hb dX7_about_152 (by decide) ?_
      exact W.iret (v := (-1)) hx hb hr (fun t ht hW => ⟨congrArg (fun z => Outcome.returned (some (Value.int z))) (rfl), ht⟩) (fun _ h => by cases h) dX7_about_159
  · refine lv_tableIn (off := 159) (tgt := 160) hx hb dX7_about_1 (by decide) (by decide) (by decide) (by decide) ?_
    refine lv_aload_n hx hb dX7_about_160 rfl (lv_at hl 0 rfl) ?_
    refine va_get (D := D) (ci := 6) (v := .int x15) (C := RX7) (T := TX7) (N := 20) hx hb hts hin_X7 hown hK hP 0 rfl rfl 15 (by decide) (w_RX7_179) (fun _ h9 => h9) rfl dX7_about_161 ?_
    exact W.iret (v := x15) hx hb hr (fun t ht hW => ⟨congrArg (fun z => Outcome.returned (some (Value.int z))) (rfl), ht⟩) (fun _ h => by cases h) dX7_about_164
  · refine lv_tableIn (off := 164) (tgt := 165) hx hb dX7_about_1 (by decide) (by decide) (by decide) (by decide) ?_
    refine lv_aload_n hx hb dX7_about_165 rfl (lv_at hl 0 rfl) ?_
    refine va_get (D := D) (ci := 6) (v := .int x17) (C := RX7) (T := TX7) (N := 20) hx hb hts hin_X7 hown hK hP 0 rfl rfl 17 (by decide) (w_RX7_190) (fun _ h9 => h9) rfl dX7_about_166 ?_
    exact W.iret (v := x17) hx hb hr (fun t ht hW => ⟨congrArg (fun z => Outcome.returned (some (Value.int z))) (rfl), ht⟩) (fun _ h => by cases h) dX7_about_169
  · refine lv_tableIn (off := 169) (tgt := 170) hx hb dX7_about_1 (by decide) (by decide) (by decide) (by decide) ?_
    refine lv_aload_n hx hb dX7_about_170 rfl (lv_at hl 0 rfl) ?_
    refine va_get (D := D) (ci := 6) (v := .int x18) (C := RX7) (T := TX7) (N := 20) hx hb hts hin_X7 hown hK hP 0 rfl rfl 18 (by decide) (w_RX7_206) (fun _ h9 => h9) rfl dX7_about_171 ?_
    exact W.iret (v := x18) hx hb hr (fun t ht hW => ⟨congrArg (fun z => Outcome.returned (some (Value.int z))) (rfl), ht⟩) (fun _ h => by cases h) dX7_about_174
  · refine lv_tableIn (off := 174) (tgt := 175) hx hb dX7_about_1 (by decide) (by decide) (by decide) (by decide) ?_
    refine lv_aload_n hx hb dX7_about_175 rfl (lv_at hl 0 rfl) ?_
    refine va_get (D := D) (ci := 6) (v := .ref x1) (C := RX7) (T := TX7) (N := 20) hx hb hts hin_X7 hown hK hP 0 rfl rfl 1 (by decide) (w_RX7_48) (fun _ h9 => h9) rfl dX7_about_176 ?_
    refine rq_call1 (v := .int tv) (rn_V (As := []) (rest := []) (ci := 5) (fs := [.ref x0, .int ts, .int tk, .ref tco, .ref t4, .ref t5, .ref t6, .int tv]) ⟨hx, hb, hml, hown, hts⟩ (c_X6_givers l D cA x1 x0 ts tk tco t4 t5 t6 tv) rfl (cwV 0 hts gX7_about_X6_givers rfl rfl rfl (by decide +kernel) ⟨Nat.le_of_ble_eq_true rfl, Nat.le_of_ble_eq_true rfl⟩) hK hP [1] rfl rfl rfl hl.1 rfl (Nat.le_of_ble_eq_true rfl) dX7_about_179 ⟨Nat.le_of_ble_eq_true rfl, Nat.le_of_ble_eq_true rfl⟩) ?_
    exact W.iret (v := tv) hx hb hr (fun t ht hW => ⟨congrArg (fun z => Outcome.returned (some (Value.int z))) (rfl), ht⟩) (fun _ h => by cases h) dX7_about_182
  · refine lv_tableIn (off := 182) (tgt := 183) hx hb dX7_about_1 (by decide) (by decide) (by decide) (by decide) ?_
    refine lv_aload_n hx hb dX7_about_183 rfl (lv_at hl 0 rfl) ?_
    refine va_get (D := D) (ci := 6) (v := .int x19) (C := RX7) (T := TX7) (N := 20) hx hb hts hin_X7 hown hK hP 0 rfl rfl 19 (by decide) (w_RX7_196) (fun _ h9 => h9) rfl dX7_about_184 ?_
    refine lv_if_eq (tgt := 194) hx hb dX7_about_187 (by decide) (fun c_187 => ?_) (fun c_187 => ?_)
    · skip
      refine lv_iconst (v := 0) hx hb dX7_about_194 (by decide) ?_
      exact W.iret (v := 0) hx hb hr (fun t ht hW => ⟨congrArg (fun z => Outcome.returned (some (Value.int z))) (rfl), ht⟩) (fun _ h => by cases h) dX7_about_195
    · exact absurd hd c_187
  · refine lv_tableIn (off := 195) (tgt := 196) hx hb dX7_about_1 (by decide) (by decide) (by decide) (by decide) ?_
    refine lv_aload_n hx hb dX7_about_196 rfl (lv_at hl 0 rfl) ?_
    refine rq_call1 (v := .int (-1)) (rn_V (As := []) (rest := []) (ci := 6) (fs := [.ref x0, .ref x1, .ref x2, .int x3, .ref x4, .ref x5, .ref x6, .ref x7, .ref x8, .ref x9, .ref x10, .ref x11, .int x12, .int x13, .int x14, .int x15, .int x16, .int x17, .int x18, .int x19]) ⟨hx, hb, hml, hown, hts⟩ (c_X7_aboutStaging_st l D cA h0 x0 x1 x2 x3 x4 x5 x6 x7 x8 x9 x10 x11 x12 x13 x14 x15 x16 x17 x18 x19 (by rw [hst]; decide)) rfl (cwV 0 hts gX7_about_X7_aboutStaging rfl rfl rfl (by decide +kernel) ⟨Nat.le_of_ble_eq_true rfl, Nat.le_of_ble_eq_true rfl⟩) hK hP [0] rfl rfl rfl hl.1 rfl (Nat.le_of_ble_eq_true rfl) dX7_about_197 ⟨Nat.le_of_ble_eq_true rfl, Nat.le_of_ble_eq_true rfl⟩) ?_
    exact W.iret (v := (-1)) hx hb hr (fun t ht hW => ⟨congrArg (fun z => Outcome.returned (some (Value.int z))) (rfl), ht⟩) (fun _ h => by cases h) dX7_about_200
  · refine lv_tableOut (tgt := 201) hx hb dX7_about_1 hsw (by decide) ?_
    refine lv_iconst (v := (-1)) hx hb dX7_about_201 (by decide) ?_
    exact W.iret (v := (-1)) hx hb hr (fun t ht hW => ⟨congrArg (fun z => Outcome.returned (some (Value.int z))) (abv_out hsw rfl), ht⟩) (fun _ h => by cases h) dX7_about_202
